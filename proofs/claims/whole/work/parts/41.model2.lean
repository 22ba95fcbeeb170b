set_option maxHeartbeats 8000000 in
set_option maxRecDepth 100000 in
theorem n_reckon_no (l : Launch) (G : va_G) (cy : Nat → ClassId) (L : List Nat) (F : Nat → va_E) (sz : Nat) (o : Nat) (qm : Nat → Nat) (Mm : SM) (Dd : SD) (Sl : SL) (Pp : SP) (Kr : SR) (Bk : SB) (Xx : SX) (hR : RepM cy L o qm Mm Dd Sl Pp Kr Bk Xx F) (hV : Val Mm Dd Sl Pp Kr Bk) (act x y into : Int32) (hact : ix 5 act = none)  : Met l yX9_reckon wsX9_reckon ({ frames := 3, cells := 0, slots := 0, locals := 73 }) (va_Pc [.ref o, .int act, .int x, .int y, .int into] (fun U => bQ G cy L F sz U U.heap)) (va_Qi (fun (r : Int32) (F' : Nat → va_E) => r = (sp_reckon Mm Xx act x y into).1 ∧ RepM cy L o qm (sp_reckon Mm Xx act x y into).2.1 Dd Sl Pp Kr Bk (sp_reckon Mm Xx act x y into).2.2 F') (fun F' t => va_P G vwCl (va_pl L F') t.heap) (va_A (va_pl L F) sz)) 0 0 (va_A (va_pl L F) sz) := by
  refine Met.ofW (cc := cX9_reckon) (maxL := 10) (ret := (some .int)) (by decide) rfl ?_
  intro p e s m args below meth c s₁ B hml hv
  obtain ⟨rfl, hsz, hP, hK, hD0⟩ := hv
  have hx := B.exec
  have hb := B.bytes
  have hr := B.returns
  have hts := atoms_spec (ws := wsX9_reckon) B.pre
  have hown : s.vm.findClass RX9 = some m.cls := findClass_of_methodNamed B.named
  have hlocks := B.notSynchronized
  have hinX9 : ∀ w ∈ wsX90, w ∈ wsX9_reckon := by decide +kernel
  subst hsz
  have hD := hD0.self F s.heap.size
  generalize hAe : va_A (va_pl L F) s.heap.size = A at hD ⊢
  have hA : ∀ q : Nat, s.heap.size ≤ q → A q := fun q h => by rw [← hAe]; exact Or.inr h
  have hS : va_S A s.heap s.heap [] := va_S.rf
  obtain ⟨⟨th, oc, hmo, hFo⟩, ⟨hm0, hF0⟩, ⟨hm1, hF1⟩, ⟨hm2, hF2⟩, ⟨hm3, hF3⟩, ⟨hm4, hF4⟩, ⟨hm5, hF5⟩, ⟨hm6, hF6⟩, ⟨hm7, hF7⟩, ⟨hm8, hF8⟩, ⟨hm9, hF9⟩, ⟨hm10, hF10⟩, ⟨hm11, hF11⟩, ⟨hm12, hF12⟩, ⟨hm13, hF13⟩, ⟨hm14, hF14⟩, ⟨hm15, hF15⟩, hne⟩ := id hR
  obtain ⟨hVM, hVD, hVS, hVP, hVK, hVB⟩ := hV
  have hl := lv_entry ([.ref o, .int act, .int x, .int y, .int into]) (n := 10) (Nat.le_of_ble_eq_true rfl)
  rw [lg_entry_eq]
  generalize (lg_sl ([.ref o, .int act, .int x, .int y, .int into]) ++ List.replicate (10 - (lg_sl ([.ref o, .int act, .int x, .int y, .int into])).length) Slot.unset).toArray = ls at hl ⊢
  have hl : lv_has ls 10 [(0, .ref o), (1, .int act), (2, .int x), (3, .int y), (4, .int into)] := hl
  rcases ixc 10 x with hi_x | ⟨j_x, hj_x, hi_x, ei_x⟩
  · rcases ixc 10 y with hi_y | ⟨j_y, hj_y, hi_y, ei_y⟩
    · rcases ixc 10 into with hi_into | ⟨j_into, hj_into, hi_into, ei_into⟩
      · refine lv_aload_n hx hb dX9_reckon_0 rfl (lv_at hl 0 rfl) ?_
        refine lv_iconst (v := 0) hx hb dX9_reckon_1 (by decide) ?_
        refine pg_put (ci := 8) (v := .int 0) (ty := .int) (C := RX9) (T := TX9) (N := 20) hx hb hts hinX9 tyX9 tyX9_ok nmX9 hown hK hP hD hS hmo hFo rfl 0 (by decide) (hts (.fieldLink RX9 61 "RopeDrumsModel" "thrown" "I") (by decide +kernel)) (fun _ h9 => h9) rfl (by decide +kernel) (rfl) (rfl) (Nat.le_of_ble_eq_true rfl) dX9_reckon_2 (fun H locs F1 eF1 hP hS => ?_)
        have eF1 : F1 = va_up F o (.inr (8, [.int 0, .ref (qm 0), .ref (qm 1), .ref (qm 2), .ref (qm 3), .ref (qm 4), .ref (qm 5), .ref (qm 6), .ref (qm 7), .int Pp.1, .ref (qm 8), .ref (qm 9), .ref (qm 10), .ref (qm 11), .ref (qm 12), .ref (qm 13), .ref (qm 14), .int Xx.1, .ref (qm 15), .long oc])) := eF1
        have hFo_1 : F1 o = .inr (8, [.int 0, .ref (qm 0), .ref (qm 1), .ref (qm 2), .ref (qm 3), .ref (qm 4), .ref (qm 5), .ref (qm 6), .ref (qm 7), .int Pp.1, .ref (qm 8), .ref (qm 9), .ref (qm 10), .ref (qm 11), .ref (qm 12), .ref (qm 13), .ref (qm 14), .int Xx.1, .ref (qm 15), .long oc]) := by rw [eF1]; exact va_up_self _ _ _
        have hFqm0_1 : F1 (qm 0) = cI (cy 1) 10 Mm.1 := by rw [eF1, va_up_ne _ _ (pl_ne hF0 hFo rfl)]; exact hF0
        have hFqm1_1 : F1 (qm 1) = cJ (cy 2) 10 Mm.2 := by rw [eF1, va_up_ne _ _ (pl_ne hF1 hFo rfl)]; exact hF1
        have hFqm2_1 : F1 (qm 2) = cD (cy 0) 6 Dd.1 := by rw [eF1, va_up_ne _ _ (pl_ne hF2 hFo rfl)]; exact hF2
        have hFqm3_1 : F1 (qm 3) = cD (cy 0) 6 Dd.2.1 := by rw [eF1, va_up_ne _ _ (pl_ne hF3 hFo rfl)]; exact hF3
        have hFqm4_1 : F1 (qm 4) = cD (cy 0) 6 Dd.2.2.1 := by rw [eF1, va_up_ne _ _ (pl_ne hF4 hFo rfl)]; exact hF4
        have hFqm5_1 : F1 (qm 5) = cJ (cy 2) 6 Dd.2.2.2 := by rw [eF1, va_up_ne _ _ (pl_ne hF5 hFo rfl)]; exact hF5
        have hFqm6_1 : F1 (qm 6) = cI (cy 1) 8 Sl.1 := by rw [eF1, va_up_ne _ _ (pl_ne hF6 hFo rfl)]; exact hF6
        have hFqm7_1 : F1 (qm 7) = cJ (cy 2) 128 Sl.2 := by rw [eF1, va_up_ne _ _ (pl_ne hF7 hFo rfl)]; exact hF7
        have hFqm8_1 : F1 (qm 8) = cI (cy 1) 30 Pp.2.1 := by rw [eF1, va_up_ne _ _ (pl_ne hF8 hFo rfl)]; exact hF8
        have hFqm9_1 : F1 (qm 9) = cI (cy 3) 30 Pp.2.2 := by rw [eF1, va_up_ne _ _ (pl_ne hF9 hFo rfl)]; exact hF9
        have hFqm10_1 : F1 (qm 10) = cI (cy 1) 5 Kr.1 := by rw [eF1, va_up_ne _ _ (pl_ne hF10 hFo rfl)]; exact hF10
        have hFqm11_1 : F1 (qm 11) = cI (cy 3) 5 Kr.2.1 := by rw [eF1, va_up_ne _ _ (pl_ne hF11 hFo rfl)]; exact hF11
        have hFqm12_1 : F1 (qm 12) = cI (cy 1) 60 Kr.2.2 := by rw [eF1, va_up_ne _ _ (pl_ne hF12 hFo rfl)]; exact hF12
        have hFqm13_1 : F1 (qm 13) = cI (cy 1) 4 Bk.1 := by rw [eF1, va_up_ne _ _ (pl_ne hF13 hFo rfl)]; exact hF13
        have hFqm14_1 : F1 (qm 14) = cD (cy 0) 4 Bk.2 := by rw [eF1, va_up_ne _ _ (pl_ne hF14 hFo rfl)]; exact hF14
        have hFqm15_1 : F1 (qm 15) = cI (cy 1) 6 Xx.2 := by rw [eF1, va_up_ne _ _ (pl_ne hF15 hFo rfl)]; exact hF15
        refine lv_iload_n hx hb dX9_reckon_5 rfl (lv_at hl 2 rfl) ?_
        refine vp_callSi (W.runS (As := [.int x]) (rest := []) ⟨hx, hb, hml, hown, hts⟩ (c9_isMeter l x) (va_cwS 1 hts gX9_reckon_X9_isMeter rfl rfl rfl (by decide +kernel) ⟨Nat.le_of_ble_eq_true rfl, Nat.le_of_ble_eq_true rfl⟩) (preS_of okT (trivial)) rfl rfl hl.1 rfl (lv_room (Nat.le_of_ble_eq_true rfl)) dX9_reckon_6 ⟨Nat.le_of_ble_eq_true rfl, Nat.le_of_ble_eq_true rfl⟩) (fun r2 hr2 => ?_)
        rw [isx0 hi_x] at hr2
        subst hr2
        refine lv_if_eq (tgt := 27) hx hb dX9_reckon_9 (by decide) (fun c3 => ?_) (fun c3 => absurd (by decide) c3)
        refine lv_sipush (v := -1001) hx hb dX9_reckon_27 (by decide) ?_
        exact W.iret (v := -1001) hx hb hr (fun t ht hW => ⟨⟨-1001, F1, rfl, (by have hsp : sp_reckon Mm Xx act x y into = (-1001, Mm, Xx) := (by unfold sp_reckon; rw [hi_x]); rw [hsp]; exact ⟨rfl, (by exact ⟨⟨_, _, hmo, hFo_1⟩, ⟨hm0, hFqm0_1⟩, ⟨hm1, hFqm1_1⟩, ⟨hm2, hFqm2_1⟩, ⟨hm3, hFqm3_1⟩, ⟨hm4, hFqm4_1⟩, ⟨hm5, hFqm5_1⟩, ⟨hm6, hFqm6_1⟩, ⟨hm7, hFqm7_1⟩, ⟨hm8, hFqm8_1⟩, ⟨hm9, hFqm9_1⟩, ⟨hm10, hFqm10_1⟩, ⟨hm11, hFqm11_1⟩, ⟨hm12, hFqm12_1⟩, ⟨hm13, hFqm13_1⟩, ⟨hm14, hFqm14_1⟩, ⟨hm15, hFqm15_1⟩, hne⟩)⟩), (by show va_P _ _ _ t.heap; rw [ht]; exact hP)⟩, hS.F ht⟩) hS.2.2 dX9_reckon_30
      · subst ei_into
        refine lv_aload_n hx hb dX9_reckon_0 rfl (lv_at hl 0 rfl) ?_
        refine lv_iconst (v := 0) hx hb dX9_reckon_1 (by decide) ?_
        refine pg_put (ci := 8) (v := .int 0) (ty := .int) (C := RX9) (T := TX9) (N := 20) hx hb hts hinX9 tyX9 tyX9_ok nmX9 hown hK hP hD hS hmo hFo rfl 0 (by decide) (hts (.fieldLink RX9 61 "RopeDrumsModel" "thrown" "I") (by decide +kernel)) (fun _ h9 => h9) rfl (by decide +kernel) (rfl) (rfl) (Nat.le_of_ble_eq_true rfl) dX9_reckon_2 (fun H locs F4 eF4 hP hS => ?_)
        have eF4 : F4 = va_up F o (.inr (8, [.int 0, .ref (qm 0), .ref (qm 1), .ref (qm 2), .ref (qm 3), .ref (qm 4), .ref (qm 5), .ref (qm 6), .ref (qm 7), .int Pp.1, .ref (qm 8), .ref (qm 9), .ref (qm 10), .ref (qm 11), .ref (qm 12), .ref (qm 13), .ref (qm 14), .int Xx.1, .ref (qm 15), .long oc])) := eF4
        have hFo_4 : F4 o = .inr (8, [.int 0, .ref (qm 0), .ref (qm 1), .ref (qm 2), .ref (qm 3), .ref (qm 4), .ref (qm 5), .ref (qm 6), .ref (qm 7), .int Pp.1, .ref (qm 8), .ref (qm 9), .ref (qm 10), .ref (qm 11), .ref (qm 12), .ref (qm 13), .ref (qm 14), .int Xx.1, .ref (qm 15), .long oc]) := by rw [eF4]; exact va_up_self _ _ _
        have hFqm0_4 : F4 (qm 0) = cI (cy 1) 10 Mm.1 := by rw [eF4, va_up_ne _ _ (pl_ne hF0 hFo rfl)]; exact hF0
        have hFqm1_4 : F4 (qm 1) = cJ (cy 2) 10 Mm.2 := by rw [eF4, va_up_ne _ _ (pl_ne hF1 hFo rfl)]; exact hF1
        have hFqm2_4 : F4 (qm 2) = cD (cy 0) 6 Dd.1 := by rw [eF4, va_up_ne _ _ (pl_ne hF2 hFo rfl)]; exact hF2
        have hFqm3_4 : F4 (qm 3) = cD (cy 0) 6 Dd.2.1 := by rw [eF4, va_up_ne _ _ (pl_ne hF3 hFo rfl)]; exact hF3
        have hFqm4_4 : F4 (qm 4) = cD (cy 0) 6 Dd.2.2.1 := by rw [eF4, va_up_ne _ _ (pl_ne hF4 hFo rfl)]; exact hF4
        have hFqm5_4 : F4 (qm 5) = cJ (cy 2) 6 Dd.2.2.2 := by rw [eF4, va_up_ne _ _ (pl_ne hF5 hFo rfl)]; exact hF5
        have hFqm6_4 : F4 (qm 6) = cI (cy 1) 8 Sl.1 := by rw [eF4, va_up_ne _ _ (pl_ne hF6 hFo rfl)]; exact hF6
        have hFqm7_4 : F4 (qm 7) = cJ (cy 2) 128 Sl.2 := by rw [eF4, va_up_ne _ _ (pl_ne hF7 hFo rfl)]; exact hF7
        have hFqm8_4 : F4 (qm 8) = cI (cy 1) 30 Pp.2.1 := by rw [eF4, va_up_ne _ _ (pl_ne hF8 hFo rfl)]; exact hF8
        have hFqm9_4 : F4 (qm 9) = cI (cy 3) 30 Pp.2.2 := by rw [eF4, va_up_ne _ _ (pl_ne hF9 hFo rfl)]; exact hF9
        have hFqm10_4 : F4 (qm 10) = cI (cy 1) 5 Kr.1 := by rw [eF4, va_up_ne _ _ (pl_ne hF10 hFo rfl)]; exact hF10
        have hFqm11_4 : F4 (qm 11) = cI (cy 3) 5 Kr.2.1 := by rw [eF4, va_up_ne _ _ (pl_ne hF11 hFo rfl)]; exact hF11
        have hFqm12_4 : F4 (qm 12) = cI (cy 1) 60 Kr.2.2 := by rw [eF4, va_up_ne _ _ (pl_ne hF12 hFo rfl)]; exact hF12
        have hFqm13_4 : F4 (qm 13) = cI (cy 1) 4 Bk.1 := by rw [eF4, va_up_ne _ _ (pl_ne hF13 hFo rfl)]; exact hF13
        have hFqm14_4 : F4 (qm 14) = cD (cy 0) 4 Bk.2 := by rw [eF4, va_up_ne _ _ (pl_ne hF14 hFo rfl)]; exact hF14
        have hFqm15_4 : F4 (qm 15) = cI (cy 1) 6 Xx.2 := by rw [eF4, va_up_ne _ _ (pl_ne hF15 hFo rfl)]; exact hF15
        refine lv_iload_n hx hb dX9_reckon_5 rfl (lv_at hl 2 rfl) ?_
        refine vp_callSi (W.runS (As := [.int x]) (rest := []) ⟨hx, hb, hml, hown, hts⟩ (c9_isMeter l x) (va_cwS 1 hts gX9_reckon_X9_isMeter rfl rfl rfl (by decide +kernel) ⟨Nat.le_of_ble_eq_true rfl, Nat.le_of_ble_eq_true rfl⟩) (preS_of okT (trivial)) rfl rfl hl.1 rfl (lv_room (Nat.le_of_ble_eq_true rfl)) dX9_reckon_6 ⟨Nat.le_of_ble_eq_true rfl, Nat.le_of_ble_eq_true rfl⟩) (fun r5 hr5 => ?_)
        rw [isx0 hi_x] at hr5
        subst hr5
        refine lv_if_eq (tgt := 27) hx hb dX9_reckon_9 (by decide) (fun c6 => ?_) (fun c6 => absurd (by decide) c6)
        refine lv_sipush (v := -1001) hx hb dX9_reckon_27 (by decide) ?_
        exact W.iret (v := -1001) hx hb hr (fun t ht hW => ⟨⟨-1001, F4, rfl, (by have hsp : sp_reckon Mm Xx act x y (nI j_into) = (-1001, Mm, Xx) := (by unfold sp_reckon; rw [hi_x]); rw [hsp]; exact ⟨rfl, (by exact ⟨⟨_, _, hmo, hFo_4⟩, ⟨hm0, hFqm0_4⟩, ⟨hm1, hFqm1_4⟩, ⟨hm2, hFqm2_4⟩, ⟨hm3, hFqm3_4⟩, ⟨hm4, hFqm4_4⟩, ⟨hm5, hFqm5_4⟩, ⟨hm6, hFqm6_4⟩, ⟨hm7, hFqm7_4⟩, ⟨hm8, hFqm8_4⟩, ⟨hm9, hFqm9_4⟩, ⟨hm10, hFqm10_4⟩, ⟨hm11, hFqm11_4⟩, ⟨hm12, hFqm12_4⟩, ⟨hm13, hFqm13_4⟩, ⟨hm14, hFqm14_4⟩, ⟨hm15, hFqm15_4⟩, hne⟩)⟩), (by show va_P _ _ _ t.heap; rw [ht]; exact hP)⟩, hS.F ht⟩) hS.2.2 dX9_reckon_30
    · subst ei_y
      rcases ixc 10 into with hi_into | ⟨j_into, hj_into, hi_into, ei_into⟩
      · refine lv_aload_n hx hb dX9_reckon_0 rfl (lv_at hl 0 rfl) ?_
        refine lv_iconst (v := 0) hx hb dX9_reckon_1 (by decide) ?_
        refine pg_put (ci := 8) (v := .int 0) (ty := .int) (C := RX9) (T := TX9) (N := 20) hx hb hts hinX9 tyX9 tyX9_ok nmX9 hown hK hP hD hS hmo hFo rfl 0 (by decide) (hts (.fieldLink RX9 61 "RopeDrumsModel" "thrown" "I") (by decide +kernel)) (fun _ h9 => h9) rfl (by decide +kernel) (rfl) (rfl) (Nat.le_of_ble_eq_true rfl) dX9_reckon_2 (fun H locs F7 eF7 hP hS => ?_)
        have eF7 : F7 = va_up F o (.inr (8, [.int 0, .ref (qm 0), .ref (qm 1), .ref (qm 2), .ref (qm 3), .ref (qm 4), .ref (qm 5), .ref (qm 6), .ref (qm 7), .int Pp.1, .ref (qm 8), .ref (qm 9), .ref (qm 10), .ref (qm 11), .ref (qm 12), .ref (qm 13), .ref (qm 14), .int Xx.1, .ref (qm 15), .long oc])) := eF7
        have hFo_7 : F7 o = .inr (8, [.int 0, .ref (qm 0), .ref (qm 1), .ref (qm 2), .ref (qm 3), .ref (qm 4), .ref (qm 5), .ref (qm 6), .ref (qm 7), .int Pp.1, .ref (qm 8), .ref (qm 9), .ref (qm 10), .ref (qm 11), .ref (qm 12), .ref (qm 13), .ref (qm 14), .int Xx.1, .ref (qm 15), .long oc]) := by rw [eF7]; exact va_up_self _ _ _
        have hFqm0_7 : F7 (qm 0) = cI (cy 1) 10 Mm.1 := by rw [eF7, va_up_ne _ _ (pl_ne hF0 hFo rfl)]; exact hF0
        have hFqm1_7 : F7 (qm 1) = cJ (cy 2) 10 Mm.2 := by rw [eF7, va_up_ne _ _ (pl_ne hF1 hFo rfl)]; exact hF1
        have hFqm2_7 : F7 (qm 2) = cD (cy 0) 6 Dd.1 := by rw [eF7, va_up_ne _ _ (pl_ne hF2 hFo rfl)]; exact hF2
        have hFqm3_7 : F7 (qm 3) = cD (cy 0) 6 Dd.2.1 := by rw [eF7, va_up_ne _ _ (pl_ne hF3 hFo rfl)]; exact hF3
        have hFqm4_7 : F7 (qm 4) = cD (cy 0) 6 Dd.2.2.1 := by rw [eF7, va_up_ne _ _ (pl_ne hF4 hFo rfl)]; exact hF4
        have hFqm5_7 : F7 (qm 5) = cJ (cy 2) 6 Dd.2.2.2 := by rw [eF7, va_up_ne _ _ (pl_ne hF5 hFo rfl)]; exact hF5
        have hFqm6_7 : F7 (qm 6) = cI (cy 1) 8 Sl.1 := by rw [eF7, va_up_ne _ _ (pl_ne hF6 hFo rfl)]; exact hF6
        have hFqm7_7 : F7 (qm 7) = cJ (cy 2) 128 Sl.2 := by rw [eF7, va_up_ne _ _ (pl_ne hF7 hFo rfl)]; exact hF7
        have hFqm8_7 : F7 (qm 8) = cI (cy 1) 30 Pp.2.1 := by rw [eF7, va_up_ne _ _ (pl_ne hF8 hFo rfl)]; exact hF8
        have hFqm9_7 : F7 (qm 9) = cI (cy 3) 30 Pp.2.2 := by rw [eF7, va_up_ne _ _ (pl_ne hF9 hFo rfl)]; exact hF9
        have hFqm10_7 : F7 (qm 10) = cI (cy 1) 5 Kr.1 := by rw [eF7, va_up_ne _ _ (pl_ne hF10 hFo rfl)]; exact hF10
        have hFqm11_7 : F7 (qm 11) = cI (cy 3) 5 Kr.2.1 := by rw [eF7, va_up_ne _ _ (pl_ne hF11 hFo rfl)]; exact hF11
        have hFqm12_7 : F7 (qm 12) = cI (cy 1) 60 Kr.2.2 := by rw [eF7, va_up_ne _ _ (pl_ne hF12 hFo rfl)]; exact hF12
        have hFqm13_7 : F7 (qm 13) = cI (cy 1) 4 Bk.1 := by rw [eF7, va_up_ne _ _ (pl_ne hF13 hFo rfl)]; exact hF13
        have hFqm14_7 : F7 (qm 14) = cD (cy 0) 4 Bk.2 := by rw [eF7, va_up_ne _ _ (pl_ne hF14 hFo rfl)]; exact hF14
        have hFqm15_7 : F7 (qm 15) = cI (cy 1) 6 Xx.2 := by rw [eF7, va_up_ne _ _ (pl_ne hF15 hFo rfl)]; exact hF15
        refine lv_iload_n hx hb dX9_reckon_5 rfl (lv_at hl 2 rfl) ?_
        refine vp_callSi (W.runS (As := [.int x]) (rest := []) ⟨hx, hb, hml, hown, hts⟩ (c9_isMeter l x) (va_cwS 1 hts gX9_reckon_X9_isMeter rfl rfl rfl (by decide +kernel) ⟨Nat.le_of_ble_eq_true rfl, Nat.le_of_ble_eq_true rfl⟩) (preS_of okT (trivial)) rfl rfl hl.1 rfl (lv_room (Nat.le_of_ble_eq_true rfl)) dX9_reckon_6 ⟨Nat.le_of_ble_eq_true rfl, Nat.le_of_ble_eq_true rfl⟩) (fun r8 hr8 => ?_)
        rw [isx0 hi_x] at hr8
        subst hr8
        refine lv_if_eq (tgt := 27) hx hb dX9_reckon_9 (by decide) (fun c9 => ?_) (fun c9 => absurd (by decide) c9)
        refine lv_sipush (v := -1001) hx hb dX9_reckon_27 (by decide) ?_
        exact W.iret (v := -1001) hx hb hr (fun t ht hW => ⟨⟨-1001, F7, rfl, (by have hsp : sp_reckon Mm Xx act x (nI j_y) into = (-1001, Mm, Xx) := (by unfold sp_reckon; rw [hi_x]); rw [hsp]; exact ⟨rfl, (by exact ⟨⟨_, _, hmo, hFo_7⟩, ⟨hm0, hFqm0_7⟩, ⟨hm1, hFqm1_7⟩, ⟨hm2, hFqm2_7⟩, ⟨hm3, hFqm3_7⟩, ⟨hm4, hFqm4_7⟩, ⟨hm5, hFqm5_7⟩, ⟨hm6, hFqm6_7⟩, ⟨hm7, hFqm7_7⟩, ⟨hm8, hFqm8_7⟩, ⟨hm9, hFqm9_7⟩, ⟨hm10, hFqm10_7⟩, ⟨hm11, hFqm11_7⟩, ⟨hm12, hFqm12_7⟩, ⟨hm13, hFqm13_7⟩, ⟨hm14, hFqm14_7⟩, ⟨hm15, hFqm15_7⟩, hne⟩)⟩), (by show va_P _ _ _ t.heap; rw [ht]; exact hP)⟩, hS.F ht⟩) hS.2.2 dX9_reckon_30
      · subst ei_into
        refine lv_aload_n hx hb dX9_reckon_0 rfl (lv_at hl 0 rfl) ?_
        refine lv_iconst (v := 0) hx hb dX9_reckon_1 (by decide) ?_
        refine pg_put (ci := 8) (v := .int 0) (ty := .int) (C := RX9) (T := TX9) (N := 20) hx hb hts hinX9 tyX9 tyX9_ok nmX9 hown hK hP hD hS hmo hFo rfl 0 (by decide) (hts (.fieldLink RX9 61 "RopeDrumsModel" "thrown" "I") (by decide +kernel)) (fun _ h9 => h9) rfl (by decide +kernel) (rfl) (rfl) (Nat.le_of_ble_eq_true rfl) dX9_reckon_2 (fun H locs F10 eF10 hP hS => ?_)
        have eF10 : F10 = va_up F o (.inr (8, [.int 0, .ref (qm 0), .ref (qm 1), .ref (qm 2), .ref (qm 3), .ref (qm 4), .ref (qm 5), .ref (qm 6), .ref (qm 7), .int Pp.1, .ref (qm 8), .ref (qm 9), .ref (qm 10), .ref (qm 11), .ref (qm 12), .ref (qm 13), .ref (qm 14), .int Xx.1, .ref (qm 15), .long oc])) := eF10
        have hFo_10 : F10 o = .inr (8, [.int 0, .ref (qm 0), .ref (qm 1), .ref (qm 2), .ref (qm 3), .ref (qm 4), .ref (qm 5), .ref (qm 6), .ref (qm 7), .int Pp.1, .ref (qm 8), .ref (qm 9), .ref (qm 10), .ref (qm 11), .ref (qm 12), .ref (qm 13), .ref (qm 14), .int Xx.1, .ref (qm 15), .long oc]) := by rw [eF10]; exact va_up_self _ _ _
        have hFqm0_10 : F10 (qm 0) = cI (cy 1) 10 Mm.1 := by rw [eF10, va_up_ne _ _ (pl_ne hF0 hFo rfl)]; exact hF0
        have hFqm1_10 : F10 (qm 1) = cJ (cy 2) 10 Mm.2 := by rw [eF10, va_up_ne _ _ (pl_ne hF1 hFo rfl)]; exact hF1
        have hFqm2_10 : F10 (qm 2) = cD (cy 0) 6 Dd.1 := by rw [eF10, va_up_ne _ _ (pl_ne hF2 hFo rfl)]; exact hF2
        have hFqm3_10 : F10 (qm 3) = cD (cy 0) 6 Dd.2.1 := by rw [eF10, va_up_ne _ _ (pl_ne hF3 hFo rfl)]; exact hF3
        have hFqm4_10 : F10 (qm 4) = cD (cy 0) 6 Dd.2.2.1 := by rw [eF10, va_up_ne _ _ (pl_ne hF4 hFo rfl)]; exact hF4
        have hFqm5_10 : F10 (qm 5) = cJ (cy 2) 6 Dd.2.2.2 := by rw [eF10, va_up_ne _ _ (pl_ne hF5 hFo rfl)]; exact hF5
        have hFqm6_10 : F10 (qm 6) = cI (cy 1) 8 Sl.1 := by rw [eF10, va_up_ne _ _ (pl_ne hF6 hFo rfl)]; exact hF6
        have hFqm7_10 : F10 (qm 7) = cJ (cy 2) 128 Sl.2 := by rw [eF10, va_up_ne _ _ (pl_ne hF7 hFo rfl)]; exact hF7
        have hFqm8_10 : F10 (qm 8) = cI (cy 1) 30 Pp.2.1 := by rw [eF10, va_up_ne _ _ (pl_ne hF8 hFo rfl)]; exact hF8
        have hFqm9_10 : F10 (qm 9) = cI (cy 3) 30 Pp.2.2 := by rw [eF10, va_up_ne _ _ (pl_ne hF9 hFo rfl)]; exact hF9
        have hFqm10_10 : F10 (qm 10) = cI (cy 1) 5 Kr.1 := by rw [eF10, va_up_ne _ _ (pl_ne hF10 hFo rfl)]; exact hF10
        have hFqm11_10 : F10 (qm 11) = cI (cy 3) 5 Kr.2.1 := by rw [eF10, va_up_ne _ _ (pl_ne hF11 hFo rfl)]; exact hF11
        have hFqm12_10 : F10 (qm 12) = cI (cy 1) 60 Kr.2.2 := by rw [eF10, va_up_ne _ _ (pl_ne hF12 hFo rfl)]; exact hF12
        have hFqm13_10 : F10 (qm 13) = cI (cy 1) 4 Bk.1 := by rw [eF10, va_up_ne _ _ (pl_ne hF13 hFo rfl)]; exact hF13
        have hFqm14_10 : F10 (qm 14) = cD (cy 0) 4 Bk.2 := by rw [eF10, va_up_ne _ _ (pl_ne hF14 hFo rfl)]; exact hF14
        have hFqm15_10 : F10 (qm 15) = cI (cy 1) 6 Xx.2 := by rw [eF10, va_up_ne _ _ (pl_ne hF15 hFo rfl)]; exact hF15
        refine lv_iload_n hx hb dX9_reckon_5 rfl (lv_at hl 2 rfl) ?_
        refine vp_callSi (W.runS (As := [.int x]) (rest := []) ⟨hx, hb, hml, hown, hts⟩ (c9_isMeter l x) (va_cwS 1 hts gX9_reckon_X9_isMeter rfl rfl rfl (by decide +kernel) ⟨Nat.le_of_ble_eq_true rfl, Nat.le_of_ble_eq_true rfl⟩) (preS_of okT (trivial)) rfl rfl hl.1 rfl (lv_room (Nat.le_of_ble_eq_true rfl)) dX9_reckon_6 ⟨Nat.le_of_ble_eq_true rfl, Nat.le_of_ble_eq_true rfl⟩) (fun r11 hr11 => ?_)
        rw [isx0 hi_x] at hr11
        subst hr11
        refine lv_if_eq (tgt := 27) hx hb dX9_reckon_9 (by decide) (fun c12 => ?_) (fun c12 => absurd (by decide) c12)
        refine lv_sipush (v := -1001) hx hb dX9_reckon_27 (by decide) ?_
        exact W.iret (v := -1001) hx hb hr (fun t ht hW => ⟨⟨-1001, F10, rfl, (by have hsp : sp_reckon Mm Xx act x (nI j_y) (nI j_into) = (-1001, Mm, Xx) := (by unfold sp_reckon; rw [hi_x]); rw [hsp]; exact ⟨rfl, (by exact ⟨⟨_, _, hmo, hFo_10⟩, ⟨hm0, hFqm0_10⟩, ⟨hm1, hFqm1_10⟩, ⟨hm2, hFqm2_10⟩, ⟨hm3, hFqm3_10⟩, ⟨hm4, hFqm4_10⟩, ⟨hm5, hFqm5_10⟩, ⟨hm6, hFqm6_10⟩, ⟨hm7, hFqm7_10⟩, ⟨hm8, hFqm8_10⟩, ⟨hm9, hFqm9_10⟩, ⟨hm10, hFqm10_10⟩, ⟨hm11, hFqm11_10⟩, ⟨hm12, hFqm12_10⟩, ⟨hm13, hFqm13_10⟩, ⟨hm14, hFqm14_10⟩, ⟨hm15, hFqm15_10⟩, hne⟩)⟩), (by show va_P _ _ _ t.heap; rw [ht]; exact hP)⟩, hS.F ht⟩) hS.2.2 dX9_reckon_30
  · subst ei_x
    rcases ixc 10 y with hi_y | ⟨j_y, hj_y, hi_y, ei_y⟩
    · rcases ixc 10 into with hi_into | ⟨j_into, hj_into, hi_into, ei_into⟩
      · refine lv_aload_n hx hb dX9_reckon_0 rfl (lv_at hl 0 rfl) ?_
        refine lv_iconst (v := 0) hx hb dX9_reckon_1 (by decide) ?_
        refine pg_put (ci := 8) (v := .int 0) (ty := .int) (C := RX9) (T := TX9) (N := 20) hx hb hts hinX9 tyX9 tyX9_ok nmX9 hown hK hP hD hS hmo hFo rfl 0 (by decide) (hts (.fieldLink RX9 61 "RopeDrumsModel" "thrown" "I") (by decide +kernel)) (fun _ h9 => h9) rfl (by decide +kernel) (rfl) (rfl) (Nat.le_of_ble_eq_true rfl) dX9_reckon_2 (fun H locs F13 eF13 hP hS => ?_)
        have eF13 : F13 = va_up F o (.inr (8, [.int 0, .ref (qm 0), .ref (qm 1), .ref (qm 2), .ref (qm 3), .ref (qm 4), .ref (qm 5), .ref (qm 6), .ref (qm 7), .int Pp.1, .ref (qm 8), .ref (qm 9), .ref (qm 10), .ref (qm 11), .ref (qm 12), .ref (qm 13), .ref (qm 14), .int Xx.1, .ref (qm 15), .long oc])) := eF13
        have hFo_13 : F13 o = .inr (8, [.int 0, .ref (qm 0), .ref (qm 1), .ref (qm 2), .ref (qm 3), .ref (qm 4), .ref (qm 5), .ref (qm 6), .ref (qm 7), .int Pp.1, .ref (qm 8), .ref (qm 9), .ref (qm 10), .ref (qm 11), .ref (qm 12), .ref (qm 13), .ref (qm 14), .int Xx.1, .ref (qm 15), .long oc]) := by rw [eF13]; exact va_up_self _ _ _
        have hFqm0_13 : F13 (qm 0) = cI (cy 1) 10 Mm.1 := by rw [eF13, va_up_ne _ _ (pl_ne hF0 hFo rfl)]; exact hF0
        have hFqm1_13 : F13 (qm 1) = cJ (cy 2) 10 Mm.2 := by rw [eF13, va_up_ne _ _ (pl_ne hF1 hFo rfl)]; exact hF1
        have hFqm2_13 : F13 (qm 2) = cD (cy 0) 6 Dd.1 := by rw [eF13, va_up_ne _ _ (pl_ne hF2 hFo rfl)]; exact hF2
        have hFqm3_13 : F13 (qm 3) = cD (cy 0) 6 Dd.2.1 := by rw [eF13, va_up_ne _ _ (pl_ne hF3 hFo rfl)]; exact hF3
        have hFqm4_13 : F13 (qm 4) = cD (cy 0) 6 Dd.2.2.1 := by rw [eF13, va_up_ne _ _ (pl_ne hF4 hFo rfl)]; exact hF4
        have hFqm5_13 : F13 (qm 5) = cJ (cy 2) 6 Dd.2.2.2 := by rw [eF13, va_up_ne _ _ (pl_ne hF5 hFo rfl)]; exact hF5
        have hFqm6_13 : F13 (qm 6) = cI (cy 1) 8 Sl.1 := by rw [eF13, va_up_ne _ _ (pl_ne hF6 hFo rfl)]; exact hF6
        have hFqm7_13 : F13 (qm 7) = cJ (cy 2) 128 Sl.2 := by rw [eF13, va_up_ne _ _ (pl_ne hF7 hFo rfl)]; exact hF7
        have hFqm8_13 : F13 (qm 8) = cI (cy 1) 30 Pp.2.1 := by rw [eF13, va_up_ne _ _ (pl_ne hF8 hFo rfl)]; exact hF8
        have hFqm9_13 : F13 (qm 9) = cI (cy 3) 30 Pp.2.2 := by rw [eF13, va_up_ne _ _ (pl_ne hF9 hFo rfl)]; exact hF9
        have hFqm10_13 : F13 (qm 10) = cI (cy 1) 5 Kr.1 := by rw [eF13, va_up_ne _ _ (pl_ne hF10 hFo rfl)]; exact hF10
        have hFqm11_13 : F13 (qm 11) = cI (cy 3) 5 Kr.2.1 := by rw [eF13, va_up_ne _ _ (pl_ne hF11 hFo rfl)]; exact hF11
        have hFqm12_13 : F13 (qm 12) = cI (cy 1) 60 Kr.2.2 := by rw [eF13, va_up_ne _ _ (pl_ne hF12 hFo rfl)]; exact hF12
        have hFqm13_13 : F13 (qm 13) = cI (cy 1) 4 Bk.1 := by rw [eF13, va_up_ne _ _ (pl_ne hF13 hFo rfl)]; exact hF13
        have hFqm14_13 : F13 (qm 14) = cD (cy 0) 4 Bk.2 := by rw [eF13, va_up_ne _ _ (pl_ne hF14 hFo rfl)]; exact hF14
        have hFqm15_13 : F13 (qm 15) = cI (cy 1) 6 Xx.2 := by rw [eF13, va_up_ne _ _ (pl_ne hF15 hFo rfl)]; exact hF15
        refine lv_iload_n hx hb dX9_reckon_5 rfl (lv_at hl 2 rfl) ?_
        refine vp_callSi (W.runS (As := [.int (nI j_x)]) (rest := []) ⟨hx, hb, hml, hown, hts⟩ (c9_isMeter l (nI j_x)) (va_cwS 1 hts gX9_reckon_X9_isMeter rfl rfl rfl (by decide +kernel) ⟨Nat.le_of_ble_eq_true rfl, Nat.le_of_ble_eq_true rfl⟩) (preS_of okT (trivial)) rfl rfl hl.1 rfl (lv_room (Nat.le_of_ble_eq_true rfl)) dX9_reckon_6 ⟨Nat.le_of_ble_eq_true rfl, Nat.le_of_ble_eq_true rfl⟩) (fun r14 hr14 => ?_)
        rw [isx1 hi_x] at hr14
        subst hr14
        refine lv_if_eq (tgt := 27) hx hb dX9_reckon_9 (by decide) (fun c15 => absurd c15 (by decide)) (fun c15 => ?_)
        refine lv_iload_n hx hb dX9_reckon_12 rfl (lv_at hl 3 rfl) ?_
        refine vp_callSi (W.runS (As := [.int y]) (rest := []) ⟨hx, hb, hml, hown, hts⟩ (c9_isMeter l y) (va_cwS 1 hts gX9_reckon_X9_isMeter rfl rfl rfl (by decide +kernel) ⟨Nat.le_of_ble_eq_true rfl, Nat.le_of_ble_eq_true rfl⟩) (preS_of okT (trivial)) rfl rfl hl.1 rfl (lv_room (Nat.le_of_ble_eq_true rfl)) dX9_reckon_13 ⟨Nat.le_of_ble_eq_true rfl, Nat.le_of_ble_eq_true rfl⟩) (fun r16 hr16 => ?_)
        rw [isx0 hi_y] at hr16
        subst hr16
        refine lv_if_eq (tgt := 27) hx hb dX9_reckon_16 (by decide) (fun c17 => ?_) (fun c17 => absurd (by decide) c17)
        refine lv_sipush (v := -1001) hx hb dX9_reckon_27 (by decide) ?_
        exact W.iret (v := -1001) hx hb hr (fun t ht hW => ⟨⟨-1001, F13, rfl, (by have hsp : sp_reckon Mm Xx act (nI j_x) y into = (-1001, Mm, Xx) := (by unfold sp_reckon; rw [hi_x, hi_y]); rw [hsp]; exact ⟨rfl, (by exact ⟨⟨_, _, hmo, hFo_13⟩, ⟨hm0, hFqm0_13⟩, ⟨hm1, hFqm1_13⟩, ⟨hm2, hFqm2_13⟩, ⟨hm3, hFqm3_13⟩, ⟨hm4, hFqm4_13⟩, ⟨hm5, hFqm5_13⟩, ⟨hm6, hFqm6_13⟩, ⟨hm7, hFqm7_13⟩, ⟨hm8, hFqm8_13⟩, ⟨hm9, hFqm9_13⟩, ⟨hm10, hFqm10_13⟩, ⟨hm11, hFqm11_13⟩, ⟨hm12, hFqm12_13⟩, ⟨hm13, hFqm13_13⟩, ⟨hm14, hFqm14_13⟩, ⟨hm15, hFqm15_13⟩, hne⟩)⟩), (by show va_P _ _ _ t.heap; rw [ht]; exact hP)⟩, hS.F ht⟩) hS.2.2 dX9_reckon_30
      · subst ei_into
        refine lv_aload_n hx hb dX9_reckon_0 rfl (lv_at hl 0 rfl) ?_
        refine lv_iconst (v := 0) hx hb dX9_reckon_1 (by decide) ?_
        refine pg_put (ci := 8) (v := .int 0) (ty := .int) (C := RX9) (T := TX9) (N := 20) hx hb hts hinX9 tyX9 tyX9_ok nmX9 hown hK hP hD hS hmo hFo rfl 0 (by decide) (hts (.fieldLink RX9 61 "RopeDrumsModel" "thrown" "I") (by decide +kernel)) (fun _ h9 => h9) rfl (by decide +kernel) (rfl) (rfl) (Nat.le_of_ble_eq_true rfl) dX9_reckon_2 (fun H locs F18 eF18 hP hS => ?_)
        have eF18 : F18 = va_up F o (.inr (8, [.int 0, .ref (qm 0), .ref (qm 1), .ref (qm 2), .ref (qm 3), .ref (qm 4), .ref (qm 5), .ref (qm 6), .ref (qm 7), .int Pp.1, .ref (qm 8), .ref (qm 9), .ref (qm 10), .ref (qm 11), .ref (qm 12), .ref (qm 13), .ref (qm 14), .int Xx.1, .ref (qm 15), .long oc])) := eF18
        have hFo_18 : F18 o = .inr (8, [.int 0, .ref (qm 0), .ref (qm 1), .ref (qm 2), .ref (qm 3), .ref (qm 4), .ref (qm 5), .ref (qm 6), .ref (qm 7), .int Pp.1, .ref (qm 8), .ref (qm 9), .ref (qm 10), .ref (qm 11), .ref (qm 12), .ref (qm 13), .ref (qm 14), .int Xx.1, .ref (qm 15), .long oc]) := by rw [eF18]; exact va_up_self _ _ _
        have hFqm0_18 : F18 (qm 0) = cI (cy 1) 10 Mm.1 := by rw [eF18, va_up_ne _ _ (pl_ne hF0 hFo rfl)]; exact hF0
        have hFqm1_18 : F18 (qm 1) = cJ (cy 2) 10 Mm.2 := by rw [eF18, va_up_ne _ _ (pl_ne hF1 hFo rfl)]; exact hF1
        have hFqm2_18 : F18 (qm 2) = cD (cy 0) 6 Dd.1 := by rw [eF18, va_up_ne _ _ (pl_ne hF2 hFo rfl)]; exact hF2
        have hFqm3_18 : F18 (qm 3) = cD (cy 0) 6 Dd.2.1 := by rw [eF18, va_up_ne _ _ (pl_ne hF3 hFo rfl)]; exact hF3
        have hFqm4_18 : F18 (qm 4) = cD (cy 0) 6 Dd.2.2.1 := by rw [eF18, va_up_ne _ _ (pl_ne hF4 hFo rfl)]; exact hF4
        have hFqm5_18 : F18 (qm 5) = cJ (cy 2) 6 Dd.2.2.2 := by rw [eF18, va_up_ne _ _ (pl_ne hF5 hFo rfl)]; exact hF5
        have hFqm6_18 : F18 (qm 6) = cI (cy 1) 8 Sl.1 := by rw [eF18, va_up_ne _ _ (pl_ne hF6 hFo rfl)]; exact hF6
        have hFqm7_18 : F18 (qm 7) = cJ (cy 2) 128 Sl.2 := by rw [eF18, va_up_ne _ _ (pl_ne hF7 hFo rfl)]; exact hF7
        have hFqm8_18 : F18 (qm 8) = cI (cy 1) 30 Pp.2.1 := by rw [eF18, va_up_ne _ _ (pl_ne hF8 hFo rfl)]; exact hF8
        have hFqm9_18 : F18 (qm 9) = cI (cy 3) 30 Pp.2.2 := by rw [eF18, va_up_ne _ _ (pl_ne hF9 hFo rfl)]; exact hF9
        have hFqm10_18 : F18 (qm 10) = cI (cy 1) 5 Kr.1 := by rw [eF18, va_up_ne _ _ (pl_ne hF10 hFo rfl)]; exact hF10
        have hFqm11_18 : F18 (qm 11) = cI (cy 3) 5 Kr.2.1 := by rw [eF18, va_up_ne _ _ (pl_ne hF11 hFo rfl)]; exact hF11
        have hFqm12_18 : F18 (qm 12) = cI (cy 1) 60 Kr.2.2 := by rw [eF18, va_up_ne _ _ (pl_ne hF12 hFo rfl)]; exact hF12
        have hFqm13_18 : F18 (qm 13) = cI (cy 1) 4 Bk.1 := by rw [eF18, va_up_ne _ _ (pl_ne hF13 hFo rfl)]; exact hF13
        have hFqm14_18 : F18 (qm 14) = cD (cy 0) 4 Bk.2 := by rw [eF18, va_up_ne _ _ (pl_ne hF14 hFo rfl)]; exact hF14
        have hFqm15_18 : F18 (qm 15) = cI (cy 1) 6 Xx.2 := by rw [eF18, va_up_ne _ _ (pl_ne hF15 hFo rfl)]; exact hF15
        refine lv_iload_n hx hb dX9_reckon_5 rfl (lv_at hl 2 rfl) ?_
        refine vp_callSi (W.runS (As := [.int (nI j_x)]) (rest := []) ⟨hx, hb, hml, hown, hts⟩ (c9_isMeter l (nI j_x)) (va_cwS 1 hts gX9_reckon_X9_isMeter rfl rfl rfl (by decide +kernel) ⟨Nat.le_of_ble_eq_true rfl, Nat.le_of_ble_eq_true rfl⟩) (preS_of okT (trivial)) rfl rfl hl.1 rfl (lv_room (Nat.le_of_ble_eq_true rfl)) dX9_reckon_6 ⟨Nat.le_of_ble_eq_true rfl, Nat.le_of_ble_eq_true rfl⟩) (fun r19 hr19 => ?_)
        rw [isx1 hi_x] at hr19
        subst hr19
        refine lv_if_eq (tgt := 27) hx hb dX9_reckon_9 (by decide) (fun c20 => absurd c20 (by decide)) (fun c20 => ?_)
        refine lv_iload_n hx hb dX9_reckon_12 rfl (lv_at hl 3 rfl) ?_
        refine vp_callSi (W.runS (As := [.int y]) (rest := []) ⟨hx, hb, hml, hown, hts⟩ (c9_isMeter l y) (va_cwS 1 hts gX9_reckon_X9_isMeter rfl rfl rfl (by decide +kernel) ⟨Nat.le_of_ble_eq_true rfl, Nat.le_of_ble_eq_true rfl⟩) (preS_of okT (trivial)) rfl rfl hl.1 rfl (lv_room (Nat.le_of_ble_eq_true rfl)) dX9_reckon_13 ⟨Nat.le_of_ble_eq_true rfl, Nat.le_of_ble_eq_true rfl⟩) (fun r21 hr21 => ?_)
        rw [isx0 hi_y] at hr21
        subst hr21
        refine lv_if_eq (tgt := 27) hx hb dX9_reckon_16 (by decide) (fun c22 => ?_) (fun c22 => absurd (by decide) c22)
        refine lv_sipush (v := -1001) hx hb dX9_reckon_27 (by decide) ?_
        exact W.iret (v := -1001) hx hb hr (fun t ht hW => ⟨⟨-1001, F18, rfl, (by have hsp : sp_reckon Mm Xx act (nI j_x) y (nI j_into) = (-1001, Mm, Xx) := (by unfold sp_reckon; rw [hi_x, hi_y]); rw [hsp]; exact ⟨rfl, (by exact ⟨⟨_, _, hmo, hFo_18⟩, ⟨hm0, hFqm0_18⟩, ⟨hm1, hFqm1_18⟩, ⟨hm2, hFqm2_18⟩, ⟨hm3, hFqm3_18⟩, ⟨hm4, hFqm4_18⟩, ⟨hm5, hFqm5_18⟩, ⟨hm6, hFqm6_18⟩, ⟨hm7, hFqm7_18⟩, ⟨hm8, hFqm8_18⟩, ⟨hm9, hFqm9_18⟩, ⟨hm10, hFqm10_18⟩, ⟨hm11, hFqm11_18⟩, ⟨hm12, hFqm12_18⟩, ⟨hm13, hFqm13_18⟩, ⟨hm14, hFqm14_18⟩, ⟨hm15, hFqm15_18⟩, hne⟩)⟩), (by show va_P _ _ _ t.heap; rw [ht]; exact hP)⟩, hS.F ht⟩) hS.2.2 dX9_reckon_30
    · subst ei_y
      rcases ixc 10 into with hi_into | ⟨j_into, hj_into, hi_into, ei_into⟩
      · refine lv_aload_n hx hb dX9_reckon_0 rfl (lv_at hl 0 rfl) ?_
        refine lv_iconst (v := 0) hx hb dX9_reckon_1 (by decide) ?_
        refine pg_put (ci := 8) (v := .int 0) (ty := .int) (C := RX9) (T := TX9) (N := 20) hx hb hts hinX9 tyX9 tyX9_ok nmX9 hown hK hP hD hS hmo hFo rfl 0 (by decide) (hts (.fieldLink RX9 61 "RopeDrumsModel" "thrown" "I") (by decide +kernel)) (fun _ h9 => h9) rfl (by decide +kernel) (rfl) (rfl) (Nat.le_of_ble_eq_true rfl) dX9_reckon_2 (fun H locs F23 eF23 hP hS => ?_)
        have eF23 : F23 = va_up F o (.inr (8, [.int 0, .ref (qm 0), .ref (qm 1), .ref (qm 2), .ref (qm 3), .ref (qm 4), .ref (qm 5), .ref (qm 6), .ref (qm 7), .int Pp.1, .ref (qm 8), .ref (qm 9), .ref (qm 10), .ref (qm 11), .ref (qm 12), .ref (qm 13), .ref (qm 14), .int Xx.1, .ref (qm 15), .long oc])) := eF23
        have hFo_23 : F23 o = .inr (8, [.int 0, .ref (qm 0), .ref (qm 1), .ref (qm 2), .ref (qm 3), .ref (qm 4), .ref (qm 5), .ref (qm 6), .ref (qm 7), .int Pp.1, .ref (qm 8), .ref (qm 9), .ref (qm 10), .ref (qm 11), .ref (qm 12), .ref (qm 13), .ref (qm 14), .int Xx.1, .ref (qm 15), .long oc]) := by rw [eF23]; exact va_up_self _ _ _
        have hFqm0_23 : F23 (qm 0) = cI (cy 1) 10 Mm.1 := by rw [eF23, va_up_ne _ _ (pl_ne hF0 hFo rfl)]; exact hF0
        have hFqm1_23 : F23 (qm 1) = cJ (cy 2) 10 Mm.2 := by rw [eF23, va_up_ne _ _ (pl_ne hF1 hFo rfl)]; exact hF1
        have hFqm2_23 : F23 (qm 2) = cD (cy 0) 6 Dd.1 := by rw [eF23, va_up_ne _ _ (pl_ne hF2 hFo rfl)]; exact hF2
        have hFqm3_23 : F23 (qm 3) = cD (cy 0) 6 Dd.2.1 := by rw [eF23, va_up_ne _ _ (pl_ne hF3 hFo rfl)]; exact hF3
        have hFqm4_23 : F23 (qm 4) = cD (cy 0) 6 Dd.2.2.1 := by rw [eF23, va_up_ne _ _ (pl_ne hF4 hFo rfl)]; exact hF4
        have hFqm5_23 : F23 (qm 5) = cJ (cy 2) 6 Dd.2.2.2 := by rw [eF23, va_up_ne _ _ (pl_ne hF5 hFo rfl)]; exact hF5
        have hFqm6_23 : F23 (qm 6) = cI (cy 1) 8 Sl.1 := by rw [eF23, va_up_ne _ _ (pl_ne hF6 hFo rfl)]; exact hF6
        have hFqm7_23 : F23 (qm 7) = cJ (cy 2) 128 Sl.2 := by rw [eF23, va_up_ne _ _ (pl_ne hF7 hFo rfl)]; exact hF7
        have hFqm8_23 : F23 (qm 8) = cI (cy 1) 30 Pp.2.1 := by rw [eF23, va_up_ne _ _ (pl_ne hF8 hFo rfl)]; exact hF8
        have hFqm9_23 : F23 (qm 9) = cI (cy 3) 30 Pp.2.2 := by rw [eF23, va_up_ne _ _ (pl_ne hF9 hFo rfl)]; exact hF9
        have hFqm10_23 : F23 (qm 10) = cI (cy 1) 5 Kr.1 := by rw [eF23, va_up_ne _ _ (pl_ne hF10 hFo rfl)]; exact hF10
        have hFqm11_23 : F23 (qm 11) = cI (cy 3) 5 Kr.2.1 := by rw [eF23, va_up_ne _ _ (pl_ne hF11 hFo rfl)]; exact hF11
        have hFqm12_23 : F23 (qm 12) = cI (cy 1) 60 Kr.2.2 := by rw [eF23, va_up_ne _ _ (pl_ne hF12 hFo rfl)]; exact hF12
        have hFqm13_23 : F23 (qm 13) = cI (cy 1) 4 Bk.1 := by rw [eF23, va_up_ne _ _ (pl_ne hF13 hFo rfl)]; exact hF13
        have hFqm14_23 : F23 (qm 14) = cD (cy 0) 4 Bk.2 := by rw [eF23, va_up_ne _ _ (pl_ne hF14 hFo rfl)]; exact hF14
        have hFqm15_23 : F23 (qm 15) = cI (cy 1) 6 Xx.2 := by rw [eF23, va_up_ne _ _ (pl_ne hF15 hFo rfl)]; exact hF15
        refine lv_iload_n hx hb dX9_reckon_5 rfl (lv_at hl 2 rfl) ?_
        refine vp_callSi (W.runS (As := [.int (nI j_x)]) (rest := []) ⟨hx, hb, hml, hown, hts⟩ (c9_isMeter l (nI j_x)) (va_cwS 1 hts gX9_reckon_X9_isMeter rfl rfl rfl (by decide +kernel) ⟨Nat.le_of_ble_eq_true rfl, Nat.le_of_ble_eq_true rfl⟩) (preS_of okT (trivial)) rfl rfl hl.1 rfl (lv_room (Nat.le_of_ble_eq_true rfl)) dX9_reckon_6 ⟨Nat.le_of_ble_eq_true rfl, Nat.le_of_ble_eq_true rfl⟩) (fun r24 hr24 => ?_)
        rw [isx1 hi_x] at hr24
        subst hr24
        refine lv_if_eq (tgt := 27) hx hb dX9_reckon_9 (by decide) (fun c25 => absurd c25 (by decide)) (fun c25 => ?_)
        refine lv_iload_n hx hb dX9_reckon_12 rfl (lv_at hl 3 rfl) ?_
        refine vp_callSi (W.runS (As := [.int (nI j_y)]) (rest := []) ⟨hx, hb, hml, hown, hts⟩ (c9_isMeter l (nI j_y)) (va_cwS 1 hts gX9_reckon_X9_isMeter rfl rfl rfl (by decide +kernel) ⟨Nat.le_of_ble_eq_true rfl, Nat.le_of_ble_eq_true rfl⟩) (preS_of okT (trivial)) rfl rfl hl.1 rfl (lv_room (Nat.le_of_ble_eq_true rfl)) dX9_reckon_13 ⟨Nat.le_of_ble_eq_true rfl, Nat.le_of_ble_eq_true rfl⟩) (fun r26 hr26 => ?_)
        rw [isx1 hi_y] at hr26
        subst hr26
        refine lv_if_eq (tgt := 27) hx hb dX9_reckon_16 (by decide) (fun c27 => absurd c27 (by decide)) (fun c27 => ?_)
        refine lv_iload hx hb dX9_reckon_19 (lv_at hl 4 rfl) ?_
        refine vp_callSi (W.runS (As := [.int into]) (rest := []) ⟨hx, hb, hml, hown, hts⟩ (c9_isMeter l into) (va_cwS 1 hts gX9_reckon_X9_isMeter rfl rfl rfl (by decide +kernel) ⟨Nat.le_of_ble_eq_true rfl, Nat.le_of_ble_eq_true rfl⟩) (preS_of okT (trivial)) rfl rfl hl.1 rfl (lv_room (Nat.le_of_ble_eq_true rfl)) dX9_reckon_21 ⟨Nat.le_of_ble_eq_true rfl, Nat.le_of_ble_eq_true rfl⟩) (fun r28 hr28 => ?_)
        rw [isx0 hi_into] at hr28
        subst hr28
        refine lv_if_ne (tgt := 31) hx hb dX9_reckon_24 (by decide) (fun c29 => absurd (by decide) c29) (fun c29 => ?_)
        refine lv_sipush (v := -1001) hx hb dX9_reckon_27 (by decide) ?_
        exact W.iret (v := -1001) hx hb hr (fun t ht hW => ⟨⟨-1001, F23, rfl, (by have hsp : sp_reckon Mm Xx act (nI j_x) (nI j_y) into = (-1001, Mm, Xx) := (by unfold sp_reckon; rw [hi_x, hi_y, hi_into]); rw [hsp]; exact ⟨rfl, (by exact ⟨⟨_, _, hmo, hFo_23⟩, ⟨hm0, hFqm0_23⟩, ⟨hm1, hFqm1_23⟩, ⟨hm2, hFqm2_23⟩, ⟨hm3, hFqm3_23⟩, ⟨hm4, hFqm4_23⟩, ⟨hm5, hFqm5_23⟩, ⟨hm6, hFqm6_23⟩, ⟨hm7, hFqm7_23⟩, ⟨hm8, hFqm8_23⟩, ⟨hm9, hFqm9_23⟩, ⟨hm10, hFqm10_23⟩, ⟨hm11, hFqm11_23⟩, ⟨hm12, hFqm12_23⟩, ⟨hm13, hFqm13_23⟩, ⟨hm14, hFqm14_23⟩, ⟨hm15, hFqm15_23⟩, hne⟩)⟩), (by show va_P _ _ _ t.heap; rw [ht]; exact hP)⟩, hS.F ht⟩) hS.2.2 dX9_reckon_30
      · subst ei_into
        refine lv_aload_n hx hb dX9_reckon_0 rfl (lv_at hl 0 rfl) ?_
        refine lv_iconst (v := 0) hx hb dX9_reckon_1 (by decide) ?_
        refine pg_put (ci := 8) (v := .int 0) (ty := .int) (C := RX9) (T := TX9) (N := 20) hx hb hts hinX9 tyX9 tyX9_ok nmX9 hown hK hP hD hS hmo hFo rfl 0 (by decide) (hts (.fieldLink RX9 61 "RopeDrumsModel" "thrown" "I") (by decide +kernel)) (fun _ h9 => h9) rfl (by decide +kernel) (rfl) (rfl) (Nat.le_of_ble_eq_true rfl) dX9_reckon_2 (fun H locs F30 eF30 hP hS => ?_)
        have eF30 : F30 = va_up F o (.inr (8, [.int 0, .ref (qm 0), .ref (qm 1), .ref (qm 2), .ref (qm 3), .ref (qm 4), .ref (qm 5), .ref (qm 6), .ref (qm 7), .int Pp.1, .ref (qm 8), .ref (qm 9), .ref (qm 10), .ref (qm 11), .ref (qm 12), .ref (qm 13), .ref (qm 14), .int Xx.1, .ref (qm 15), .long oc])) := eF30
        have hFo_30 : F30 o = .inr (8, [.int 0, .ref (qm 0), .ref (qm 1), .ref (qm 2), .ref (qm 3), .ref (qm 4), .ref (qm 5), .ref (qm 6), .ref (qm 7), .int Pp.1, .ref (qm 8), .ref (qm 9), .ref (qm 10), .ref (qm 11), .ref (qm 12), .ref (qm 13), .ref (qm 14), .int Xx.1, .ref (qm 15), .long oc]) := by rw [eF30]; exact va_up_self _ _ _
        have hFqm0_30 : F30 (qm 0) = cI (cy 1) 10 Mm.1 := by rw [eF30, va_up_ne _ _ (pl_ne hF0 hFo rfl)]; exact hF0
        have hFqm1_30 : F30 (qm 1) = cJ (cy 2) 10 Mm.2 := by rw [eF30, va_up_ne _ _ (pl_ne hF1 hFo rfl)]; exact hF1
        have hFqm2_30 : F30 (qm 2) = cD (cy 0) 6 Dd.1 := by rw [eF30, va_up_ne _ _ (pl_ne hF2 hFo rfl)]; exact hF2
        have hFqm3_30 : F30 (qm 3) = cD (cy 0) 6 Dd.2.1 := by rw [eF30, va_up_ne _ _ (pl_ne hF3 hFo rfl)]; exact hF3
        have hFqm4_30 : F30 (qm 4) = cD (cy 0) 6 Dd.2.2.1 := by rw [eF30, va_up_ne _ _ (pl_ne hF4 hFo rfl)]; exact hF4
        have hFqm5_30 : F30 (qm 5) = cJ (cy 2) 6 Dd.2.2.2 := by rw [eF30, va_up_ne _ _ (pl_ne hF5 hFo rfl)]; exact hF5
        have hFqm6_30 : F30 (qm 6) = cI (cy 1) 8 Sl.1 := by rw [eF30, va_up_ne _ _ (pl_ne hF6 hFo rfl)]; exact hF6
        have hFqm7_30 : F30 (qm 7) = cJ (cy 2) 128 Sl.2 := by rw [eF30, va_up_ne _ _ (pl_ne hF7 hFo rfl)]; exact hF7
        have hFqm8_30 : F30 (qm 8) = cI (cy 1) 30 Pp.2.1 := by rw [eF30, va_up_ne _ _ (pl_ne hF8 hFo rfl)]; exact hF8
        have hFqm9_30 : F30 (qm 9) = cI (cy 3) 30 Pp.2.2 := by rw [eF30, va_up_ne _ _ (pl_ne hF9 hFo rfl)]; exact hF9
        have hFqm10_30 : F30 (qm 10) = cI (cy 1) 5 Kr.1 := by rw [eF30, va_up_ne _ _ (pl_ne hF10 hFo rfl)]; exact hF10
        have hFqm11_30 : F30 (qm 11) = cI (cy 3) 5 Kr.2.1 := by rw [eF30, va_up_ne _ _ (pl_ne hF11 hFo rfl)]; exact hF11
        have hFqm12_30 : F30 (qm 12) = cI (cy 1) 60 Kr.2.2 := by rw [eF30, va_up_ne _ _ (pl_ne hF12 hFo rfl)]; exact hF12
        have hFqm13_30 : F30 (qm 13) = cI (cy 1) 4 Bk.1 := by rw [eF30, va_up_ne _ _ (pl_ne hF13 hFo rfl)]; exact hF13
        have hFqm14_30 : F30 (qm 14) = cD (cy 0) 4 Bk.2 := by rw [eF30, va_up_ne _ _ (pl_ne hF14 hFo rfl)]; exact hF14
        have hFqm15_30 : F30 (qm 15) = cI (cy 1) 6 Xx.2 := by rw [eF30, va_up_ne _ _ (pl_ne hF15 hFo rfl)]; exact hF15
        refine lv_iload_n hx hb dX9_reckon_5 rfl (lv_at hl 2 rfl) ?_
        refine vp_callSi (W.runS (As := [.int (nI j_x)]) (rest := []) ⟨hx, hb, hml, hown, hts⟩ (c9_isMeter l (nI j_x)) (va_cwS 1 hts gX9_reckon_X9_isMeter rfl rfl rfl (by decide +kernel) ⟨Nat.le_of_ble_eq_true rfl, Nat.le_of_ble_eq_true rfl⟩) (preS_of okT (trivial)) rfl rfl hl.1 rfl (lv_room (Nat.le_of_ble_eq_true rfl)) dX9_reckon_6 ⟨Nat.le_of_ble_eq_true rfl, Nat.le_of_ble_eq_true rfl⟩) (fun r31 hr31 => ?_)
        rw [isx1 hi_x] at hr31
        subst hr31
        refine lv_if_eq (tgt := 27) hx hb dX9_reckon_9 (by decide) (fun c32 => absurd c32 (by decide)) (fun c32 => ?_)
        refine lv_iload_n hx hb dX9_reckon_12 rfl (lv_at hl 3 rfl) ?_
        refine vp_callSi (W.runS (As := [.int (nI j_y)]) (rest := []) ⟨hx, hb, hml, hown, hts⟩ (c9_isMeter l (nI j_y)) (va_cwS 1 hts gX9_reckon_X9_isMeter rfl rfl rfl (by decide +kernel) ⟨Nat.le_of_ble_eq_true rfl, Nat.le_of_ble_eq_true rfl⟩) (preS_of okT (trivial)) rfl rfl hl.1 rfl (lv_room (Nat.le_of_ble_eq_true rfl)) dX9_reckon_13 ⟨Nat.le_of_ble_eq_true rfl, Nat.le_of_ble_eq_true rfl⟩) (fun r33 hr33 => ?_)
        rw [isx1 hi_y] at hr33
        subst hr33
        refine lv_if_eq (tgt := 27) hx hb dX9_reckon_16 (by decide) (fun c34 => absurd c34 (by decide)) (fun c34 => ?_)
        refine lv_iload hx hb dX9_reckon_19 (lv_at hl 4 rfl) ?_
        refine vp_callSi (W.runS (As := [.int (nI j_into)]) (rest := []) ⟨hx, hb, hml, hown, hts⟩ (c9_isMeter l (nI j_into)) (va_cwS 1 hts gX9_reckon_X9_isMeter rfl rfl rfl (by decide +kernel) ⟨Nat.le_of_ble_eq_true rfl, Nat.le_of_ble_eq_true rfl⟩) (preS_of okT (trivial)) rfl rfl hl.1 rfl (lv_room (Nat.le_of_ble_eq_true rfl)) dX9_reckon_21 ⟨Nat.le_of_ble_eq_true rfl, Nat.le_of_ble_eq_true rfl⟩) (fun r35 hr35 => ?_)
        rw [isx1 hi_into] at hr35
        subst hr35
        refine lv_if_ne (tgt := 31) hx hb dX9_reckon_24 (by decide) (fun c36 => ?_) (fun c36 => absurd c36 (by decide))
        refine lv_iload_n hx hb dX9_reckon_31 rfl (lv_at hl 1 rfl) ?_
        refine lv_i2l hx hb dX9_reckon_32 rfl ?_
        refine lv_topl (fun v37 ev37 => ?_)
        refine lv_lconst (v := 0) hx hb dX9_reckon_33 (by decide) ?_
        refine lv_ldc2 hx hb hown (hts (.constantLong RX9 143 (4)) (by decide +kernel)) dX9_reckon_34 ?_
        refine vp_callSi (W.runS (As := [.long v37, .long 0, .long 4]) (rest := []) ⟨hx, hb, hml, hown, hts⟩ (c9_in l v37 0 4) (va_cwS 3 hts gX9_reckon_X9_in rfl rfl rfl (by decide +kernel) ⟨Nat.le_of_ble_eq_true rfl, Nat.le_of_ble_eq_true rfl⟩) (preS_of okT (trivial)) rfl rfl hl.1 rfl (lv_room (Nat.le_of_ble_eq_true rfl)) dX9_reckon_37 ⟨Nat.le_of_ble_eq_true rfl, Nat.le_of_ble_eq_true rfl⟩) (fun r38 hr38 => ?_)
        have hzr38 : r38 = 0 := by rw [hr38, ev37, inq_i (y := 0) (z := 4) (by decide) (by decide)]; exact if_neg ((by have hq := ixn hact; omega))
        subst hzr38
        refine lv_if_ne (tgt := 47) hx hb dX9_reckon_40 (by decide) (fun c39 => absurd (by decide) c39) (fun c39 => ?_)
        refine lv_sipush (v := -1002) hx hb dX9_reckon_43 (by decide) ?_
        exact W.iret (v := -1002) hx hb hr (fun t ht hW => ⟨⟨-1002, F30, rfl, (by subst ev37; have hsp : sp_reckon Mm Xx act (nI j_x) (nI j_y) (nI j_into) = (-1002, Mm, Xx) := (by unfold sp_reckon; rw [hi_x, hi_y, hi_into, hact]); rw [hsp]; exact ⟨rfl, (by exact ⟨⟨_, _, hmo, hFo_30⟩, ⟨hm0, hFqm0_30⟩, ⟨hm1, hFqm1_30⟩, ⟨hm2, hFqm2_30⟩, ⟨hm3, hFqm3_30⟩, ⟨hm4, hFqm4_30⟩, ⟨hm5, hFqm5_30⟩, ⟨hm6, hFqm6_30⟩, ⟨hm7, hFqm7_30⟩, ⟨hm8, hFqm8_30⟩, ⟨hm9, hFqm9_30⟩, ⟨hm10, hFqm10_30⟩, ⟨hm11, hFqm11_30⟩, ⟨hm12, hFqm12_30⟩, ⟨hm13, hFqm13_30⟩, ⟨hm14, hFqm14_30⟩, ⟨hm15, hFqm15_30⟩, hne⟩)⟩), (by show va_P _ _ _ t.heap; rw [ht]; exact hP)⟩, hS.F ht⟩) hS.2.2 dX9_reckon_46

set_option maxHeartbeats 8000000 in
set_option maxRecDepth 100000 in
theorem n_reckon_0 (l : Launch) (G : va_G) (cy : Nat → ClassId) (L : List Nat) (F : Nat → va_E) (sz : Nat) (o : Nat) (qm : Nat → Nat) (Mm : SM) (Dd : SD) (Sl : SL) (Pp : SP) (Kr : SR) (Bk : SB) (Xx : SX) (hR : RepM cy L o qm Mm Dd Sl Pp Kr Bk Xx F) (hV : Val Mm Dd Sl Pp Kr Bk) (x y into : Int32)  : Met l yX9_reckon wsX9_reckon ({ frames := 3, cells := 0, slots := 0, locals := 73 }) (va_Pc [.ref o, .int 0, .int x, .int y, .int into] (fun U => bQ G cy L F sz U U.heap)) (va_Qi (fun (r : Int32) (F' : Nat → va_E) => r = (sp_reckon Mm Xx 0 x y into).1 ∧ RepM cy L o qm (sp_reckon Mm Xx 0 x y into).2.1 Dd Sl Pp Kr Bk (sp_reckon Mm Xx 0 x y into).2.2 F') (fun F' t => va_P G vwCl (va_pl L F') t.heap) (va_A (va_pl L F) sz)) 0 0 (va_A (va_pl L F) sz) := by
  refine Met.ofW (cc := cX9_reckon) (maxL := 10) (ret := (some .int)) (by decide) rfl ?_
  intro p e s m args below meth c s₁ B hml hv
  obtain ⟨rfl, hsz, hP, hK, hD0⟩ := hv
  have hx := B.exec
  have hb := B.bytes
  have hr := B.returns
  have hts := atoms_spec (ws := wsX9_reckon) B.pre
  have hown : s.vm.findClass RX9 = some m.cls := findClass_of_methodNamed B.named
  have hlocks := B.notSynchronized
  have hinX9 : ∀ w ∈ wsX90, w ∈ wsX9_reckon := by decide +kernel
  subst hsz
  have hD := hD0.self F s.heap.size
  generalize hAe : va_A (va_pl L F) s.heap.size = A at hD ⊢
  have hA : ∀ q : Nat, s.heap.size ≤ q → A q := fun q h => by rw [← hAe]; exact Or.inr h
  have hS : va_S A s.heap s.heap [] := va_S.rf
  obtain ⟨⟨th, oc, hmo, hFo⟩, ⟨hm0, hF0⟩, ⟨hm1, hF1⟩, ⟨hm2, hF2⟩, ⟨hm3, hF3⟩, ⟨hm4, hF4⟩, ⟨hm5, hF5⟩, ⟨hm6, hF6⟩, ⟨hm7, hF7⟩, ⟨hm8, hF8⟩, ⟨hm9, hF9⟩, ⟨hm10, hF10⟩, ⟨hm11, hF11⟩, ⟨hm12, hF12⟩, ⟨hm13, hF13⟩, ⟨hm14, hF14⟩, ⟨hm15, hF15⟩, hne⟩ := id hR
  obtain ⟨hVM, hVD, hVS, hVP, hVK, hVB⟩ := hV
  have hl := lv_entry ([.ref o, .int 0, .int x, .int y, .int into]) (n := 10) (Nat.le_of_ble_eq_true rfl)
  rw [lg_entry_eq]
  generalize (lg_sl ([.ref o, .int 0, .int x, .int y, .int into]) ++ List.replicate (10 - (lg_sl ([.ref o, .int 0, .int x, .int y, .int into])).length) Slot.unset).toArray = ls at hl ⊢
  have hl : lv_has ls 10 [(0, .ref o), (1, .int 0), (2, .int x), (3, .int y), (4, .int into)] := hl
  rcases ixc 10 x with hi_x | ⟨j_x, hj_x, hi_x, ei_x⟩
  · rcases ixc 10 y with hi_y | ⟨j_y, hj_y, hi_y, ei_y⟩
    · rcases ixc 10 into with hi_into | ⟨j_into, hj_into, hi_into, ei_into⟩
      · refine lv_aload_n hx hb dX9_reckon_0 rfl (lv_at hl 0 rfl) ?_
        refine lv_iconst (v := 0) hx hb dX9_reckon_1 (by decide) ?_
        refine pg_put (ci := 8) (v := .int 0) (ty := .int) (C := RX9) (T := TX9) (N := 20) hx hb hts hinX9 tyX9 tyX9_ok nmX9 hown hK hP hD hS hmo hFo rfl 0 (by decide) (hts (.fieldLink RX9 61 "RopeDrumsModel" "thrown" "I") (by decide +kernel)) (fun _ h9 => h9) rfl (by decide +kernel) (rfl) (rfl) (Nat.le_of_ble_eq_true rfl) dX9_reckon_2 (fun H locs F1 eF1 hP hS => ?_)
        have eF1 : F1 = va_up F o (.inr (8, [.int 0, .ref (qm 0), .ref (qm 1), .ref (qm 2), .ref (qm 3), .ref (qm 4), .ref (qm 5), .ref (qm 6), .ref (qm 7), .int Pp.1, .ref (qm 8), .ref (qm 9), .ref (qm 10), .ref (qm 11), .ref (qm 12), .ref (qm 13), .ref (qm 14), .int Xx.1, .ref (qm 15), .long oc])) := eF1
        have hFo_1 : F1 o = .inr (8, [.int 0, .ref (qm 0), .ref (qm 1), .ref (qm 2), .ref (qm 3), .ref (qm 4), .ref (qm 5), .ref (qm 6), .ref (qm 7), .int Pp.1, .ref (qm 8), .ref (qm 9), .ref (qm 10), .ref (qm 11), .ref (qm 12), .ref (qm 13), .ref (qm 14), .int Xx.1, .ref (qm 15), .long oc]) := by rw [eF1]; exact va_up_self _ _ _
        have hFqm0_1 : F1 (qm 0) = cI (cy 1) 10 Mm.1 := by rw [eF1, va_up_ne _ _ (pl_ne hF0 hFo rfl)]; exact hF0
        have hFqm1_1 : F1 (qm 1) = cJ (cy 2) 10 Mm.2 := by rw [eF1, va_up_ne _ _ (pl_ne hF1 hFo rfl)]; exact hF1
        have hFqm2_1 : F1 (qm 2) = cD (cy 0) 6 Dd.1 := by rw [eF1, va_up_ne _ _ (pl_ne hF2 hFo rfl)]; exact hF2
        have hFqm3_1 : F1 (qm 3) = cD (cy 0) 6 Dd.2.1 := by rw [eF1, va_up_ne _ _ (pl_ne hF3 hFo rfl)]; exact hF3
        have hFqm4_1 : F1 (qm 4) = cD (cy 0) 6 Dd.2.2.1 := by rw [eF1, va_up_ne _ _ (pl_ne hF4 hFo rfl)]; exact hF4
        have hFqm5_1 : F1 (qm 5) = cJ (cy 2) 6 Dd.2.2.2 := by rw [eF1, va_up_ne _ _ (pl_ne hF5 hFo rfl)]; exact hF5
        have hFqm6_1 : F1 (qm 6) = cI (cy 1) 8 Sl.1 := by rw [eF1, va_up_ne _ _ (pl_ne hF6 hFo rfl)]; exact hF6
        have hFqm7_1 : F1 (qm 7) = cJ (cy 2) 128 Sl.2 := by rw [eF1, va_up_ne _ _ (pl_ne hF7 hFo rfl)]; exact hF7
        have hFqm8_1 : F1 (qm 8) = cI (cy 1) 30 Pp.2.1 := by rw [eF1, va_up_ne _ _ (pl_ne hF8 hFo rfl)]; exact hF8
        have hFqm9_1 : F1 (qm 9) = cI (cy 3) 30 Pp.2.2 := by rw [eF1, va_up_ne _ _ (pl_ne hF9 hFo rfl)]; exact hF9
        have hFqm10_1 : F1 (qm 10) = cI (cy 1) 5 Kr.1 := by rw [eF1, va_up_ne _ _ (pl_ne hF10 hFo rfl)]; exact hF10
        have hFqm11_1 : F1 (qm 11) = cI (cy 3) 5 Kr.2.1 := by rw [eF1, va_up_ne _ _ (pl_ne hF11 hFo rfl)]; exact hF11
        have hFqm12_1 : F1 (qm 12) = cI (cy 1) 60 Kr.2.2 := by rw [eF1, va_up_ne _ _ (pl_ne hF12 hFo rfl)]; exact hF12
        have hFqm13_1 : F1 (qm 13) = cI (cy 1) 4 Bk.1 := by rw [eF1, va_up_ne _ _ (pl_ne hF13 hFo rfl)]; exact hF13
        have hFqm14_1 : F1 (qm 14) = cD (cy 0) 4 Bk.2 := by rw [eF1, va_up_ne _ _ (pl_ne hF14 hFo rfl)]; exact hF14
        have hFqm15_1 : F1 (qm 15) = cI (cy 1) 6 Xx.2 := by rw [eF1, va_up_ne _ _ (pl_ne hF15 hFo rfl)]; exact hF15
        refine lv_iload_n hx hb dX9_reckon_5 rfl (lv_at hl 2 rfl) ?_
        refine vp_callSi (W.runS (As := [.int x]) (rest := []) ⟨hx, hb, hml, hown, hts⟩ (c9_isMeter l x) (va_cwS 1 hts gX9_reckon_X9_isMeter rfl rfl rfl (by decide +kernel) ⟨Nat.le_of_ble_eq_true rfl, Nat.le_of_ble_eq_true rfl⟩) (preS_of okT (trivial)) rfl rfl hl.1 rfl (lv_room (Nat.le_of_ble_eq_true rfl)) dX9_reckon_6 ⟨Nat.le_of_ble_eq_true rfl, Nat.le_of_ble_eq_true rfl⟩) (fun r2 hr2 => ?_)
        rw [isx0 hi_x] at hr2
        subst hr2
        refine lv_if_eq (tgt := 27) hx hb dX9_reckon_9 (by decide) (fun c3 => ?_) (fun c3 => absurd (by decide) c3)
        refine lv_sipush (v := -1001) hx hb dX9_reckon_27 (by decide) ?_
        exact W.iret (v := -1001) hx hb hr (fun t ht hW => ⟨⟨-1001, F1, rfl, (by have hsp : sp_reckon Mm Xx 0 x y into = (-1001, Mm, Xx) := (by unfold sp_reckon; rw [hi_x]); rw [hsp]; exact ⟨rfl, (by exact ⟨⟨_, _, hmo, hFo_1⟩, ⟨hm0, hFqm0_1⟩, ⟨hm1, hFqm1_1⟩, ⟨hm2, hFqm2_1⟩, ⟨hm3, hFqm3_1⟩, ⟨hm4, hFqm4_1⟩, ⟨hm5, hFqm5_1⟩, ⟨hm6, hFqm6_1⟩, ⟨hm7, hFqm7_1⟩, ⟨hm8, hFqm8_1⟩, ⟨hm9, hFqm9_1⟩, ⟨hm10, hFqm10_1⟩, ⟨hm11, hFqm11_1⟩, ⟨hm12, hFqm12_1⟩, ⟨hm13, hFqm13_1⟩, ⟨hm14, hFqm14_1⟩, ⟨hm15, hFqm15_1⟩, hne⟩)⟩), (by show va_P _ _ _ t.heap; rw [ht]; exact hP)⟩, hS.F ht⟩) hS.2.2 dX9_reckon_30
      · subst ei_into
        refine lv_aload_n hx hb dX9_reckon_0 rfl (lv_at hl 0 rfl) ?_
        refine lv_iconst (v := 0) hx hb dX9_reckon_1 (by decide) ?_
        refine pg_put (ci := 8) (v := .int 0) (ty := .int) (C := RX9) (T := TX9) (N := 20) hx hb hts hinX9 tyX9 tyX9_ok nmX9 hown hK hP hD hS hmo hFo rfl 0 (by decide) (hts (.fieldLink RX9 61 "RopeDrumsModel" "thrown" "I") (by decide +kernel)) (fun _ h9 => h9) rfl (by decide +kernel) (rfl) (rfl) (Nat.le_of_ble_eq_true rfl) dX9_reckon_2 (fun H locs F4 eF4 hP hS => ?_)
        have eF4 : F4 = va_up F o (.inr (8, [.int 0, .ref (qm 0), .ref (qm 1), .ref (qm 2), .ref (qm 3), .ref (qm 4), .ref (qm 5), .ref (qm 6), .ref (qm 7), .int Pp.1, .ref (qm 8), .ref (qm 9), .ref (qm 10), .ref (qm 11), .ref (qm 12), .ref (qm 13), .ref (qm 14), .int Xx.1, .ref (qm 15), .long oc])) := eF4
        have hFo_4 : F4 o = .inr (8, [.int 0, .ref (qm 0), .ref (qm 1), .ref (qm 2), .ref (qm 3), .ref (qm 4), .ref (qm 5), .ref (qm 6), .ref (qm 7), .int Pp.1, .ref (qm 8), .ref (qm 9), .ref (qm 10), .ref (qm 11), .ref (qm 12), .ref (qm 13), .ref (qm 14), .int Xx.1, .ref (qm 15), .long oc]) := by rw [eF4]; exact va_up_self _ _ _
        have hFqm0_4 : F4 (qm 0) = cI (cy 1) 10 Mm.1 := by rw [eF4, va_up_ne _ _ (pl_ne hF0 hFo rfl)]; exact hF0
        have hFqm1_4 : F4 (qm 1) = cJ (cy 2) 10 Mm.2 := by rw [eF4, va_up_ne _ _ (pl_ne hF1 hFo rfl)]; exact hF1
        have hFqm2_4 : F4 (qm 2) = cD (cy 0) 6 Dd.1 := by rw [eF4, va_up_ne _ _ (pl_ne hF2 hFo rfl)]; exact hF2
        have hFqm3_4 : F4 (qm 3) = cD (cy 0) 6 Dd.2.1 := by rw [eF4, va_up_ne _ _ (pl_ne hF3 hFo rfl)]; exact hF3
        have hFqm4_4 : F4 (qm 4) = cD (cy 0) 6 Dd.2.2.1 := by rw [eF4, va_up_ne _ _ (pl_ne hF4 hFo rfl)]; exact hF4
        have hFqm5_4 : F4 (qm 5) = cJ (cy 2) 6 Dd.2.2.2 := by rw [eF4, va_up_ne _ _ (pl_ne hF5 hFo rfl)]; exact hF5
        have hFqm6_4 : F4 (qm 6) = cI (cy 1) 8 Sl.1 := by rw [eF4, va_up_ne _ _ (pl_ne hF6 hFo rfl)]; exact hF6
        have hFqm7_4 : F4 (qm 7) = cJ (cy 2) 128 Sl.2 := by rw [eF4, va_up_ne _ _ (pl_ne hF7 hFo rfl)]; exact hF7
        have hFqm8_4 : F4 (qm 8) = cI (cy 1) 30 Pp.2.1 := by rw [eF4, va_up_ne _ _ (pl_ne hF8 hFo rfl)]; exact hF8
        have hFqm9_4 : F4 (qm 9) = cI (cy 3) 30 Pp.2.2 := by rw [eF4, va_up_ne _ _ (pl_ne hF9 hFo rfl)]; exact hF9
        have hFqm10_4 : F4 (qm 10) = cI (cy 1) 5 Kr.1 := by rw [eF4, va_up_ne _ _ (pl_ne hF10 hFo rfl)]; exact hF10
        have hFqm11_4 : F4 (qm 11) = cI (cy 3) 5 Kr.2.1 := by rw [eF4, va_up_ne _ _ (pl_ne hF11 hFo rfl)]; exact hF11
        have hFqm12_4 : F4 (qm 12) = cI (cy 1) 60 Kr.2.2 := by rw [eF4, va_up_ne _ _ (pl_ne hF12 hFo rfl)]; exact hF12
        have hFqm13_4 : F4 (qm 13) = cI (cy 1) 4 Bk.1 := by rw [eF4, va_up_ne _ _ (pl_ne hF13 hFo rfl)]; exact hF13
        have hFqm14_4 : F4 (qm 14) = cD (cy 0) 4 Bk.2 := by rw [eF4, va_up_ne _ _ (pl_ne hF14 hFo rfl)]; exact hF14
        have hFqm15_4 : F4 (qm 15) = cI (cy 1) 6 Xx.2 := by rw [eF4, va_up_ne _ _ (pl_ne hF15 hFo rfl)]; exact hF15
        refine lv_iload_n hx hb dX9_reckon_5 rfl (lv_at hl 2 rfl) ?_
        refine vp_callSi (W.runS (As := [.int x]) (rest := []) ⟨hx, hb, hml, hown, hts⟩ (c9_isMeter l x) (va_cwS 1 hts gX9_reckon_X9_isMeter rfl rfl rfl (by decide +kernel) ⟨Nat.le_of_ble_eq_true rfl, Nat.le_of_ble_eq_true rfl⟩) (preS_of okT (trivial)) rfl rfl hl.1 rfl (lv_room (Nat.le_of_ble_eq_true rfl)) dX9_reckon_6 ⟨Nat.le_of_ble_eq_true rfl, Nat.le_of_ble_eq_true rfl⟩) (fun r5 hr5 => ?_)
        rw [isx0 hi_x] at hr5
        subst hr5
        refine lv_if_eq (tgt := 27) hx hb dX9_reckon_9 (by decide) (fun c6 => ?_) (fun c6 => absurd (by decide) c6)
        refine lv_sipush (v := -1001) hx hb dX9_reckon_27 (by decide) ?_
        exact W.iret (v := -1001) hx hb hr (fun t ht hW => ⟨⟨-1001, F4, rfl, (by have hsp : sp_reckon Mm Xx 0 x y (nI j_into) = (-1001, Mm, Xx) := (by unfold sp_reckon; rw [hi_x]); rw [hsp]; exact ⟨rfl, (by exact ⟨⟨_, _, hmo, hFo_4⟩, ⟨hm0, hFqm0_4⟩, ⟨hm1, hFqm1_4⟩, ⟨hm2, hFqm2_4⟩, ⟨hm3, hFqm3_4⟩, ⟨hm4, hFqm4_4⟩, ⟨hm5, hFqm5_4⟩, ⟨hm6, hFqm6_4⟩, ⟨hm7, hFqm7_4⟩, ⟨hm8, hFqm8_4⟩, ⟨hm9, hFqm9_4⟩, ⟨hm10, hFqm10_4⟩, ⟨hm11, hFqm11_4⟩, ⟨hm12, hFqm12_4⟩, ⟨hm13, hFqm13_4⟩, ⟨hm14, hFqm14_4⟩, ⟨hm15, hFqm15_4⟩, hne⟩)⟩), (by show va_P _ _ _ t.heap; rw [ht]; exact hP)⟩, hS.F ht⟩) hS.2.2 dX9_reckon_30
    · subst ei_y
      rcases ixc 10 into with hi_into | ⟨j_into, hj_into, hi_into, ei_into⟩
      · refine lv_aload_n hx hb dX9_reckon_0 rfl (lv_at hl 0 rfl) ?_
        refine lv_iconst (v := 0) hx hb dX9_reckon_1 (by decide) ?_
        refine pg_put (ci := 8) (v := .int 0) (ty := .int) (C := RX9) (T := TX9) (N := 20) hx hb hts hinX9 tyX9 tyX9_ok nmX9 hown hK hP hD hS hmo hFo rfl 0 (by decide) (hts (.fieldLink RX9 61 "RopeDrumsModel" "thrown" "I") (by decide +kernel)) (fun _ h9 => h9) rfl (by decide +kernel) (rfl) (rfl) (Nat.le_of_ble_eq_true rfl) dX9_reckon_2 (fun H locs F7 eF7 hP hS => ?_)
        have eF7 : F7 = va_up F o (.inr (8, [.int 0, .ref (qm 0), .ref (qm 1), .ref (qm 2), .ref (qm 3), .ref (qm 4), .ref (qm 5), .ref (qm 6), .ref (qm 7), .int Pp.1, .ref (qm 8), .ref (qm 9), .ref (qm 10), .ref (qm 11), .ref (qm 12), .ref (qm 13), .ref (qm 14), .int Xx.1, .ref (qm 15), .long oc])) := eF7
        have hFo_7 : F7 o = .inr (8, [.int 0, .ref (qm 0), .ref (qm 1), .ref (qm 2), .ref (qm 3), .ref (qm 4), .ref (qm 5), .ref (qm 6), .ref (qm 7), .int Pp.1, .ref (qm 8), .ref (qm 9), .ref (qm 10), .ref (qm 11), .ref (qm 12), .ref (qm 13), .ref (qm 14), .int Xx.1, .ref (qm 15), .long oc]) := by rw [eF7]; exact va_up_self _ _ _
        have hFqm0_7 : F7 (qm 0) = cI (cy 1) 10 Mm.1 := by rw [eF7, va_up_ne _ _ (pl_ne hF0 hFo rfl)]; exact hF0
        have hFqm1_7 : F7 (qm 1) = cJ (cy 2) 10 Mm.2 := by rw [eF7, va_up_ne _ _ (pl_ne hF1 hFo rfl)]; exact hF1
        have hFqm2_7 : F7 (qm 2) = cD (cy 0) 6 Dd.1 := by rw [eF7, va_up_ne _ _ (pl_ne hF2 hFo rfl)]; exact hF2
        have hFqm3_7 : F7 (qm 3) = cD (cy 0) 6 Dd.2.1 := by rw [eF7, va_up_ne _ _ (pl_ne hF3 hFo rfl)]; exact hF3
        have hFqm4_7 : F7 (qm 4) = cD (cy 0) 6 Dd.2.2.1 := by rw [eF7, va_up_ne _ _ (pl_ne hF4 hFo rfl)]; exact hF4
        have hFqm5_7 : F7 (qm 5) = cJ (cy 2) 6 Dd.2.2.2 := by rw [eF7, va_up_ne _ _ (pl_ne hF5 hFo rfl)]; exact hF5
        have hFqm6_7 : F7 (qm 6) = cI (cy 1) 8 Sl.1 := by rw [eF7, va_up_ne _ _ (pl_ne hF6 hFo rfl)]; exact hF6
        have hFqm7_7 : F7 (qm 7) = cJ (cy 2) 128 Sl.2 := by rw [eF7, va_up_ne _ _ (pl_ne hF7 hFo rfl)]; exact hF7
        have hFqm8_7 : F7 (qm 8) = cI (cy 1) 30 Pp.2.1 := by rw [eF7, va_up_ne _ _ (pl_ne hF8 hFo rfl)]; exact hF8
        have hFqm9_7 : F7 (qm 9) = cI (cy 3) 30 Pp.2.2 := by rw [eF7, va_up_ne _ _ (pl_ne hF9 hFo rfl)]; exact hF9
        have hFqm10_7 : F7 (qm 10) = cI (cy 1) 5 Kr.1 := by rw [eF7, va_up_ne _ _ (pl_ne hF10 hFo rfl)]; exact hF10
        have hFqm11_7 : F7 (qm 11) = cI (cy 3) 5 Kr.2.1 := by rw [eF7, va_up_ne _ _ (pl_ne hF11 hFo rfl)]; exact hF11
        have hFqm12_7 : F7 (qm 12) = cI (cy 1) 60 Kr.2.2 := by rw [eF7, va_up_ne _ _ (pl_ne hF12 hFo rfl)]; exact hF12
        have hFqm13_7 : F7 (qm 13) = cI (cy 1) 4 Bk.1 := by rw [eF7, va_up_ne _ _ (pl_ne hF13 hFo rfl)]; exact hF13
        have hFqm14_7 : F7 (qm 14) = cD (cy 0) 4 Bk.2 := by rw [eF7, va_up_ne _ _ (pl_ne hF14 hFo rfl)]; exact hF14
        have hFqm15_7 : F7 (qm 15) = cI (cy 1) 6 Xx.2 := by rw [eF7, va_up_ne _ _ (pl_ne hF15 hFo rfl)]; exact hF15
        refine lv_iload_n hx hb dX9_reckon_5 rfl (lv_at hl 2 rfl) ?_
        refine vp_callSi (W.runS (As := [.int x]) (rest := []) ⟨hx, hb, hml, hown, hts⟩ (c9_isMeter l x) (va_cwS 1 hts gX9_reckon_X9_isMeter rfl rfl rfl (by decide +kernel) ⟨Nat.le_of_ble_eq_true rfl, Nat.le_of_ble_eq_true rfl⟩) (preS_of okT (trivial)) rfl rfl hl.1 rfl (lv_room (Nat.le_of_ble_eq_true rfl)) dX9_reckon_6 ⟨Nat.le_of_ble_eq_true rfl, Nat.le_of_ble_eq_true rfl⟩) (fun r8 hr8 => ?_)
        rw [isx0 hi_x] at hr8
        subst hr8
        refine lv_if_eq (tgt := 27) hx hb dX9_reckon_9 (by decide) (fun c9 => ?_) (fun c9 => absurd (by decide) c9)
        refine lv_sipush (v := -1001) hx hb dX9_reckon_27 (by decide) ?_
        exact W.iret (v := -1001) hx hb hr (fun t ht hW => ⟨⟨-1001, F7, rfl, (by have hsp : sp_reckon Mm Xx 0 x (nI j_y) into = (-1001, Mm, Xx) := (by unfold sp_reckon; rw [hi_x]); rw [hsp]; exact ⟨rfl, (by exact ⟨⟨_, _, hmo, hFo_7⟩, ⟨hm0, hFqm0_7⟩, ⟨hm1, hFqm1_7⟩, ⟨hm2, hFqm2_7⟩, ⟨hm3, hFqm3_7⟩, ⟨hm4, hFqm4_7⟩, ⟨hm5, hFqm5_7⟩, ⟨hm6, hFqm6_7⟩, ⟨hm7, hFqm7_7⟩, ⟨hm8, hFqm8_7⟩, ⟨hm9, hFqm9_7⟩, ⟨hm10, hFqm10_7⟩, ⟨hm11, hFqm11_7⟩, ⟨hm12, hFqm12_7⟩, ⟨hm13, hFqm13_7⟩, ⟨hm14, hFqm14_7⟩, ⟨hm15, hFqm15_7⟩, hne⟩)⟩), (by show va_P _ _ _ t.heap; rw [ht]; exact hP)⟩, hS.F ht⟩) hS.2.2 dX9_reckon_30
      · subst ei_into
        refine lv_aload_n hx hb dX9_reckon_0 rfl (lv_at hl 0 rfl) ?_
        refine lv_iconst (v := 0) hx hb dX9_reckon_1 (by decide) ?_
        refine pg_put (ci := 8) (v := .int 0) (ty := .int) (C := RX9) (T := TX9) (N := 20) hx hb hts hinX9 tyX9 tyX9_ok nmX9 hown hK hP hD hS hmo hFo rfl 0 (by decide) (hts (.fieldLink RX9 61 "RopeDrumsModel" "thrown" "I") (by decide +kernel)) (fun _ h9 => h9) rfl (by decide +kernel) (rfl) (rfl) (Nat.le_of_ble_eq_true rfl) dX9_reckon_2 (fun H locs F10 eF10 hP hS => ?_)
        have eF10 : F10 = va_up F o (.inr (8, [.int 0, .ref (qm 0), .ref (qm 1), .ref (qm 2), .ref (qm 3), .ref (qm 4), .ref (qm 5), .ref (qm 6), .ref (qm 7), .int Pp.1, .ref (qm 8), .ref (qm 9), .ref (qm 10), .ref (qm 11), .ref (qm 12), .ref (qm 13), .ref (qm 14), .int Xx.1, .ref (qm 15), .long oc])) := eF10
        have hFo_10 : F10 o = .inr (8, [.int 0, .ref (qm 0), .ref (qm 1), .ref (qm 2), .ref (qm 3), .ref (qm 4), .ref (qm 5), .ref (qm 6), .ref (qm 7), .int Pp.1, .ref (qm 8), .ref (qm 9), .ref (qm 10), .ref (qm 11), .ref (qm 12), .ref (qm 13), .ref (qm 14), .int Xx.1, .ref (qm 15), .long oc]) := by rw [eF10]; exact va_up_self _ _ _
        have hFqm0_10 : F10 (qm 0) = cI (cy 1) 10 Mm.1 := by rw [eF10, va_up_ne _ _ (pl_ne hF0 hFo rfl)]; exact hF0
        have hFqm1_10 : F10 (qm 1) = cJ (cy 2) 10 Mm.2 := by rw [eF10, va_up_ne _ _ (pl_ne hF1 hFo rfl)]; exact hF1
        have hFqm2_10 : F10 (qm 2) = cD (cy 0) 6 Dd.1 := by rw [eF10, va_up_ne _ _ (pl_ne hF2 hFo rfl)]; exact hF2
        have hFqm3_10 : F10 (qm 3) = cD (cy 0) 6 Dd.2.1 := by rw [eF10, va_up_ne _ _ (pl_ne hF3 hFo rfl)]; exact hF3
        have hFqm4_10 : F10 (qm 4) = cD (cy 0) 6 Dd.2.2.1 := by rw [eF10, va_up_ne _ _ (pl_ne hF4 hFo rfl)]; exact hF4
        have hFqm5_10 : F10 (qm 5) = cJ (cy 2) 6 Dd.2.2.2 := by rw [eF10, va_up_ne _ _ (pl_ne hF5 hFo rfl)]; exact hF5
        have hFqm6_10 : F10 (qm 6) = cI (cy 1) 8 Sl.1 := by rw [eF10, va_up_ne _ _ (pl_ne hF6 hFo rfl)]; exact hF6
        have hFqm7_10 : F10 (qm 7) = cJ (cy 2) 128 Sl.2 := by rw [eF10, va_up_ne _ _ (pl_ne hF7 hFo rfl)]; exact hF7
        have hFqm8_10 : F10 (qm 8) = cI (cy 1) 30 Pp.2.1 := by rw [eF10, va_up_ne _ _ (pl_ne hF8 hFo rfl)]; exact hF8
        have hFqm9_10 : F10 (qm 9) = cI (cy 3) 30 Pp.2.2 := by rw [eF10, va_up_ne _ _ (pl_ne hF9 hFo rfl)]; exact hF9
        have hFqm10_10 : F10 (qm 10) = cI (cy 1) 5 Kr.1 := by rw [eF10, va_up_ne _ _ (pl_ne hF10 hFo rfl)]; exact hF10
        have hFqm11_10 : F10 (qm 11) = cI (cy 3) 5 Kr.2.1 := by rw [eF10, va_up_ne _ _ (pl_ne hF11 hFo rfl)]; exact hF11
        have hFqm12_10 : F10 (qm 12) = cI (cy 1) 60 Kr.2.2 := by rw [eF10, va_up_ne _ _ (pl_ne hF12 hFo rfl)]; exact hF12
        have hFqm13_10 : F10 (qm 13) = cI (cy 1) 4 Bk.1 := by rw [eF10, va_up_ne _ _ (pl_ne hF13 hFo rfl)]; exact hF13
        have hFqm14_10 : F10 (qm 14) = cD (cy 0) 4 Bk.2 := by rw [eF10, va_up_ne _ _ (pl_ne hF14 hFo rfl)]; exact hF14
        have hFqm15_10 : F10 (qm 15) = cI (cy 1) 6 Xx.2 := by rw [eF10, va_up_ne _ _ (pl_ne hF15 hFo rfl)]; exact hF15
        refine lv_iload_n hx hb dX9_reckon_5 rfl (lv_at hl 2 rfl) ?_
        refine vp_callSi (W.runS (As := [.int x]) (rest := []) ⟨hx, hb, hml, hown, hts⟩ (c9_isMeter l x) (va_cwS 1 hts gX9_reckon_X9_isMeter rfl rfl rfl (by decide +kernel) ⟨Nat.le_of_ble_eq_true rfl, Nat.le_of_ble_eq_true rfl⟩) (preS_of okT (trivial)) rfl rfl hl.1 rfl (lv_room (Nat.le_of_ble_eq_true rfl)) dX9_reckon_6 ⟨Nat.le_of_ble_eq_true rfl, Nat.le_of_ble_eq_true rfl⟩) (fun r11 hr11 => ?_)
        rw [isx0 hi_x] at hr11
        subst hr11
        refine lv_if_eq (tgt := 27) hx hb dX9_reckon_9 (by decide) (fun c12 => ?_) (fun c12 => absurd (by decide) c12)
        refine lv_sipush (v := -1001) hx hb dX9_reckon_27 (by decide) ?_
        exact W.iret (v := -1001) hx hb hr (fun t ht hW => ⟨⟨-1001, F10, rfl, (by have hsp : sp_reckon Mm Xx 0 x (nI j_y) (nI j_into) = (-1001, Mm, Xx) := (by unfold sp_reckon; rw [hi_x]); rw [hsp]; exact ⟨rfl, (by exact ⟨⟨_, _, hmo, hFo_10⟩, ⟨hm0, hFqm0_10⟩, ⟨hm1, hFqm1_10⟩, ⟨hm2, hFqm2_10⟩, ⟨hm3, hFqm3_10⟩, ⟨hm4, hFqm4_10⟩, ⟨hm5, hFqm5_10⟩, ⟨hm6, hFqm6_10⟩, ⟨hm7, hFqm7_10⟩, ⟨hm8, hFqm8_10⟩, ⟨hm9, hFqm9_10⟩, ⟨hm10, hFqm10_10⟩, ⟨hm11, hFqm11_10⟩, ⟨hm12, hFqm12_10⟩, ⟨hm13, hFqm13_10⟩, ⟨hm14, hFqm14_10⟩, ⟨hm15, hFqm15_10⟩, hne⟩)⟩), (by show va_P _ _ _ t.heap; rw [ht]; exact hP)⟩, hS.F ht⟩) hS.2.2 dX9_reckon_30
  · subst ei_x
    rcases ixc 10 y with hi_y | ⟨j_y, hj_y, hi_y, ei_y⟩
    · rcases ixc 10 into with hi_into | ⟨j_into, hj_into, hi_into, ei_into⟩
      · refine lv_aload_n hx hb dX9_reckon_0 rfl (lv_at hl 0 rfl) ?_
        refine lv_iconst (v := 0) hx hb dX9_reckon_1 (by decide) ?_
        refine pg_put (ci := 8) (v := .int 0) (ty := .int) (C := RX9) (T := TX9) (N := 20) hx hb hts hinX9 tyX9 tyX9_ok nmX9 hown hK hP hD hS hmo hFo rfl 0 (by decide) (hts (.fieldLink RX9 61 "RopeDrumsModel" "thrown" "I") (by decide +kernel)) (fun _ h9 => h9) rfl (by decide +kernel) (rfl) (rfl) (Nat.le_of_ble_eq_true rfl) dX9_reckon_2 (fun H locs F13 eF13 hP hS => ?_)
        have eF13 : F13 = va_up F o (.inr (8, [.int 0, .ref (qm 0), .ref (qm 1), .ref (qm 2), .ref (qm 3), .ref (qm 4), .ref (qm 5), .ref (qm 6), .ref (qm 7), .int Pp.1, .ref (qm 8), .ref (qm 9), .ref (qm 10), .ref (qm 11), .ref (qm 12), .ref (qm 13), .ref (qm 14), .int Xx.1, .ref (qm 15), .long oc])) := eF13
        have hFo_13 : F13 o = .inr (8, [.int 0, .ref (qm 0), .ref (qm 1), .ref (qm 2), .ref (qm 3), .ref (qm 4), .ref (qm 5), .ref (qm 6), .ref (qm 7), .int Pp.1, .ref (qm 8), .ref (qm 9), .ref (qm 10), .ref (qm 11), .ref (qm 12), .ref (qm 13), .ref (qm 14), .int Xx.1, .ref (qm 15), .long oc]) := by rw [eF13]; exact va_up_self _ _ _
        have hFqm0_13 : F13 (qm 0) = cI (cy 1) 10 Mm.1 := by rw [eF13, va_up_ne _ _ (pl_ne hF0 hFo rfl)]; exact hF0
        have hFqm1_13 : F13 (qm 1) = cJ (cy 2) 10 Mm.2 := by rw [eF13, va_up_ne _ _ (pl_ne hF1 hFo rfl)]; exact hF1
        have hFqm2_13 : F13 (qm 2) = cD (cy 0) 6 Dd.1 := by rw [eF13, va_up_ne _ _ (pl_ne hF2 hFo rfl)]; exact hF2
        have hFqm3_13 : F13 (qm 3) = cD (cy 0) 6 Dd.2.1 := by rw [eF13, va_up_ne _ _ (pl_ne hF3 hFo rfl)]; exact hF3
        have hFqm4_13 : F13 (qm 4) = cD (cy 0) 6 Dd.2.2.1 := by rw [eF13, va_up_ne _ _ (pl_ne hF4 hFo rfl)]; exact hF4
        have hFqm5_13 : F13 (qm 5) = cJ (cy 2) 6 Dd.2.2.2 := by rw [eF13, va_up_ne _ _ (pl_ne hF5 hFo rfl)]; exact hF5
        have hFqm6_13 : F13 (qm 6) = cI (cy 1) 8 Sl.1 := by rw [eF13, va_up_ne _ _ (pl_ne hF6 hFo rfl)]; exact hF6
        have hFqm7_13 : F13 (qm 7) = cJ (cy 2) 128 Sl.2 := by rw [eF13, va_up_ne _ _ (pl_ne hF7 hFo rfl)]; exact hF7
        have hFqm8_13 : F13 (qm 8) = cI (cy 1) 30 Pp.2.1 := by rw [eF13, va_up_ne _ _ (pl_ne hF8 hFo rfl)]; exact hF8
        have hFqm9_13 : F13 (qm 9) = cI (cy 3) 30 Pp.2.2 := by rw [eF13, va_up_ne _ _ (pl_ne hF9 hFo rfl)]; exact hF9
        have hFqm10_13 : F13 (qm 10) = cI (cy 1) 5 Kr.1 := by rw [eF13, va_up_ne _ _ (pl_ne hF10 hFo rfl)]; exact hF10
        have hFqm11_13 : F13 (qm 11) = cI (cy 3) 5 Kr.2.1 := by rw [eF13, va_up_ne _ _ (pl_ne hF11 hFo rfl)]; exact hF11
        have hFqm12_13 : F13 (qm 12) = cI (cy 1) 60 Kr.2.2 := by rw [eF13, va_up_ne _ _ (pl_ne hF12 hFo rfl)]; exact hF12
        have hFqm13_13 : F13 (qm 13) = cI (cy 1) 4 Bk.1 := by rw [eF13, va_up_ne _ _ (pl_ne hF13 hFo rfl)]; exact hF13
        have hFqm14_13 : F13 (qm 14) = cD (cy 0) 4 Bk.2 := by rw [eF13, va_up_ne _ _ (pl_ne hF14 hFo rfl)]; exact hF14
        have hFqm15_13 : F13 (qm 15) = cI (cy 1) 6 Xx.2 := by rw [eF13, va_up_ne _ _ (pl_ne hF15 hFo rfl)]; exact hF15
        refine lv_iload_n hx hb dX9_reckon_5 rfl (lv_at hl 2 rfl) ?_
        refine vp_callSi (W.runS (As := [.int (nI j_x)]) (rest := []) ⟨hx, hb, hml, hown, hts⟩ (c9_isMeter l (nI j_x)) (va_cwS 1 hts gX9_reckon_X9_isMeter rfl rfl rfl (by decide +kernel) ⟨Nat.le_of_ble_eq_true rfl, Nat.le_of_ble_eq_true rfl⟩) (preS_of okT (trivial)) rfl rfl hl.1 rfl (lv_room (Nat.le_of_ble_eq_true rfl)) dX9_reckon_6 ⟨Nat.le_of_ble_eq_true rfl, Nat.le_of_ble_eq_true rfl⟩) (fun r14 hr14 => ?_)
        rw [isx1 hi_x] at hr14
        subst hr14
        refine lv_if_eq (tgt := 27) hx hb dX9_reckon_9 (by decide) (fun c15 => absurd c15 (by decide)) (fun c15 => ?_)
        refine lv_iload_n hx hb dX9_reckon_12 rfl (lv_at hl 3 rfl) ?_
        refine vp_callSi (W.runS (As := [.int y]) (rest := []) ⟨hx, hb, hml, hown, hts⟩ (c9_isMeter l y) (va_cwS 1 hts gX9_reckon_X9_isMeter rfl rfl rfl (by decide +kernel) ⟨Nat.le_of_ble_eq_true rfl, Nat.le_of_ble_eq_true rfl⟩) (preS_of okT (trivial)) rfl rfl hl.1 rfl (lv_room (Nat.le_of_ble_eq_true rfl)) dX9_reckon_13 ⟨Nat.le_of_ble_eq_true rfl, Nat.le_of_ble_eq_true rfl⟩) (fun r16 hr16 => ?_)
        rw [isx0 hi_y] at hr16
        subst hr16
        refine lv_if_eq (tgt := 27) hx hb dX9_reckon_16 (by decide) (fun c17 => ?_) (fun c17 => absurd (by decide) c17)
        refine lv_sipush (v := -1001) hx hb dX9_reckon_27 (by decide) ?_
        exact W.iret (v := -1001) hx hb hr (fun t ht hW => ⟨⟨-1001, F13, rfl, (by have hsp : sp_reckon Mm Xx 0 (nI j_x) y into = (-1001, Mm, Xx) := (by unfold sp_reckon; rw [hi_x, hi_y]); rw [hsp]; exact ⟨rfl, (by exact ⟨⟨_, _, hmo, hFo_13⟩, ⟨hm0, hFqm0_13⟩, ⟨hm1, hFqm1_13⟩, ⟨hm2, hFqm2_13⟩, ⟨hm3, hFqm3_13⟩, ⟨hm4, hFqm4_13⟩, ⟨hm5, hFqm5_13⟩, ⟨hm6, hFqm6_13⟩, ⟨hm7, hFqm7_13⟩, ⟨hm8, hFqm8_13⟩, ⟨hm9, hFqm9_13⟩, ⟨hm10, hFqm10_13⟩, ⟨hm11, hFqm11_13⟩, ⟨hm12, hFqm12_13⟩, ⟨hm13, hFqm13_13⟩, ⟨hm14, hFqm14_13⟩, ⟨hm15, hFqm15_13⟩, hne⟩)⟩), (by show va_P _ _ _ t.heap; rw [ht]; exact hP)⟩, hS.F ht⟩) hS.2.2 dX9_reckon_30
      · subst ei_into
        refine lv_aload_n hx hb dX9_reckon_0 rfl (lv_at hl 0 rfl) ?_
        refine lv_iconst (v := 0) hx hb dX9_reckon_1 (by decide) ?_
        refine pg_put (ci := 8) (v := .int 0) (ty := .int) (C := RX9) (T := TX9) (N := 20) hx hb hts hinX9 tyX9 tyX9_ok nmX9 hown hK hP hD hS hmo hFo rfl 0 (by decide) (hts (.fieldLink RX9 61 "RopeDrumsModel" "thrown" "I") (by decide +kernel)) (fun _ h9 => h9) rfl (by decide +kernel) (rfl) (rfl) (Nat.le_of_ble_eq_true rfl) dX9_reckon_2 (fun H locs F18 eF18 hP hS => ?_)
        have eF18 : F18 = va_up F o (.inr (8, [.int 0, .ref (qm 0), .ref (qm 1), .ref (qm 2), .ref (qm 3), .ref (qm 4), .ref (qm 5), .ref (qm 6), .ref (qm 7), .int Pp.1, .ref (qm 8), .ref (qm 9), .ref (qm 10), .ref (qm 11), .ref (qm 12), .ref (qm 13), .ref (qm 14), .int Xx.1, .ref (qm 15), .long oc])) := eF18
        have hFo_18 : F18 o = .inr (8, [.int 0, .ref (qm 0), .ref (qm 1), .ref (qm 2), .ref (qm 3), .ref (qm 4), .ref (qm 5), .ref (qm 6), .ref (qm 7), .int Pp.1, .ref (qm 8), .ref (qm 9), .ref (qm 10), .ref (qm 11), .ref (qm 12), .ref (qm 13), .ref (qm 14), .int Xx.1, .ref (qm 15), .long oc]) := by rw [eF18]; exact va_up_self _ _ _
        have hFqm0_18 : F18 (qm 0) = cI (cy 1) 10 Mm.1 := by rw [eF18, va_up_ne _ _ (pl_ne hF0 hFo rfl)]; exact hF0
        have hFqm1_18 : F18 (qm 1) = cJ (cy 2) 10 Mm.2 := by rw [eF18, va_up_ne _ _ (pl_ne hF1 hFo rfl)]; exact hF1
        have hFqm2_18 : F18 (qm 2) = cD (cy 0) 6 Dd.1 := by rw [eF18, va_up_ne _ _ (pl_ne hF2 hFo rfl)]; exact hF2
        have hFqm3_18 : F18 (qm 3) = cD (cy 0) 6 Dd.2.1 := by rw [eF18, va_up_ne _ _ (pl_ne hF3 hFo rfl)]; exact hF3
        have hFqm4_18 : F18 (qm 4) = cD (cy 0) 6 Dd.2.2.1 := by rw [eF18, va_up_ne _ _ (pl_ne hF4 hFo rfl)]; exact hF4
        have hFqm5_18 : F18 (qm 5) = cJ (cy 2) 6 Dd.2.2.2 := by rw [eF18, va_up_ne _ _ (pl_ne hF5 hFo rfl)]; exact hF5
        have hFqm6_18 : F18 (qm 6) = cI (cy 1) 8 Sl.1 := by rw [eF18, va_up_ne _ _ (pl_ne hF6 hFo rfl)]; exact hF6
        have hFqm7_18 : F18 (qm 7) = cJ (cy 2) 128 Sl.2 := by rw [eF18, va_up_ne _ _ (pl_ne hF7 hFo rfl)]; exact hF7
        have hFqm8_18 : F18 (qm 8) = cI (cy 1) 30 Pp.2.1 := by rw [eF18, va_up_ne _ _ (pl_ne hF8 hFo rfl)]; exact hF8
        have hFqm9_18 : F18 (qm 9) = cI (cy 3) 30 Pp.2.2 := by rw [eF18, va_up_ne _ _ (pl_ne hF9 hFo rfl)]; exact hF9
        have hFqm10_18 : F18 (qm 10) = cI (cy 1) 5 Kr.1 := by rw [eF18, va_up_ne _ _ (pl_ne hF10 hFo rfl)]; exact hF10
        have hFqm11_18 : F18 (qm 11) = cI (cy 3) 5 Kr.2.1 := by rw [eF18, va_up_ne _ _ (pl_ne hF11 hFo rfl)]; exact hF11
        have hFqm12_18 : F18 (qm 12) = cI (cy 1) 60 Kr.2.2 := by rw [eF18, va_up_ne _ _ (pl_ne hF12 hFo rfl)]; exact hF12
        have hFqm13_18 : F18 (qm 13) = cI (cy 1) 4 Bk.1 := by rw [eF18, va_up_ne _ _ (pl_ne hF13 hFo rfl)]; exact hF13
        have hFqm14_18 : F18 (qm 14) = cD (cy 0) 4 Bk.2 := by rw [eF18, va_up_ne _ _ (pl_ne hF14 hFo rfl)]; exact hF14
        have hFqm15_18 : F18 (qm 15) = cI (cy 1) 6 Xx.2 := by rw [eF18, va_up_ne _ _ (pl_ne hF15 hFo rfl)]; exact hF15
        refine lv_iload_n hx hb dX9_reckon_5 rfl (lv_at hl 2 rfl) ?_
        refine vp_callSi (W.runS (As := [.int (nI j_x)]) (rest := []) ⟨hx, hb, hml, hown, hts⟩ (c9_isMeter l (nI j_x)) (va_cwS 1 hts gX9_reckon_X9_isMeter rfl rfl rfl (by decide +kernel) ⟨Nat.le_of_ble_eq_true rfl, Nat.le_of_ble_eq_true rfl⟩) (preS_of okT (trivial)) rfl rfl hl.1 rfl (lv_room (Nat.le_of_ble_eq_true rfl)) dX9_reckon_6 ⟨Nat.le_of_ble_eq_true rfl, Nat.le_of_ble_eq_true rfl⟩) (fun r19 hr19 => ?_)
        rw [isx1 hi_x] at hr19
        subst hr19
        refine lv_if_eq (tgt := 27) hx hb dX9_reckon_9 (by decide) (fun c20 => absurd c20 (by decide)) (fun c20 => ?_)
        refine lv_iload_n hx hb dX9_reckon_12 rfl (lv_at hl 3 rfl) ?_
        refine vp_callSi (W.runS (As := [.int y]) (rest := []) ⟨hx, hb, hml, hown, hts⟩ (c9_isMeter l y) (va_cwS 1 hts gX9_reckon_X9_isMeter rfl rfl rfl (by decide +kernel) ⟨Nat.le_of_ble_eq_true rfl, Nat.le_of_ble_eq_true rfl⟩) (preS_of okT (trivial)) rfl rfl hl.1 rfl (lv_room (Nat.le_of_ble_eq_true rfl)) dX9_reckon_13 ⟨Nat.le_of_ble_eq_true rfl, Nat.le_of_ble_eq_true rfl⟩) (fun r21 hr21 => ?_)
        rw [isx0 hi_y] at hr21
        subst hr21
        refine lv_if_eq (tgt := 27) hx hb dX9_reckon_16 (by decide) (fun c22 => ?_) (fun c22 => absurd (by decide) c22)
        refine lv_sipush (v := -1001) hx hb dX9_reckon_27 (by decide) ?_
        exact W.iret (v := -1001) hx hb hr (fun t ht hW => ⟨⟨-1001, F18, rfl, (by have hsp : sp_reckon Mm Xx 0 (nI j_x) y (nI j_into) = (-1001, Mm, Xx) := (by unfold sp_reckon; rw [hi_x, hi_y]); rw [hsp]; exact ⟨rfl, (by exact ⟨⟨_, _, hmo, hFo_18⟩, ⟨hm0, hFqm0_18⟩, ⟨hm1, hFqm1_18⟩, ⟨hm2, hFqm2_18⟩, ⟨hm3, hFqm3_18⟩, ⟨hm4, hFqm4_18⟩, ⟨hm5, hFqm5_18⟩, ⟨hm6, hFqm6_18⟩, ⟨hm7, hFqm7_18⟩, ⟨hm8, hFqm8_18⟩, ⟨hm9, hFqm9_18⟩, ⟨hm10, hFqm10_18⟩, ⟨hm11, hFqm11_18⟩, ⟨hm12, hFqm12_18⟩, ⟨hm13, hFqm13_18⟩, ⟨hm14, hFqm14_18⟩, ⟨hm15, hFqm15_18⟩, hne⟩)⟩), (by show va_P _ _ _ t.heap; rw [ht]; exact hP)⟩, hS.F ht⟩) hS.2.2 dX9_reckon_30
    · subst ei_y
      rcases ixc 10 into with hi_into | ⟨j_into, hj_into, hi_into, ei_into⟩
      · refine lv_aload_n hx hb dX9_reckon_0 rfl (lv_at hl 0 rfl) ?_
        refine lv_iconst (v := 0) hx hb dX9_reckon_1 (by decide) ?_
        refine pg_put (ci := 8) (v := .int 0) (ty := .int) (C := RX9) (T := TX9) (N := 20) hx hb hts hinX9 tyX9 tyX9_ok nmX9 hown hK hP hD hS hmo hFo rfl 0 (by decide) (hts (.fieldLink RX9 61 "RopeDrumsModel" "thrown" "I") (by decide +kernel)) (fun _ h9 => h9) rfl (by decide +kernel) (rfl) (rfl) (Nat.le_of_ble_eq_true rfl) dX9_reckon_2 (fun H locs F23 eF23 hP hS => ?_)
        have eF23 : F23 = va_up F o (.inr (8, [.int 0, .ref (qm 0), .ref (qm 1), .ref (qm 2), .ref (qm 3), .ref (qm 4), .ref (qm 5), .ref (qm 6), .ref (qm 7), .int Pp.1, .ref (qm 8), .ref (qm 9), .ref (qm 10), .ref (qm 11), .ref (qm 12), .ref (qm 13), .ref (qm 14), .int Xx.1, .ref (qm 15), .long oc])) := eF23
        have hFo_23 : F23 o = .inr (8, [.int 0, .ref (qm 0), .ref (qm 1), .ref (qm 2), .ref (qm 3), .ref (qm 4), .ref (qm 5), .ref (qm 6), .ref (qm 7), .int Pp.1, .ref (qm 8), .ref (qm 9), .ref (qm 10), .ref (qm 11), .ref (qm 12), .ref (qm 13), .ref (qm 14), .int Xx.1, .ref (qm 15), .long oc]) := by rw [eF23]; exact va_up_self _ _ _
        have hFqm0_23 : F23 (qm 0) = cI (cy 1) 10 Mm.1 := by rw [eF23, va_up_ne _ _ (pl_ne hF0 hFo rfl)]; exact hF0
        have hFqm1_23 : F23 (qm 1) = cJ (cy 2) 10 Mm.2 := by rw [eF23, va_up_ne _ _ (pl_ne hF1 hFo rfl)]; exact hF1
        have hFqm2_23 : F23 (qm 2) = cD (cy 0) 6 Dd.1 := by rw [eF23, va_up_ne _ _ (pl_ne hF2 hFo rfl)]; exact hF2
        have hFqm3_23 : F23 (qm 3) = cD (cy 0) 6 Dd.2.1 := by rw [eF23, va_up_ne _ _ (pl_ne hF3 hFo rfl)]; exact hF3
        have hFqm4_23 : F23 (qm 4) = cD (cy 0) 6 Dd.2.2.1 := by rw [eF23, va_up_ne _ _ (pl_ne hF4 hFo rfl)]; exact hF4
        have hFqm5_23 : F23 (qm 5) = cJ (cy 2) 6 Dd.2.2.2 := by rw [eF23, va_up_ne _ _ (pl_ne hF5 hFo rfl)]; exact hF5
        have hFqm6_23 : F23 (qm 6) = cI (cy 1) 8 Sl.1 := by rw [eF23, va_up_ne _ _ (pl_ne hF6 hFo rfl)]; exact hF6
        have hFqm7_23 : F23 (qm 7) = cJ (cy 2) 128 Sl.2 := by rw [eF23, va_up_ne _ _ (pl_ne hF7 hFo rfl)]; exact hF7
        have hFqm8_23 : F23 (qm 8) = cI (cy 1) 30 Pp.2.1 := by rw [eF23, va_up_ne _ _ (pl_ne hF8 hFo rfl)]; exact hF8
        have hFqm9_23 : F23 (qm 9) = cI (cy 3) 30 Pp.2.2 := by rw [eF23, va_up_ne _ _ (pl_ne hF9 hFo rfl)]; exact hF9
        have hFqm10_23 : F23 (qm 10) = cI (cy 1) 5 Kr.1 := by rw [eF23, va_up_ne _ _ (pl_ne hF10 hFo rfl)]; exact hF10
        have hFqm11_23 : F23 (qm 11) = cI (cy 3) 5 Kr.2.1 := by rw [eF23, va_up_ne _ _ (pl_ne hF11 hFo rfl)]; exact hF11
        have hFqm12_23 : F23 (qm 12) = cI (cy 1) 60 Kr.2.2 := by rw [eF23, va_up_ne _ _ (pl_ne hF12 hFo rfl)]; exact hF12
        have hFqm13_23 : F23 (qm 13) = cI (cy 1) 4 Bk.1 := by rw [eF23, va_up_ne _ _ (pl_ne hF13 hFo rfl)]; exact hF13
        have hFqm14_23 : F23 (qm 14) = cD (cy 0) 4 Bk.2 := by rw [eF23, va_up_ne _ _ (pl_ne hF14 hFo rfl)]; exact hF14
        have hFqm15_23 : F23 (qm 15) = cI (cy 1) 6 Xx.2 := by rw [eF23, va_up_ne _ _ (pl_ne hF15 hFo rfl)]; exact hF15
        refine lv_iload_n hx hb dX9_reckon_5 rfl (lv_at hl 2 rfl) ?_
        refine vp_callSi (W.runS (As := [.int (nI j_x)]) (rest := []) ⟨hx, hb, hml, hown, hts⟩ (c9_isMeter l (nI j_x)) (va_cwS 1 hts gX9_reckon_X9_isMeter rfl rfl rfl (by decide +kernel) ⟨Nat.le_of_ble_eq_true rfl, Nat.le_of_ble_eq_true rfl⟩) (preS_of okT (trivial)) rfl rfl hl.1 rfl (lv_room (Nat.le_of_ble_eq_true rfl)) dX9_reckon_6 ⟨Nat.le_of_ble_eq_true rfl, Nat.le_of_ble_eq_true rfl⟩) (fun r24 hr24 => ?_)
        rw [isx1 hi_x] at hr24
        subst hr24
        refine lv_if_eq (tgt := 27) hx hb dX9_reckon_9 (by decide) (fun c25 => absurd c25 (by decide)) (fun c25 => ?_)
        refine lv_iload_n hx hb dX9_reckon_12 rfl (lv_at hl 3 rfl) ?_
        refine vp_callSi (W.runS (As := [.int (nI j_y)]) (rest := []) ⟨hx, hb, hml, hown, hts⟩ (c9_isMeter l (nI j_y)) (va_cwS 1 hts gX9_reckon_X9_isMeter rfl rfl rfl (by decide +kernel) ⟨Nat.le_of_ble_eq_true rfl, Nat.le_of_ble_eq_true rfl⟩) (preS_of okT (trivial)) rfl rfl hl.1 rfl (lv_room (Nat.le_of_ble_eq_true rfl)) dX9_reckon_13 ⟨Nat.le_of_ble_eq_true rfl, Nat.le_of_ble_eq_true rfl⟩) (fun r26 hr26 => ?_)
        rw [isx1 hi_y] at hr26
        subst hr26
        refine lv_if_eq (tgt := 27) hx hb dX9_reckon_16 (by decide) (fun c27 => absurd c27 (by decide)) (fun c27 => ?_)
        refine lv_iload hx hb dX9_reckon_19 (lv_at hl 4 rfl) ?_
        refine vp_callSi (W.runS (As := [.int into]) (rest := []) ⟨hx, hb, hml, hown, hts⟩ (c9_isMeter l into) (va_cwS 1 hts gX9_reckon_X9_isMeter rfl rfl rfl (by decide +kernel) ⟨Nat.le_of_ble_eq_true rfl, Nat.le_of_ble_eq_true rfl⟩) (preS_of okT (trivial)) rfl rfl hl.1 rfl (lv_room (Nat.le_of_ble_eq_true rfl)) dX9_reckon_21 ⟨Nat.le_of_ble_eq_true rfl, Nat.le_of_ble_eq_true rfl⟩) (fun r28 hr28 => ?_)
        rw [isx0 hi_into] at hr28
        subst hr28
        refine lv_if_ne (tgt := 31) hx hb dX9_reckon_24 (by decide) (fun c29 => absurd (by decide) c29) (fun c29 => ?_)
        refine lv_sipush (v := -1001) hx hb dX9_reckon_27 (by decide) ?_
        exact W.iret (v := -1001) hx hb hr (fun t ht hW => ⟨⟨-1001, F23, rfl, (by have hsp : sp_reckon Mm Xx 0 (nI j_x) (nI j_y) into = (-1001, Mm, Xx) := (by unfold sp_reckon; rw [hi_x, hi_y, hi_into]); rw [hsp]; exact ⟨rfl, (by exact ⟨⟨_, _, hmo, hFo_23⟩, ⟨hm0, hFqm0_23⟩, ⟨hm1, hFqm1_23⟩, ⟨hm2, hFqm2_23⟩, ⟨hm3, hFqm3_23⟩, ⟨hm4, hFqm4_23⟩, ⟨hm5, hFqm5_23⟩, ⟨hm6, hFqm6_23⟩, ⟨hm7, hFqm7_23⟩, ⟨hm8, hFqm8_23⟩, ⟨hm9, hFqm9_23⟩, ⟨hm10, hFqm10_23⟩, ⟨hm11, hFqm11_23⟩, ⟨hm12, hFqm12_23⟩, ⟨hm13, hFqm13_23⟩, ⟨hm14, hFqm14_23⟩, ⟨hm15, hFqm15_23⟩, hne⟩)⟩), (by show va_P _ _ _ t.heap; rw [ht]; exact hP)⟩, hS.F ht⟩) hS.2.2 dX9_reckon_30
      · subst ei_into
        refine lv_aload_n hx hb dX9_reckon_0 rfl (lv_at hl 0 rfl) ?_
        refine lv_iconst (v := 0) hx hb dX9_reckon_1 (by decide) ?_
        refine pg_put (ci := 8) (v := .int 0) (ty := .int) (C := RX9) (T := TX9) (N := 20) hx hb hts hinX9 tyX9 tyX9_ok nmX9 hown hK hP hD hS hmo hFo rfl 0 (by decide) (hts (.fieldLink RX9 61 "RopeDrumsModel" "thrown" "I") (by decide +kernel)) (fun _ h9 => h9) rfl (by decide +kernel) (rfl) (rfl) (Nat.le_of_ble_eq_true rfl) dX9_reckon_2 (fun H locs F30 eF30 hP hS => ?_)
        have eF30 : F30 = va_up F o (.inr (8, [.int 0, .ref (qm 0), .ref (qm 1), .ref (qm 2), .ref (qm 3), .ref (qm 4), .ref (qm 5), .ref (qm 6), .ref (qm 7), .int Pp.1, .ref (qm 8), .ref (qm 9), .ref (qm 10), .ref (qm 11), .ref (qm 12), .ref (qm 13), .ref (qm 14), .int Xx.1, .ref (qm 15), .long oc])) := eF30
        have hFo_30 : F30 o = .inr (8, [.int 0, .ref (qm 0), .ref (qm 1), .ref (qm 2), .ref (qm 3), .ref (qm 4), .ref (qm 5), .ref (qm 6), .ref (qm 7), .int Pp.1, .ref (qm 8), .ref (qm 9), .ref (qm 10), .ref (qm 11), .ref (qm 12), .ref (qm 13), .ref (qm 14), .int Xx.1, .ref (qm 15), .long oc]) := by rw [eF30]; exact va_up_self _ _ _
        have hFqm0_30 : F30 (qm 0) = cI (cy 1) 10 Mm.1 := by rw [eF30, va_up_ne _ _ (pl_ne hF0 hFo rfl)]; exact hF0
        have hFqm1_30 : F30 (qm 1) = cJ (cy 2) 10 Mm.2 := by rw [eF30, va_up_ne _ _ (pl_ne hF1 hFo rfl)]; exact hF1
        have hFqm2_30 : F30 (qm 2) = cD (cy 0) 6 Dd.1 := by rw [eF30, va_up_ne _ _ (pl_ne hF2 hFo rfl)]; exact hF2
        have hFqm3_30 : F30 (qm 3) = cD (cy 0) 6 Dd.2.1 := by rw [eF30, va_up_ne _ _ (pl_ne hF3 hFo rfl)]; exact hF3
        have hFqm4_30 : F30 (qm 4) = cD (cy 0) 6 Dd.2.2.1 := by rw [eF30, va_up_ne _ _ (pl_ne hF4 hFo rfl)]; exact hF4
        have hFqm5_30 : F30 (qm 5) = cJ (cy 2) 6 Dd.2.2.2 := by rw [eF30, va_up_ne _ _ (pl_ne hF5 hFo rfl)]; exact hF5
        have hFqm6_30 : F30 (qm 6) = cI (cy 1) 8 Sl.1 := by rw [eF30, va_up_ne _ _ (pl_ne hF6 hFo rfl)]; exact hF6
        have hFqm7_30 : F30 (qm 7) = cJ (cy 2) 128 Sl.2 := by rw [eF30, va_up_ne _ _ (pl_ne hF7 hFo rfl)]; exact hF7
        have hFqm8_30 : F30 (qm 8) = cI (cy 1) 30 Pp.2.1 := by rw [eF30, va_up_ne _ _ (pl_ne hF8 hFo rfl)]; exact hF8
        have hFqm9_30 : F30 (qm 9) = cI (cy 3) 30 Pp.2.2 := by rw [eF30, va_up_ne _ _ (pl_ne hF9 hFo rfl)]; exact hF9
        have hFqm10_30 : F30 (qm 10) = cI (cy 1) 5 Kr.1 := by rw [eF30, va_up_ne _ _ (pl_ne hF10 hFo rfl)]; exact hF10
        have hFqm11_30 : F30 (qm 11) = cI (cy 3) 5 Kr.2.1 := by rw [eF30, va_up_ne _ _ (pl_ne hF11 hFo rfl)]; exact hF11
        have hFqm12_30 : F30 (qm 12) = cI (cy 1) 60 Kr.2.2 := by rw [eF30, va_up_ne _ _ (pl_ne hF12 hFo rfl)]; exact hF12
        have hFqm13_30 : F30 (qm 13) = cI (cy 1) 4 Bk.1 := by rw [eF30, va_up_ne _ _ (pl_ne hF13 hFo rfl)]; exact hF13
        have hFqm14_30 : F30 (qm 14) = cD (cy 0) 4 Bk.2 := by rw [eF30, va_up_ne _ _ (pl_ne hF14 hFo rfl)]; exact hF14
        have hFqm15_30 : F30 (qm 15) = cI (cy 1) 6 Xx.2 := by rw [eF30, va_up_ne _ _ (pl_ne hF15 hFo rfl)]; exact hF15
        refine lv_iload_n hx hb dX9_reckon_5 rfl (lv_at hl 2 rfl) ?_
        refine vp_callSi (W.runS (As := [.int (nI j_x)]) (rest := []) ⟨hx, hb, hml, hown, hts⟩ (c9_isMeter l (nI j_x)) (va_cwS 1 hts gX9_reckon_X9_isMeter rfl rfl rfl (by decide +kernel) ⟨Nat.le_of_ble_eq_true rfl, Nat.le_of_ble_eq_true rfl⟩) (preS_of okT (trivial)) rfl rfl hl.1 rfl (lv_room (Nat.le_of_ble_eq_true rfl)) dX9_reckon_6 ⟨Nat.le_of_ble_eq_true rfl, Nat.le_of_ble_eq_true rfl⟩) (fun r31 hr31 => ?_)
        rw [isx1 hi_x] at hr31
        subst hr31
        refine lv_if_eq (tgt := 27) hx hb dX9_reckon_9 (by decide) (fun c32 => absurd c32 (by decide)) (fun c32 => ?_)
        refine lv_iload_n hx hb dX9_reckon_12 rfl (lv_at hl 3 rfl) ?_
        refine vp_callSi (W.runS (As := [.int (nI j_y)]) (rest := []) ⟨hx, hb, hml, hown, hts⟩ (c9_isMeter l (nI j_y)) (va_cwS 1 hts gX9_reckon_X9_isMeter rfl rfl rfl (by decide +kernel) ⟨Nat.le_of_ble_eq_true rfl, Nat.le_of_ble_eq_true rfl⟩) (preS_of okT (trivial)) rfl rfl hl.1 rfl (lv_room (Nat.le_of_ble_eq_true rfl)) dX9_reckon_13 ⟨Nat.le_of_ble_eq_true rfl, Nat.le_of_ble_eq_true rfl⟩) (fun r33 hr33 => ?_)
        rw [isx1 hi_y] at hr33
        subst hr33
        refine lv_if_eq (tgt := 27) hx hb dX9_reckon_16 (by decide) (fun c34 => absurd c34 (by decide)) (fun c34 => ?_)
        refine lv_iload hx hb dX9_reckon_19 (lv_at hl 4 rfl) ?_
        refine vp_callSi (W.runS (As := [.int (nI j_into)]) (rest := []) ⟨hx, hb, hml, hown, hts⟩ (c9_isMeter l (nI j_into)) (va_cwS 1 hts gX9_reckon_X9_isMeter rfl rfl rfl (by decide +kernel) ⟨Nat.le_of_ble_eq_true rfl, Nat.le_of_ble_eq_true rfl⟩) (preS_of okT (trivial)) rfl rfl hl.1 rfl (lv_room (Nat.le_of_ble_eq_true rfl)) dX9_reckon_21 ⟨Nat.le_of_ble_eq_true rfl, Nat.le_of_ble_eq_true rfl⟩) (fun r35 hr35 => ?_)
        rw [isx1 hi_into] at hr35
        subst hr35
        refine lv_if_ne (tgt := 31) hx hb dX9_reckon_24 (by decide) (fun c36 => ?_) (fun c36 => absurd c36 (by decide))
        refine lv_iload_n hx hb dX9_reckon_31 rfl (lv_at hl 1 rfl) ?_
        refine lv_i2l hx hb dX9_reckon_32 rfl ?_
        refine lv_topl (fun v37 ev37 => ?_)
        refine lv_lconst (v := 0) hx hb dX9_reckon_33 (by decide) ?_
        refine lv_ldc2 hx hb hown (hts (.constantLong RX9 143 (4)) (by decide +kernel)) dX9_reckon_34 ?_
        refine vp_callSi (W.runS (As := [.long v37, .long 0, .long 4]) (rest := []) ⟨hx, hb, hml, hown, hts⟩ (c9_in l v37 0 4) (va_cwS 3 hts gX9_reckon_X9_in rfl rfl rfl (by decide +kernel) ⟨Nat.le_of_ble_eq_true rfl, Nat.le_of_ble_eq_true rfl⟩) (preS_of okT (trivial)) rfl rfl hl.1 rfl (lv_room (Nat.le_of_ble_eq_true rfl)) dX9_reckon_37 ⟨Nat.le_of_ble_eq_true rfl, Nat.le_of_ble_eq_true rfl⟩) (fun r38 hr38 => ?_)
        have hzr38 : r38 = 1 := by rw [hr38, ev37, inq_i (y := 0) (z := 4) (by decide) (by decide)]; exact if_pos (by decide)
        subst hzr38
        refine lv_if_ne (tgt := 47) hx hb dX9_reckon_40 (by decide) (fun c39 => ?_) (fun c39 => absurd c39 (by decide))
        refine lv_aload_n hx hb dX9_reckon_47 rfl (lv_at hl 0 rfl) ?_
        refine lv_iconst (v := 0) hx hb dX9_reckon_48 (by decide) ?_
        refine pg_put (ci := 8) (v := .int 0) (ty := .int) (C := RX9) (T := TX9) (N := 20) hx hb hts hinX9 tyX9 tyX9_ok nmX9 hown hK hP hD hS hmo hFo_30 rfl 17 (by decide) (hts (.fieldLink RX9 65 "RopeDrumsModel" "failed" "I") (by decide +kernel)) (fun _ h9 => h9) rfl (by decide +kernel) (rfl) (rfl) (Nat.le_of_ble_eq_true rfl) dX9_reckon_49 (fun H locs F40 eF40 hP hS => ?_)
        have eF40 : F40 = va_up F30 o (.inr (8, [.int 0, .ref (qm 0), .ref (qm 1), .ref (qm 2), .ref (qm 3), .ref (qm 4), .ref (qm 5), .ref (qm 6), .ref (qm 7), .int Pp.1, .ref (qm 8), .ref (qm 9), .ref (qm 10), .ref (qm 11), .ref (qm 12), .ref (qm 13), .ref (qm 14), .int 0, .ref (qm 15), .long oc])) := eF40
        have hFo_40 : F40 o = .inr (8, [.int 0, .ref (qm 0), .ref (qm 1), .ref (qm 2), .ref (qm 3), .ref (qm 4), .ref (qm 5), .ref (qm 6), .ref (qm 7), .int Pp.1, .ref (qm 8), .ref (qm 9), .ref (qm 10), .ref (qm 11), .ref (qm 12), .ref (qm 13), .ref (qm 14), .int 0, .ref (qm 15), .long oc]) := by rw [eF40]; exact va_up_self _ _ _
        have hFqm0_40 : F40 (qm 0) = cI (cy 1) 10 Mm.1 := by rw [eF40, va_up_ne _ _ (pl_ne hFqm0_30 hFo_30 rfl)]; exact hFqm0_30
        have hFqm1_40 : F40 (qm 1) = cJ (cy 2) 10 Mm.2 := by rw [eF40, va_up_ne _ _ (pl_ne hFqm1_30 hFo_30 rfl)]; exact hFqm1_30
        have hFqm2_40 : F40 (qm 2) = cD (cy 0) 6 Dd.1 := by rw [eF40, va_up_ne _ _ (pl_ne hFqm2_30 hFo_30 rfl)]; exact hFqm2_30
        have hFqm3_40 : F40 (qm 3) = cD (cy 0) 6 Dd.2.1 := by rw [eF40, va_up_ne _ _ (pl_ne hFqm3_30 hFo_30 rfl)]; exact hFqm3_30
        have hFqm4_40 : F40 (qm 4) = cD (cy 0) 6 Dd.2.2.1 := by rw [eF40, va_up_ne _ _ (pl_ne hFqm4_30 hFo_30 rfl)]; exact hFqm4_30
        have hFqm5_40 : F40 (qm 5) = cJ (cy 2) 6 Dd.2.2.2 := by rw [eF40, va_up_ne _ _ (pl_ne hFqm5_30 hFo_30 rfl)]; exact hFqm5_30
        have hFqm6_40 : F40 (qm 6) = cI (cy 1) 8 Sl.1 := by rw [eF40, va_up_ne _ _ (pl_ne hFqm6_30 hFo_30 rfl)]; exact hFqm6_30
        have hFqm7_40 : F40 (qm 7) = cJ (cy 2) 128 Sl.2 := by rw [eF40, va_up_ne _ _ (pl_ne hFqm7_30 hFo_30 rfl)]; exact hFqm7_30
        have hFqm8_40 : F40 (qm 8) = cI (cy 1) 30 Pp.2.1 := by rw [eF40, va_up_ne _ _ (pl_ne hFqm8_30 hFo_30 rfl)]; exact hFqm8_30
        have hFqm9_40 : F40 (qm 9) = cI (cy 3) 30 Pp.2.2 := by rw [eF40, va_up_ne _ _ (pl_ne hFqm9_30 hFo_30 rfl)]; exact hFqm9_30
        have hFqm10_40 : F40 (qm 10) = cI (cy 1) 5 Kr.1 := by rw [eF40, va_up_ne _ _ (pl_ne hFqm10_30 hFo_30 rfl)]; exact hFqm10_30
        have hFqm11_40 : F40 (qm 11) = cI (cy 3) 5 Kr.2.1 := by rw [eF40, va_up_ne _ _ (pl_ne hFqm11_30 hFo_30 rfl)]; exact hFqm11_30
        have hFqm12_40 : F40 (qm 12) = cI (cy 1) 60 Kr.2.2 := by rw [eF40, va_up_ne _ _ (pl_ne hFqm12_30 hFo_30 rfl)]; exact hFqm12_30
        have hFqm13_40 : F40 (qm 13) = cI (cy 1) 4 Bk.1 := by rw [eF40, va_up_ne _ _ (pl_ne hFqm13_30 hFo_30 rfl)]; exact hFqm13_30
        have hFqm14_40 : F40 (qm 14) = cD (cy 0) 4 Bk.2 := by rw [eF40, va_up_ne _ _ (pl_ne hFqm14_30 hFo_30 rfl)]; exact hFqm14_30
        have hFqm15_40 : F40 (qm 15) = cI (cy 1) 6 Xx.2 := by rw [eF40, va_up_ne _ _ (pl_ne hFqm15_30 hFo_30 rfl)]; exact hFqm15_30
        refine jn_i (pc := 82) (ls := ls) (rest := []) (fun vv => vv = mx (Mm.1 j_x) (Mm.1 j_y)) (fun j41 hj41 => ?_) (fun K => ?_)
        · subst hj41
          refine lv_istore (lv' := [(5, .int (mx (Mm.1 j_x) (Mm.1 j_y))), (0, .ref o), (1, .int 0), (2, .int (nI j_x)), (3, .int (nI j_y)), (4, .int (nI j_into))]) hx hb dX9_reckon_82 hl (by decide) rfl (fun ls hl => ?_)
          refine lv_aload_n hx hb dX9_reckon_84 rfl (lv_at hl 1 rfl) ?_
          refine pg_get (ci := 8) (C := RX9) (T := TX9) (N := 20) hx hb hts hinX9 hown hK hP hmo hFo_40 rfl 1 (by decide) (hts (.fieldLink RX9 7 "RopeDrumsModel" "laneOf" "[I") (by decide +kernel)) (fun _ h9 => h9) rfl dX9_reckon_85 ?_
          refine lv_iload_n hx hb dX9_reckon_88 rfl (lv_at hl 3 rfl) ?_
          refine pg_iald hx hb hK hP 1 hm0 hFqm0_40 rfl (vp_in_nI (by omega) (by decide)) dX9_reckon_89 ?_
          refine lv_topi (fun v42 ev42 => ?_)
          rw [nI_clamp (by omega)] at ev42
          refine lv_aload_n hx hb dX9_reckon_90 rfl (lv_at hl 1 rfl) ?_
          refine pg_get (ci := 8) (C := RX9) (T := TX9) (N := 20) hx hb hts hinX9 hown hK hP hmo hFo_40 rfl 2 (by decide) (hts (.fieldLink RX9 13 "RopeDrumsModel" "held" "[J") (by decide +kernel)) (fun _ h9 => h9) rfl dX9_reckon_91 ?_
          refine lv_iload_n hx hb dX9_reckon_94 rfl (lv_at hl 3 rfl) ?_
          refine pg_lald hx hb hK hP 2 hm1 hFqm1_40 rfl (vp_in_nI (by omega) (by decide)) dX9_reckon_95 ?_
          refine lv_topl (fun v43 ev43 => ?_)
          rw [nI_clamp (by omega)] at ev43
          refine lv_iload hx hb dX9_reckon_96 (lv_at hl 0 rfl) ?_
          refine vp_callSl (W.runS (As := [.int v42, .long v43, .int (mx (Mm.1 j_x) (Mm.1 j_y))]) (rest := []) ⟨hx, hb, hml, hown, hts⟩ (c9_turned l v42 (mx (Mm.1 j_x) (Mm.1 j_y)) v43 (by rw [ev42, ev43]; exact (hVM j_x hj_x))) (va_cwS 3 hts gX9_reckon_X9_turned rfl rfl rfl (by decide +kernel) ⟨Nat.le_of_ble_eq_true rfl, Nat.le_of_ble_eq_true rfl⟩) (preS_of okT (trivial)) rfl rfl hl.1 rfl (lv_room (Nat.le_of_ble_eq_true rfl)) dX9_reckon_98 ⟨Nat.le_of_ble_eq_true rfl, Nat.le_of_ble_eq_true rfl⟩) (fun r44 hr44 => ?_)
          refine lv_lstore (lv' := [(6, .long r44), (5, .int (mx (Mm.1 j_x) (Mm.1 j_y))), (0, .ref o), (1, .int 0), (2, .int (nI j_x)), (3, .int (nI j_y)), (4, .int (nI j_into))]) hx hb dX9_reckon_101 hl (by decide) rfl (fun ls hl => ?_)
          refine lv_aload_n hx hb dX9_reckon_103 rfl (lv_at hl 2 rfl) ?_
          refine pg_get (ci := 8) (C := RX9) (T := TX9) (N := 20) hx hb hts hinX9 hown hK hP hmo hFo_40 rfl 1 (by decide) (hts (.fieldLink RX9 7 "RopeDrumsModel" "laneOf" "[I") (by decide +kernel)) (fun _ h9 => h9) rfl dX9_reckon_104 ?_
          refine lv_iload_n hx hb dX9_reckon_107 rfl (lv_at hl 5 rfl) ?_
          refine pg_iald hx hb hK hP 1 hm0 hFqm0_40 rfl (vp_in_nI (by omega) (by decide)) dX9_reckon_108 ?_
          refine lv_topi (fun v45 ev45 => ?_)
          rw [nI_clamp (by omega)] at ev45
          refine lv_aload_n hx hb dX9_reckon_109 rfl (lv_at hl 2 rfl) ?_
          refine pg_get (ci := 8) (C := RX9) (T := TX9) (N := 20) hx hb hts hinX9 hown hK hP hmo hFo_40 rfl 2 (by decide) (hts (.fieldLink RX9 13 "RopeDrumsModel" "held" "[J") (by decide +kernel)) (fun _ h9 => h9) rfl dX9_reckon_110 ?_
          refine lv_iload_n hx hb dX9_reckon_113 rfl (lv_at hl 5 rfl) ?_
          refine pg_lald hx hb hK hP 2 hm1 hFqm1_40 rfl (vp_in_nI (by omega) (by decide)) dX9_reckon_114 ?_
          refine lv_topl (fun v46 ev46 => ?_)
          rw [nI_clamp (by omega)] at ev46
          refine lv_iload hx hb dX9_reckon_115 (lv_at hl 1 rfl) ?_
          refine vp_callSl (W.runS (As := [.int v45, .long v46, .int (mx (Mm.1 j_x) (Mm.1 j_y))]) (rest := []) ⟨hx, hb, hml, hown, hts⟩ (c9_turned l v45 (mx (Mm.1 j_x) (Mm.1 j_y)) v46 (by rw [ev45, ev46]; exact (hVM j_y hj_y))) (va_cwS 3 hts gX9_reckon_X9_turned rfl rfl rfl (by decide +kernel) ⟨Nat.le_of_ble_eq_true rfl, Nat.le_of_ble_eq_true rfl⟩) (preS_of okT (trivial)) rfl rfl hl.1 rfl (lv_room (Nat.le_of_ble_eq_true rfl)) dX9_reckon_117 ⟨Nat.le_of_ble_eq_true rfl, Nat.le_of_ble_eq_true rfl⟩) (fun r47 hr47 => ?_)
          refine lv_lstore (lv' := [(8, .long r47), (6, .long r44), (5, .int (mx (Mm.1 j_x) (Mm.1 j_y))), (0, .ref o), (1, .int 0), (2, .int (nI j_x)), (3, .int (nI j_y)), (4, .int (nI j_into))]) hx hb dX9_reckon_120 hl (by decide) rfl (fun ls hl => ?_)
          have hmx := mx_v (hVM j_x hj_x).lane (hVM j_y hj_y).lane
          by_cases h1l : (1 : Int32) < mx (Mm.1 j_x) (Mm.1 j_y)
          · rcases (hmx.2 h1l).1 with hmxl | hmxl
            · by_cases hnan0 : FP.Core.fIsNaN (rkF 0 (fl (tn (Mm.1 j_x) (Mm.2 j_x) 2)) (fl (tn (Mm.1 j_y) (Mm.2 j_y) 2))) = true
              · refine lv_iload hx hb dX9_reckon_122 (lv_at hl 2 rfl) ?_
                refine lv_iconst (v := 2) hx hb dX9_reckon_124 (by decide) ?_
                refine lv_icmp_ge (tgt := 162) hx hb dX9_reckon_125 (by decide) (fun c48 => ?_) (fun c48 => absurd (by rw [hmxl]; decide) c48)
                refine lv_iload hx hb dX9_reckon_162 (lv_at hl 2 rfl) ?_
                refine lv_iconst (v := 2) hx hb dX9_reckon_164 (by decide) ?_
                refine lv_icmp_ne (tgt := 186) hx hb dX9_reckon_165 (by decide) (fun c49 => absurd (hmxl) c49) (fun c49 => ?_)
                refine lv_aload_n hx hb dX9_reckon_168 rfl (lv_at hl 3 rfl) ?_
                refine lv_iload_n hx hb dX9_reckon_169 rfl (lv_at hl 4 rfl) ?_
                refine lv_lload hx hb dX9_reckon_170 (lv_at hl 1 rfl) ?_
                refine vp_callSf (W.runS (As := [.long r44]) (rest := [.int 0, .ref o]) ⟨hx, hb, hml, hown, hts⟩ (c9_floatOf l r44 (by rw [hr44, ev42, ev43]; exact (by rw [hmxl]; exact tn2_ok (hVM j_x hj_x)))) (va_cwS 1 hts gX9_reckon_X9_floatOf rfl rfl rfl (by decide +kernel) ⟨Nat.le_of_ble_eq_true rfl, Nat.le_of_ble_eq_true rfl⟩) (preS_of okT (trivial)) rfl rfl hl.1 rfl (lv_room (Nat.le_of_ble_eq_true rfl)) dX9_reckon_172 ⟨Nat.le_of_ble_eq_true rfl, Nat.le_of_ble_eq_true rfl⟩) (fun r50 hr50 => ?_)
                refine lv_lload hx hb dX9_reckon_175 (lv_at hl 0 rfl) ?_
                refine vp_callSf (W.runS (As := [.long r47]) (rest := [.float r50, .int 0, .ref o]) ⟨hx, hb, hml, hown, hts⟩ (c9_floatOf l r47 (by rw [hr47, ev45, ev46]; exact (by rw [hmxl]; exact tn2_ok (hVM j_y hj_y)))) (va_cwS 1 hts gX9_reckon_X9_floatOf rfl rfl rfl (by decide +kernel) ⟨Nat.le_of_ble_eq_true rfl, Nat.le_of_ble_eq_true rfl⟩) (preS_of okT (trivial)) rfl rfl hl.1 rfl (lv_room (Nat.le_of_ble_eq_true rfl)) dX9_reckon_177 ⟨Nat.le_of_ble_eq_true rfl, Nat.le_of_ble_eq_true rfl⟩) (fun r51 hr51 => ?_)
                refine va_callv (va_runV (As := [.int 0, .float r50, .float r51]) (rest := []) ⟨hx, hb, hml, hown, hts⟩ (c9_rF_0_no l G cy L F40 H.size o qm 0 Pp.1 0 oc hmo hFo_40 r50 r51 (by rw [hr50, hr44, ev42, ev43, hmxl]; exact tn2_ok (hVM j_x hj_x)) (by rw [hr51, hr47, ev45, ev46, hmxl]; exact tn2_ok (hVM j_y hj_y)) (by rw [hr50, hr44, ev42, ev43, hr51, hr47, ev45, ev46, hmxl]; exact hnan0)) (cwV 3 hts gX9_reckon_X9_reckonFloats rfl rfl rfl (by decide +kernel) ⟨Nat.le_of_ble_eq_true rfl, Nat.le_of_ble_eq_true rfl⟩) (preV_of okQ (⟨rfl, hP, hK, hD.top⟩) (pl_recv hK hP (ci := 8) rfl hmo hFo_40)) rfl rfl hl.1 rfl (lv_room (Nat.le_of_ble_eq_true rfl)) dX9_reckon_180 ⟨Nat.le_of_ble_eq_true rfl, Nat.le_of_ble_eq_true rfl⟩) hS (fun q _ h => pl_free hD hS hA q h) (pl_free hD hS hA) (fun F52 t H1 locs ht hvm hw hP1 hz1 hk1 hS => ?_)
                have hP1 : va_P G vwCl (va_pl L F52) t.heap := hP1
                rw [ht] at hP1
                have hP := hP1
                generalize H1 = H at hP hS ⊢
                have eF52 : F52 = va_up F40 o (.inr (8, [.int 0, .ref (qm 0), .ref (qm 1), .ref (qm 2), .ref (qm 3), .ref (qm 4), .ref (qm 5), .ref (qm 6), .ref (qm 7), .int Pp.1, .ref (qm 8), .ref (qm 9), .ref (qm 10), .ref (qm 11), .ref (qm 12), .ref (qm 13), .ref (qm 14), .int 5, .ref (qm 15), .long oc])) := hw
                have hFo_52 : F52 o = .inr (8, [.int 0, .ref (qm 0), .ref (qm 1), .ref (qm 2), .ref (qm 3), .ref (qm 4), .ref (qm 5), .ref (qm 6), .ref (qm 7), .int Pp.1, .ref (qm 8), .ref (qm 9), .ref (qm 10), .ref (qm 11), .ref (qm 12), .ref (qm 13), .ref (qm 14), .int 5, .ref (qm 15), .long oc]) := by rw [eF52]; exact va_up_self _ _ _
                have hFqm0_52 : F52 (qm 0) = cI (cy 1) 10 Mm.1 := by rw [eF52, va_up_ne _ _ (pl_ne hFqm0_40 hFo_40 rfl)]; exact hFqm0_40
                have hFqm1_52 : F52 (qm 1) = cJ (cy 2) 10 Mm.2 := by rw [eF52, va_up_ne _ _ (pl_ne hFqm1_40 hFo_40 rfl)]; exact hFqm1_40
                have hFqm2_52 : F52 (qm 2) = cD (cy 0) 6 Dd.1 := by rw [eF52, va_up_ne _ _ (pl_ne hFqm2_40 hFo_40 rfl)]; exact hFqm2_40
                have hFqm3_52 : F52 (qm 3) = cD (cy 0) 6 Dd.2.1 := by rw [eF52, va_up_ne _ _ (pl_ne hFqm3_40 hFo_40 rfl)]; exact hFqm3_40
                have hFqm4_52 : F52 (qm 4) = cD (cy 0) 6 Dd.2.2.1 := by rw [eF52, va_up_ne _ _ (pl_ne hFqm4_40 hFo_40 rfl)]; exact hFqm4_40
                have hFqm5_52 : F52 (qm 5) = cJ (cy 2) 6 Dd.2.2.2 := by rw [eF52, va_up_ne _ _ (pl_ne hFqm5_40 hFo_40 rfl)]; exact hFqm5_40
                have hFqm6_52 : F52 (qm 6) = cI (cy 1) 8 Sl.1 := by rw [eF52, va_up_ne _ _ (pl_ne hFqm6_40 hFo_40 rfl)]; exact hFqm6_40
                have hFqm7_52 : F52 (qm 7) = cJ (cy 2) 128 Sl.2 := by rw [eF52, va_up_ne _ _ (pl_ne hFqm7_40 hFo_40 rfl)]; exact hFqm7_40
                have hFqm8_52 : F52 (qm 8) = cI (cy 1) 30 Pp.2.1 := by rw [eF52, va_up_ne _ _ (pl_ne hFqm8_40 hFo_40 rfl)]; exact hFqm8_40
                have hFqm9_52 : F52 (qm 9) = cI (cy 3) 30 Pp.2.2 := by rw [eF52, va_up_ne _ _ (pl_ne hFqm9_40 hFo_40 rfl)]; exact hFqm9_40
                have hFqm10_52 : F52 (qm 10) = cI (cy 1) 5 Kr.1 := by rw [eF52, va_up_ne _ _ (pl_ne hFqm10_40 hFo_40 rfl)]; exact hFqm10_40
                have hFqm11_52 : F52 (qm 11) = cI (cy 3) 5 Kr.2.1 := by rw [eF52, va_up_ne _ _ (pl_ne hFqm11_40 hFo_40 rfl)]; exact hFqm11_40
                have hFqm12_52 : F52 (qm 12) = cI (cy 1) 60 Kr.2.2 := by rw [eF52, va_up_ne _ _ (pl_ne hFqm12_40 hFo_40 rfl)]; exact hFqm12_40
                have hFqm13_52 : F52 (qm 13) = cI (cy 1) 4 Bk.1 := by rw [eF52, va_up_ne _ _ (pl_ne hFqm13_40 hFo_40 rfl)]; exact hFqm13_40
                have hFqm14_52 : F52 (qm 14) = cD (cy 0) 4 Bk.2 := by rw [eF52, va_up_ne _ _ (pl_ne hFqm14_40 hFo_40 rfl)]; exact hFqm14_40
                have hFqm15_52 : F52 (qm 15) = cI (cy 1) 6 Xx.2 := by rw [eF52, va_up_ne _ _ (pl_ne hFqm15_40 hFo_40 rfl)]; exact hFqm15_40
                refine lv_goto (tgt := 201) hx hb dX9_reckon_183 (by decide) ?_
                refine lv_aload_n hx hb dX9_reckon_201 rfl (lv_at hl 3 rfl) ?_
                refine pg_get (ci := 8) (C := RX9) (T := TX9) (N := 20) hx hb hts hinX9 hown hK hP hmo hFo_52 rfl 17 (by decide) (hts (.fieldLink RX9 65 "RopeDrumsModel" "failed" "I") (by decide +kernel)) (fun _ h9 => h9) rfl dX9_reckon_202 ?_
                refine lv_if_ne (tgt := 228) hx hb dX9_reckon_205 (by decide) (fun c53 => ?_) (fun c53 => absurd c53 (by decide))
                refine lv_aload_n hx hb dX9_reckon_228 rfl (lv_at hl 3 rfl) ?_
                refine lv_iload hx hb dX9_reckon_229 (lv_at hl 2 rfl) ?_
                refine va_calli (va_runV (As := [.int (mx (Mm.1 j_x) (Mm.1 j_y))]) (rest := []) ⟨hx, hb, hml, hown, hts⟩ (c9_answers_5 l G cy L F52 H.size o qm 0 Pp.1 oc hmo hFo_52 Xx.2 hm15 hFqm15_52 (mx (Mm.1 j_x) (Mm.1 j_y))) (cwV 1 hts gX9_reckon_X9_answers rfl rfl rfl (by decide +kernel) ⟨Nat.le_of_ble_eq_true rfl, Nat.le_of_ble_eq_true rfl⟩) (preV_of okQ (⟨rfl, hP, hK, hD.top⟩) (pl_recv hK hP (ci := 8) rfl hmo hFo_52)) rfl rfl hl.1 rfl (lv_room (Nat.le_of_ble_eq_true rfl)) dX9_reckon_231 ⟨Nat.le_of_ble_eq_true rfl, Nat.le_of_ble_eq_true rfl⟩) hS (fun q _ h => pl_free hD hS hA q h) (pl_free hD hS hA) (fun r55 F54 t H1 locs ht hvm hw hP1 hz1 hk1 hS => ?_)
                have hP1 : va_P G vwCl (va_pl L F54) t.heap := hP1
                rw [ht] at hP1
                have hP := hP1
                generalize H1 = H at hP hS ⊢
                obtain ⟨hqr55, eF54⟩ := hw
                have eF54 : F54 = va_up F52 (qm 15) (cI (cy 1) 6 (upd Xx.2 5 (Xx.2 5 + 1))) := eF54
                have hFo_55 : F54 o = .inr (8, [.int 0, .ref (qm 0), .ref (qm 1), .ref (qm 2), .ref (qm 3), .ref (qm 4), .ref (qm 5), .ref (qm 6), .ref (qm 7), .int Pp.1, .ref (qm 8), .ref (qm 9), .ref (qm 10), .ref (qm 11), .ref (qm 12), .ref (qm 13), .ref (qm 14), .int 5, .ref (qm 15), .long oc]) := by rw [eF54, va_up_ne _ _ (pl_ne hFo_52 hFqm15_52 rfl)]; exact hFo_52
                have hFqm0_55 : F54 (qm 0) = cI (cy 1) 10 Mm.1 := by rw [eF54, va_up_ne _ _ (pl_ne hFqm0_52 hFqm15_52 rfl)]; exact hFqm0_52
                have hFqm1_55 : F54 (qm 1) = cJ (cy 2) 10 Mm.2 := by rw [eF54, va_up_ne _ _ (pl_ne hFqm1_52 hFqm15_52 rfl)]; exact hFqm1_52
                have hFqm2_55 : F54 (qm 2) = cD (cy 0) 6 Dd.1 := by rw [eF54, va_up_ne _ _ (pl_ne hFqm2_52 hFqm15_52 rfl)]; exact hFqm2_52
                have hFqm3_55 : F54 (qm 3) = cD (cy 0) 6 Dd.2.1 := by rw [eF54, va_up_ne _ _ (pl_ne hFqm3_52 hFqm15_52 rfl)]; exact hFqm3_52
                have hFqm4_55 : F54 (qm 4) = cD (cy 0) 6 Dd.2.2.1 := by rw [eF54, va_up_ne _ _ (pl_ne hFqm4_52 hFqm15_52 rfl)]; exact hFqm4_52
                have hFqm5_55 : F54 (qm 5) = cJ (cy 2) 6 Dd.2.2.2 := by rw [eF54, va_up_ne _ _ (pl_ne hFqm5_52 hFqm15_52 rfl)]; exact hFqm5_52
                have hFqm6_55 : F54 (qm 6) = cI (cy 1) 8 Sl.1 := by rw [eF54, va_up_ne _ _ (pl_ne hFqm6_52 hFqm15_52 rfl)]; exact hFqm6_52
                have hFqm7_55 : F54 (qm 7) = cJ (cy 2) 128 Sl.2 := by rw [eF54, va_up_ne _ _ (pl_ne hFqm7_52 hFqm15_52 rfl)]; exact hFqm7_52
                have hFqm8_55 : F54 (qm 8) = cI (cy 1) 30 Pp.2.1 := by rw [eF54, va_up_ne _ _ (pl_ne hFqm8_52 hFqm15_52 rfl)]; exact hFqm8_52
                have hFqm9_55 : F54 (qm 9) = cI (cy 3) 30 Pp.2.2 := by rw [eF54, va_up_ne _ _ (pl_ne hFqm9_52 hFqm15_52 rfl)]; exact hFqm9_52
                have hFqm10_55 : F54 (qm 10) = cI (cy 1) 5 Kr.1 := by rw [eF54, va_up_ne _ _ (pl_ne hFqm10_52 hFqm15_52 rfl)]; exact hFqm10_52
                have hFqm11_55 : F54 (qm 11) = cI (cy 3) 5 Kr.2.1 := by rw [eF54, va_up_ne _ _ (pl_ne hFqm11_52 hFqm15_52 rfl)]; exact hFqm11_52
                have hFqm12_55 : F54 (qm 12) = cI (cy 1) 60 Kr.2.2 := by rw [eF54, va_up_ne _ _ (pl_ne hFqm12_52 hFqm15_52 rfl)]; exact hFqm12_52
                have hFqm13_55 : F54 (qm 13) = cI (cy 1) 4 Bk.1 := by rw [eF54, va_up_ne _ _ (pl_ne hFqm13_52 hFqm15_52 rfl)]; exact hFqm13_52
                have hFqm14_55 : F54 (qm 14) = cD (cy 0) 4 Bk.2 := by rw [eF54, va_up_ne _ _ (pl_ne hFqm14_52 hFqm15_52 rfl)]; exact hFqm14_52
                have hFqm15_55 : F54 (qm 15) = cI (cy 1) 6 (upd Xx.2 5 (Xx.2 5 + 1)) := by rw [eF54]; exact va_up_self _ _ _
                have hr55 := hqr55
                exact W.iret (v := r55) hx hb hr (fun t ht hW => ⟨⟨r55, F54, rfl, (by subst hr55 hr51 hr50 hr47 ev46 ev45 hr44 ev43 ev42 ev37; have hsp : sp_reckon Mm Xx 0 (nI j_x) (nI j_y) (nI j_into) = (-15, Mm, failX Xx 5) := (by unfold sp_reckon; rw [hi_x, hi_y, hi_into, ixk.1]; show rk Mm Xx 0 j_x j_y j_into = _; unfold rk; rw [if_neg (hmx.2 h1l).2, if_pos hmxl]; exact if_pos hnan0); rw [hsp]; exact ⟨rfl, (by exact ⟨⟨_, _, hmo, hFo_55⟩, ⟨hm0, hFqm0_55⟩, ⟨hm1, hFqm1_55⟩, ⟨hm2, hFqm2_55⟩, ⟨hm3, hFqm3_55⟩, ⟨hm4, hFqm4_55⟩, ⟨hm5, hFqm5_55⟩, ⟨hm6, hFqm6_55⟩, ⟨hm7, hFqm7_55⟩, ⟨hm8, hFqm8_55⟩, ⟨hm9, hFqm9_55⟩, ⟨hm10, hFqm10_55⟩, ⟨hm11, hFqm11_55⟩, ⟨hm12, hFqm12_55⟩, ⟨hm13, hFqm13_55⟩, ⟨hm14, hFqm14_55⟩, ⟨hm15, hFqm15_55⟩, hne⟩)⟩), (by show va_P _ _ _ t.heap; rw [ht]; exact hP)⟩, hS.F ht⟩) hS.2.2 dX9_reckon_234
              · have hnan : FP.Core.fIsNaN (rkF 0 (fl (tn (Mm.1 j_x) (Mm.2 j_x) 2)) (fl (tn (Mm.1 j_y) (Mm.2 j_y) 2))) = false := Bool.eq_false_iff.mpr hnan0
                refine lv_iload hx hb dX9_reckon_122 (lv_at hl 2 rfl) ?_
                refine lv_iconst (v := 2) hx hb dX9_reckon_124 (by decide) ?_
                refine lv_icmp_ge (tgt := 162) hx hb dX9_reckon_125 (by decide) (fun c56 => ?_) (fun c56 => absurd (by rw [hmxl]; decide) c56)
                refine lv_iload hx hb dX9_reckon_162 (lv_at hl 2 rfl) ?_
                refine lv_iconst (v := 2) hx hb dX9_reckon_164 (by decide) ?_
                refine lv_icmp_ne (tgt := 186) hx hb dX9_reckon_165 (by decide) (fun c57 => absurd (hmxl) c57) (fun c57 => ?_)
                refine lv_aload_n hx hb dX9_reckon_168 rfl (lv_at hl 3 rfl) ?_
                refine lv_iload_n hx hb dX9_reckon_169 rfl (lv_at hl 4 rfl) ?_
                refine lv_lload hx hb dX9_reckon_170 (lv_at hl 1 rfl) ?_
                refine vp_callSf (W.runS (As := [.long r44]) (rest := [.int 0, .ref o]) ⟨hx, hb, hml, hown, hts⟩ (c9_floatOf l r44 (by rw [hr44, ev42, ev43]; exact (by rw [hmxl]; exact tn2_ok (hVM j_x hj_x)))) (va_cwS 1 hts gX9_reckon_X9_floatOf rfl rfl rfl (by decide +kernel) ⟨Nat.le_of_ble_eq_true rfl, Nat.le_of_ble_eq_true rfl⟩) (preS_of okT (trivial)) rfl rfl hl.1 rfl (lv_room (Nat.le_of_ble_eq_true rfl)) dX9_reckon_172 ⟨Nat.le_of_ble_eq_true rfl, Nat.le_of_ble_eq_true rfl⟩) (fun r58 hr58 => ?_)
                refine lv_lload hx hb dX9_reckon_175 (lv_at hl 0 rfl) ?_
                refine vp_callSf (W.runS (As := [.long r47]) (rest := [.float r58, .int 0, .ref o]) ⟨hx, hb, hml, hown, hts⟩ (c9_floatOf l r47 (by rw [hr47, ev45, ev46]; exact (by rw [hmxl]; exact tn2_ok (hVM j_y hj_y)))) (va_cwS 1 hts gX9_reckon_X9_floatOf rfl rfl rfl (by decide +kernel) ⟨Nat.le_of_ble_eq_true rfl, Nat.le_of_ble_eq_true rfl⟩) (preS_of okT (trivial)) rfl rfl hl.1 rfl (lv_room (Nat.le_of_ble_eq_true rfl)) dX9_reckon_177 ⟨Nat.le_of_ble_eq_true rfl, Nat.le_of_ble_eq_true rfl⟩) (fun r59 hr59 => ?_)
                refine va_callv (va_runV (As := [.int 0, .float r58, .float r59]) (rest := []) ⟨hx, hb, hml, hown, hts⟩ (c9_rF_0 l G cy L F40 H.size o qm 0 Pp.1 0 oc hmo hFo_40 r58 r59 (by rw [hr58, hr44, ev42, ev43, hmxl]; exact tn2_ok (hVM j_x hj_x)) (by rw [hr59, hr47, ev45, ev46, hmxl]; exact tn2_ok (hVM j_y hj_y)) (by rw [hr58, hr44, ev42, ev43, hr59, hr47, ev45, ev46, hmxl]; exact hnan)) (cwV 3 hts gX9_reckon_X9_reckonFloats rfl rfl rfl (by decide +kernel) ⟨Nat.le_of_ble_eq_true rfl, Nat.le_of_ble_eq_true rfl⟩) (preV_of okQ (⟨rfl, hP, hK, hD.top⟩) (pl_recv hK hP (ci := 8) rfl hmo hFo_40)) rfl rfl hl.1 rfl (lv_room (Nat.le_of_ble_eq_true rfl)) dX9_reckon_180 ⟨Nat.le_of_ble_eq_true rfl, Nat.le_of_ble_eq_true rfl⟩) hS (fun q _ h => pl_free hD hS hA q h) (pl_free hD hS hA) (fun F60 t H1 locs ht hvm hw hP1 hz1 hk1 hS => ?_)
                have hP1 : va_P G vwCl (va_pl L F60) t.heap := hP1
                rw [ht] at hP1
                have hP := hP1
                generalize H1 = H at hP hS ⊢
                have eF60 : F60 = va_up F40 o (.inr (8, [.int 0, .ref (qm 0), .ref (qm 1), .ref (qm 2), .ref (qm 3), .ref (qm 4), .ref (qm 5), .ref (qm 6), .ref (qm 7), .int Pp.1, .ref (qm 8), .ref (qm 9), .ref (qm 10), .ref (qm 11), .ref (qm 12), .ref (qm 13), .ref (qm 14), .int 0, .ref (qm 15), .long ((FP.fadd r58 r59).toInt32.toInt64)])) := hw
                have hFo_60 : F60 o = .inr (8, [.int 0, .ref (qm 0), .ref (qm 1), .ref (qm 2), .ref (qm 3), .ref (qm 4), .ref (qm 5), .ref (qm 6), .ref (qm 7), .int Pp.1, .ref (qm 8), .ref (qm 9), .ref (qm 10), .ref (qm 11), .ref (qm 12), .ref (qm 13), .ref (qm 14), .int 0, .ref (qm 15), .long ((FP.fadd r58 r59).toInt32.toInt64)]) := by rw [eF60]; exact va_up_self _ _ _
                have hFqm0_60 : F60 (qm 0) = cI (cy 1) 10 Mm.1 := by rw [eF60, va_up_ne _ _ (pl_ne hFqm0_40 hFo_40 rfl)]; exact hFqm0_40
                have hFqm1_60 : F60 (qm 1) = cJ (cy 2) 10 Mm.2 := by rw [eF60, va_up_ne _ _ (pl_ne hFqm1_40 hFo_40 rfl)]; exact hFqm1_40
                have hFqm2_60 : F60 (qm 2) = cD (cy 0) 6 Dd.1 := by rw [eF60, va_up_ne _ _ (pl_ne hFqm2_40 hFo_40 rfl)]; exact hFqm2_40
                have hFqm3_60 : F60 (qm 3) = cD (cy 0) 6 Dd.2.1 := by rw [eF60, va_up_ne _ _ (pl_ne hFqm3_40 hFo_40 rfl)]; exact hFqm3_40
                have hFqm4_60 : F60 (qm 4) = cD (cy 0) 6 Dd.2.2.1 := by rw [eF60, va_up_ne _ _ (pl_ne hFqm4_40 hFo_40 rfl)]; exact hFqm4_40
                have hFqm5_60 : F60 (qm 5) = cJ (cy 2) 6 Dd.2.2.2 := by rw [eF60, va_up_ne _ _ (pl_ne hFqm5_40 hFo_40 rfl)]; exact hFqm5_40
                have hFqm6_60 : F60 (qm 6) = cI (cy 1) 8 Sl.1 := by rw [eF60, va_up_ne _ _ (pl_ne hFqm6_40 hFo_40 rfl)]; exact hFqm6_40
                have hFqm7_60 : F60 (qm 7) = cJ (cy 2) 128 Sl.2 := by rw [eF60, va_up_ne _ _ (pl_ne hFqm7_40 hFo_40 rfl)]; exact hFqm7_40
                have hFqm8_60 : F60 (qm 8) = cI (cy 1) 30 Pp.2.1 := by rw [eF60, va_up_ne _ _ (pl_ne hFqm8_40 hFo_40 rfl)]; exact hFqm8_40
                have hFqm9_60 : F60 (qm 9) = cI (cy 3) 30 Pp.2.2 := by rw [eF60, va_up_ne _ _ (pl_ne hFqm9_40 hFo_40 rfl)]; exact hFqm9_40
                have hFqm10_60 : F60 (qm 10) = cI (cy 1) 5 Kr.1 := by rw [eF60, va_up_ne _ _ (pl_ne hFqm10_40 hFo_40 rfl)]; exact hFqm10_40
                have hFqm11_60 : F60 (qm 11) = cI (cy 3) 5 Kr.2.1 := by rw [eF60, va_up_ne _ _ (pl_ne hFqm11_40 hFo_40 rfl)]; exact hFqm11_40
                have hFqm12_60 : F60 (qm 12) = cI (cy 1) 60 Kr.2.2 := by rw [eF60, va_up_ne _ _ (pl_ne hFqm12_40 hFo_40 rfl)]; exact hFqm12_40
                have hFqm13_60 : F60 (qm 13) = cI (cy 1) 4 Bk.1 := by rw [eF60, va_up_ne _ _ (pl_ne hFqm13_40 hFo_40 rfl)]; exact hFqm13_40
                have hFqm14_60 : F60 (qm 14) = cD (cy 0) 4 Bk.2 := by rw [eF60, va_up_ne _ _ (pl_ne hFqm14_40 hFo_40 rfl)]; exact hFqm14_40
                have hFqm15_60 : F60 (qm 15) = cI (cy 1) 6 Xx.2 := by rw [eF60, va_up_ne _ _ (pl_ne hFqm15_40 hFo_40 rfl)]; exact hFqm15_40
                refine lv_goto (tgt := 201) hx hb dX9_reckon_183 (by decide) ?_
                refine lv_aload_n hx hb dX9_reckon_201 rfl (lv_at hl 3 rfl) ?_
                refine pg_get (ci := 8) (C := RX9) (T := TX9) (N := 20) hx hb hts hinX9 hown hK hP hmo hFo_60 rfl 17 (by decide) (hts (.fieldLink RX9 65 "RopeDrumsModel" "failed" "I") (by decide +kernel)) (fun _ h9 => h9) rfl dX9_reckon_202 ?_
                refine lv_if_ne (tgt := 228) hx hb dX9_reckon_205 (by decide) (fun c61 => absurd (by decide) c61) (fun c61 => ?_)
                refine lv_aload_n hx hb dX9_reckon_208 rfl (lv_at hl 3 rfl) ?_
                refine pg_get (ci := 8) (C := RX9) (T := TX9) (N := 20) hx hb hts hinX9 hown hK hP hmo hFo_60 rfl 1 (by decide) (hts (.fieldLink RX9 7 "RopeDrumsModel" "laneOf" "[I") (by decide +kernel)) (fun _ h9 => h9) rfl dX9_reckon_209 ?_
                refine lv_iload hx hb dX9_reckon_212 (lv_at hl 7 rfl) ?_
                refine lv_iload hx hb dX9_reckon_214 (lv_at hl 2 rfl) ?_
                refine pg_iast hx hb hK hP hD hS 1 hm0 hFqm0_60 rfl (vp_in_nI (by omega) (by decide)) dX9_reckon_216 (fun H locs F62 eF62 hP hS => ?_)
                rw [nI_clamp (by omega)] at eF62
                have hFo_62 : F62 o = .inr (8, [.int 0, .ref (qm 0), .ref (qm 1), .ref (qm 2), .ref (qm 3), .ref (qm 4), .ref (qm 5), .ref (qm 6), .ref (qm 7), .int Pp.1, .ref (qm 8), .ref (qm 9), .ref (qm 10), .ref (qm 11), .ref (qm 12), .ref (qm 13), .ref (qm 14), .int 0, .ref (qm 15), .long ((FP.fadd r58 r59).toInt32.toInt64)]) := by rw [eF62, va_up_ne _ _ (pl_ne hFo_60 hFqm0_60 rfl)]; exact hFo_60
                have hFqm0_62 : F62 (qm 0) = cI (cy 1) 10 (upd Mm.1 j_into (mx (Mm.1 j_x) (Mm.1 j_y))) := by rw [eF62]; exact va_up_self _ _ _
                have hFqm1_62 : F62 (qm 1) = cJ (cy 2) 10 Mm.2 := by rw [eF62, va_up_ne _ _ (pl_ne hFqm1_60 hFqm0_60 rfl)]; exact hFqm1_60
                have hFqm2_62 : F62 (qm 2) = cD (cy 0) 6 Dd.1 := by rw [eF62, va_up_ne _ _ (pl_ne hFqm2_60 hFqm0_60 rfl)]; exact hFqm2_60
                have hFqm3_62 : F62 (qm 3) = cD (cy 0) 6 Dd.2.1 := by rw [eF62, va_up_ne _ _ (pl_ne hFqm3_60 hFqm0_60 rfl)]; exact hFqm3_60
                have hFqm4_62 : F62 (qm 4) = cD (cy 0) 6 Dd.2.2.1 := by rw [eF62, va_up_ne _ _ (pl_ne hFqm4_60 hFqm0_60 rfl)]; exact hFqm4_60
                have hFqm5_62 : F62 (qm 5) = cJ (cy 2) 6 Dd.2.2.2 := by rw [eF62, va_up_ne _ _ (pl_ne hFqm5_60 hFqm0_60 rfl)]; exact hFqm5_60
                have hFqm6_62 : F62 (qm 6) = cI (cy 1) 8 Sl.1 := by rw [eF62, va_up_ne _ _ (pl_ne hFqm6_60 hFqm0_60 rfl)]; exact hFqm6_60
                have hFqm7_62 : F62 (qm 7) = cJ (cy 2) 128 Sl.2 := by rw [eF62, va_up_ne _ _ (pl_ne hFqm7_60 hFqm0_60 rfl)]; exact hFqm7_60
                have hFqm8_62 : F62 (qm 8) = cI (cy 1) 30 Pp.2.1 := by rw [eF62, va_up_ne _ _ (pl_ne hFqm8_60 hFqm0_60 rfl)]; exact hFqm8_60
                have hFqm9_62 : F62 (qm 9) = cI (cy 3) 30 Pp.2.2 := by rw [eF62, va_up_ne _ _ (pl_ne hFqm9_60 hFqm0_60 rfl)]; exact hFqm9_60
                have hFqm10_62 : F62 (qm 10) = cI (cy 1) 5 Kr.1 := by rw [eF62, va_up_ne _ _ (pl_ne hFqm10_60 hFqm0_60 rfl)]; exact hFqm10_60
                have hFqm11_62 : F62 (qm 11) = cI (cy 3) 5 Kr.2.1 := by rw [eF62, va_up_ne _ _ (pl_ne hFqm11_60 hFqm0_60 rfl)]; exact hFqm11_60
                have hFqm12_62 : F62 (qm 12) = cI (cy 1) 60 Kr.2.2 := by rw [eF62, va_up_ne _ _ (pl_ne hFqm12_60 hFqm0_60 rfl)]; exact hFqm12_60
                have hFqm13_62 : F62 (qm 13) = cI (cy 1) 4 Bk.1 := by rw [eF62, va_up_ne _ _ (pl_ne hFqm13_60 hFqm0_60 rfl)]; exact hFqm13_60
                have hFqm14_62 : F62 (qm 14) = cD (cy 0) 4 Bk.2 := by rw [eF62, va_up_ne _ _ (pl_ne hFqm14_60 hFqm0_60 rfl)]; exact hFqm14_60
                have hFqm15_62 : F62 (qm 15) = cI (cy 1) 6 Xx.2 := by rw [eF62, va_up_ne _ _ (pl_ne hFqm15_60 hFqm0_60 rfl)]; exact hFqm15_60
                refine lv_aload_n hx hb dX9_reckon_217 rfl (lv_at hl 3 rfl) ?_
                refine pg_get (ci := 8) (C := RX9) (T := TX9) (N := 20) hx hb hts hinX9 hown hK hP hmo hFo_62 rfl 2 (by decide) (hts (.fieldLink RX9 13 "RopeDrumsModel" "held" "[J") (by decide +kernel)) (fun _ h9 => h9) rfl dX9_reckon_218 ?_
                refine lv_iload hx hb dX9_reckon_221 (lv_at hl 7 rfl) ?_
                refine lv_aload_n hx hb dX9_reckon_223 rfl (lv_at hl 3 rfl) ?_
                refine pg_get (ci := 8) (C := RX9) (T := TX9) (N := 20) hx hb hts hinX9 hown hK hP hmo hFo_62 rfl 19 (by decide) (hts (.fieldLink RX9 131 "RopeDrumsModel" "outcome" "J") (by decide +kernel)) (fun _ h9 => h9) rfl dX9_reckon_224 ?_
                refine pg_last hx hb hK hP hD hS 2 hm1 hFqm1_62 rfl (vp_in_nI (by omega) (by decide)) dX9_reckon_227 (fun H locs F63 eF63 hP hS => ?_)
                rw [nI_clamp (by omega)] at eF63
                have hFo_63 : F63 o = .inr (8, [.int 0, .ref (qm 0), .ref (qm 1), .ref (qm 2), .ref (qm 3), .ref (qm 4), .ref (qm 5), .ref (qm 6), .ref (qm 7), .int Pp.1, .ref (qm 8), .ref (qm 9), .ref (qm 10), .ref (qm 11), .ref (qm 12), .ref (qm 13), .ref (qm 14), .int 0, .ref (qm 15), .long ((FP.fadd r58 r59).toInt32.toInt64)]) := by rw [eF63, va_up_ne _ _ (pl_ne hFo_62 hFqm1_62 rfl)]; exact hFo_62
                have hFqm0_63 : F63 (qm 0) = cI (cy 1) 10 (upd Mm.1 j_into (mx (Mm.1 j_x) (Mm.1 j_y))) := by rw [eF63, va_up_ne _ _ (pl_ne hFqm0_62 hFqm1_62 rfl)]; exact hFqm0_62
                have hFqm1_63 : F63 (qm 1) = cJ (cy 2) 10 (vp_updL Mm.2 j_into ((FP.fadd r58 r59).toInt32.toInt64)) := by rw [eF63]; exact va_up_self _ _ _
                have hFqm2_63 : F63 (qm 2) = cD (cy 0) 6 Dd.1 := by rw [eF63, va_up_ne _ _ (pl_ne hFqm2_62 hFqm1_62 rfl)]; exact hFqm2_62
                have hFqm3_63 : F63 (qm 3) = cD (cy 0) 6 Dd.2.1 := by rw [eF63, va_up_ne _ _ (pl_ne hFqm3_62 hFqm1_62 rfl)]; exact hFqm3_62
                have hFqm4_63 : F63 (qm 4) = cD (cy 0) 6 Dd.2.2.1 := by rw [eF63, va_up_ne _ _ (pl_ne hFqm4_62 hFqm1_62 rfl)]; exact hFqm4_62
                have hFqm5_63 : F63 (qm 5) = cJ (cy 2) 6 Dd.2.2.2 := by rw [eF63, va_up_ne _ _ (pl_ne hFqm5_62 hFqm1_62 rfl)]; exact hFqm5_62
                have hFqm6_63 : F63 (qm 6) = cI (cy 1) 8 Sl.1 := by rw [eF63, va_up_ne _ _ (pl_ne hFqm6_62 hFqm1_62 rfl)]; exact hFqm6_62
                have hFqm7_63 : F63 (qm 7) = cJ (cy 2) 128 Sl.2 := by rw [eF63, va_up_ne _ _ (pl_ne hFqm7_62 hFqm1_62 rfl)]; exact hFqm7_62
                have hFqm8_63 : F63 (qm 8) = cI (cy 1) 30 Pp.2.1 := by rw [eF63, va_up_ne _ _ (pl_ne hFqm8_62 hFqm1_62 rfl)]; exact hFqm8_62
                have hFqm9_63 : F63 (qm 9) = cI (cy 3) 30 Pp.2.2 := by rw [eF63, va_up_ne _ _ (pl_ne hFqm9_62 hFqm1_62 rfl)]; exact hFqm9_62
                have hFqm10_63 : F63 (qm 10) = cI (cy 1) 5 Kr.1 := by rw [eF63, va_up_ne _ _ (pl_ne hFqm10_62 hFqm1_62 rfl)]; exact hFqm10_62
                have hFqm11_63 : F63 (qm 11) = cI (cy 3) 5 Kr.2.1 := by rw [eF63, va_up_ne _ _ (pl_ne hFqm11_62 hFqm1_62 rfl)]; exact hFqm11_62
                have hFqm12_63 : F63 (qm 12) = cI (cy 1) 60 Kr.2.2 := by rw [eF63, va_up_ne _ _ (pl_ne hFqm12_62 hFqm1_62 rfl)]; exact hFqm12_62
                have hFqm13_63 : F63 (qm 13) = cI (cy 1) 4 Bk.1 := by rw [eF63, va_up_ne _ _ (pl_ne hFqm13_62 hFqm1_62 rfl)]; exact hFqm13_62
                have hFqm14_63 : F63 (qm 14) = cD (cy 0) 4 Bk.2 := by rw [eF63, va_up_ne _ _ (pl_ne hFqm14_62 hFqm1_62 rfl)]; exact hFqm14_62
                have hFqm15_63 : F63 (qm 15) = cI (cy 1) 6 Xx.2 := by rw [eF63, va_up_ne _ _ (pl_ne hFqm15_62 hFqm1_62 rfl)]; exact hFqm15_62
                refine lv_aload_n hx hb dX9_reckon_228 rfl (lv_at hl 3 rfl) ?_
                refine lv_iload hx hb dX9_reckon_229 (lv_at hl 2 rfl) ?_
                refine va_calli (va_runV (As := [.int (mx (Mm.1 j_x) (Mm.1 j_y))]) (rest := []) ⟨hx, hb, hml, hown, hts⟩ (c9_answers_0 l G cy L F63 H.size o qm 0 Pp.1 ((FP.fadd r58 r59).toInt32.toInt64) hmo hFo_63 Xx.2 hm15 hFqm15_63 (mx (Mm.1 j_x) (Mm.1 j_y))) (cwV 1 hts gX9_reckon_X9_answers rfl rfl rfl (by decide +kernel) ⟨Nat.le_of_ble_eq_true rfl, Nat.le_of_ble_eq_true rfl⟩) (preV_of okQ (⟨rfl, hP, hK, hD.top⟩) (pl_recv hK hP (ci := 8) rfl hmo hFo_63)) rfl rfl hl.1 rfl (lv_room (Nat.le_of_ble_eq_true rfl)) dX9_reckon_231 ⟨Nat.le_of_ble_eq_true rfl, Nat.le_of_ble_eq_true rfl⟩) hS (fun q _ h => pl_free hD hS hA q h) (pl_free hD hS hA) (fun r65 F64 t H1 locs ht hvm hw hP1 hz1 hk1 hS => ?_)
                have hP1 : va_P G vwCl (va_pl L F64) t.heap := hP1
                rw [ht] at hP1
                have hP := hP1
                generalize H1 = H at hP hS ⊢
                obtain ⟨hqr65, eF64⟩ := hw
                have hFo_F64 : F64 o = .inr (8, [.int 0, .ref (qm 0), .ref (qm 1), .ref (qm 2), .ref (qm 3), .ref (qm 4), .ref (qm 5), .ref (qm 6), .ref (qm 7), .int Pp.1, .ref (qm 8), .ref (qm 9), .ref (qm 10), .ref (qm 11), .ref (qm 12), .ref (qm 13), .ref (qm 14), .int 0, .ref (qm 15), .long ((FP.fadd r58 r59).toInt32.toInt64)]) := by rw [eF64]; exact hFo_63
                have hFqm0_F64 : F64 (qm 0) = cI (cy 1) 10 (upd Mm.1 j_into (mx (Mm.1 j_x) (Mm.1 j_y))) := by rw [eF64]; exact hFqm0_63
                have hFqm1_F64 : F64 (qm 1) = cJ (cy 2) 10 (vp_updL Mm.2 j_into ((FP.fadd r58 r59).toInt32.toInt64)) := by rw [eF64]; exact hFqm1_63
                have hFqm2_F64 : F64 (qm 2) = cD (cy 0) 6 Dd.1 := by rw [eF64]; exact hFqm2_63
                have hFqm3_F64 : F64 (qm 3) = cD (cy 0) 6 Dd.2.1 := by rw [eF64]; exact hFqm3_63
                have hFqm4_F64 : F64 (qm 4) = cD (cy 0) 6 Dd.2.2.1 := by rw [eF64]; exact hFqm4_63
                have hFqm5_F64 : F64 (qm 5) = cJ (cy 2) 6 Dd.2.2.2 := by rw [eF64]; exact hFqm5_63
                have hFqm6_F64 : F64 (qm 6) = cI (cy 1) 8 Sl.1 := by rw [eF64]; exact hFqm6_63
                have hFqm7_F64 : F64 (qm 7) = cJ (cy 2) 128 Sl.2 := by rw [eF64]; exact hFqm7_63
                have hFqm8_F64 : F64 (qm 8) = cI (cy 1) 30 Pp.2.1 := by rw [eF64]; exact hFqm8_63
                have hFqm9_F64 : F64 (qm 9) = cI (cy 3) 30 Pp.2.2 := by rw [eF64]; exact hFqm9_63
                have hFqm10_F64 : F64 (qm 10) = cI (cy 1) 5 Kr.1 := by rw [eF64]; exact hFqm10_63
                have hFqm11_F64 : F64 (qm 11) = cI (cy 3) 5 Kr.2.1 := by rw [eF64]; exact hFqm11_63
                have hFqm12_F64 : F64 (qm 12) = cI (cy 1) 60 Kr.2.2 := by rw [eF64]; exact hFqm12_63
                have hFqm13_F64 : F64 (qm 13) = cI (cy 1) 4 Bk.1 := by rw [eF64]; exact hFqm13_63
                have hFqm14_F64 : F64 (qm 14) = cD (cy 0) 4 Bk.2 := by rw [eF64]; exact hFqm14_63
                have hFqm15_F64 : F64 (qm 15) = cI (cy 1) 6 Xx.2 := by rw [eF64]; exact hFqm15_63
                have hr65 := hqr65
                exact W.iret (v := r65) hx hb hr (fun t ht hW => ⟨⟨r65, F64, rfl, (by subst hr65 hr59 hr58 hr47 ev46 ev45 hr44 ev43 ev42 ev37; have hsp : sp_reckon Mm Xx 0 (nI j_x) (nI j_y) (nI j_into) = (2, setM Mm j_into 2 (rkF 0 (fl (tn (Mm.1 j_x) (Mm.2 j_x) 2)) (fl (tn (Mm.1 j_y) (Mm.2 j_y) 2))).toInt32.toInt64, goodX Xx) := (by unfold sp_reckon; rw [hi_x, hi_y, hi_into, ixk.1]; show rk Mm Xx 0 j_x j_y j_into = _; unfold rk; rw [if_neg (hmx.2 h1l).2, if_pos hmxl]; exact if_neg (by rw [hnan]; decide)); rw [hsp]; have hh := hFqm1_F64; have hh0 := hFqm0_F64; rw [hmxl] at hh hh0; exact ⟨hmxl, ⟨⟨_, _, hmo, hFo_F64⟩, ⟨hm0, hh0⟩, ⟨hm1, hh⟩, ⟨hm2, hFqm2_F64⟩, ⟨hm3, hFqm3_F64⟩, ⟨hm4, hFqm4_F64⟩, ⟨hm5, hFqm5_F64⟩, ⟨hm6, hFqm6_F64⟩, ⟨hm7, hFqm7_F64⟩, ⟨hm8, hFqm8_F64⟩, ⟨hm9, hFqm9_F64⟩, ⟨hm10, hFqm10_F64⟩, ⟨hm11, hFqm11_F64⟩, ⟨hm12, hFqm12_F64⟩, ⟨hm13, hFqm13_F64⟩, ⟨hm14, hFqm14_F64⟩, ⟨hm15, hFqm15_F64⟩, hne⟩⟩), (by show va_P _ _ _ t.heap; rw [ht]; exact hP)⟩, hS.F ht⟩) hS.2.2 dX9_reckon_234
            · by_cases hnan0 : FP.Core.dIsNaN (rkD 0 (db (tn (Mm.1 j_x) (Mm.2 j_x) 3)) (db (tn (Mm.1 j_y) (Mm.2 j_y) 3))) = true
              · refine lv_iload hx hb dX9_reckon_122 (lv_at hl 2 rfl) ?_
                refine lv_iconst (v := 2) hx hb dX9_reckon_124 (by decide) ?_
                refine lv_icmp_ge (tgt := 162) hx hb dX9_reckon_125 (by decide) (fun c66 => ?_) (fun c66 => absurd (by rw [hmxl]; decide) c66)
                refine lv_iload hx hb dX9_reckon_162 (lv_at hl 2 rfl) ?_
                refine lv_iconst (v := 2) hx hb dX9_reckon_164 (by decide) ?_
                refine lv_icmp_ne (tgt := 186) hx hb dX9_reckon_165 (by decide) (fun c67 => ?_) (fun c67 => absurd c67 (by rw [hmxl]; decide))
                refine lv_aload_n hx hb dX9_reckon_186 rfl (lv_at hl 3 rfl) ?_
                refine lv_iload_n hx hb dX9_reckon_187 rfl (lv_at hl 4 rfl) ?_
                refine lv_lload hx hb dX9_reckon_188 (lv_at hl 1 rfl) ?_
                refine vp_callSd (W.runS (As := [.long r44]) (rest := [.int 0, .ref o]) ⟨hx, hb, hml, hown, hts⟩ (c9_doubleOf l r44 (by rw [hr44, ev42, ev43]; exact (by rw [hmxl]; exact tn3_ok (hVM j_x hj_x)))) (va_cwS 1 hts gX9_reckon_X9_doubleOf rfl rfl rfl (by decide +kernel) ⟨Nat.le_of_ble_eq_true rfl, Nat.le_of_ble_eq_true rfl⟩) (preS_of okT (trivial)) rfl rfl hl.1 rfl (lv_room (Nat.le_of_ble_eq_true rfl)) dX9_reckon_190 ⟨Nat.le_of_ble_eq_true rfl, Nat.le_of_ble_eq_true rfl⟩) (fun r68 hr68 => ?_)
                refine lv_lload hx hb dX9_reckon_193 (lv_at hl 0 rfl) ?_
                refine vp_callSd (W.runS (As := [.long r47]) (rest := [.double r68, .int 0, .ref o]) ⟨hx, hb, hml, hown, hts⟩ (c9_doubleOf l r47 (by rw [hr47, ev45, ev46]; exact (by rw [hmxl]; exact tn3_ok (hVM j_y hj_y)))) (va_cwS 1 hts gX9_reckon_X9_doubleOf rfl rfl rfl (by decide +kernel) ⟨Nat.le_of_ble_eq_true rfl, Nat.le_of_ble_eq_true rfl⟩) (preS_of okT (trivial)) rfl rfl hl.1 rfl (lv_room (Nat.le_of_ble_eq_true rfl)) dX9_reckon_195 ⟨Nat.le_of_ble_eq_true rfl, Nat.le_of_ble_eq_true rfl⟩) (fun r69 hr69 => ?_)
                refine va_callv (va_runV (As := [.int 0, .double r68, .double r69]) (rest := []) ⟨hx, hb, hml, hown, hts⟩ (c9_rD_0_no l G cy L F40 H.size o qm 0 Pp.1 0 oc hmo hFo_40 r68 r69 (by rw [hr68, hr44, ev42, ev43, hmxl]; exact tn3_ok (hVM j_x hj_x)) (by rw [hr69, hr47, ev45, ev46, hmxl]; exact tn3_ok (hVM j_y hj_y)) (by rw [hr68, hr44, ev42, ev43, hr69, hr47, ev45, ev46, hmxl]; exact hnan0)) (cwV 3 hts gX9_reckon_X9_reckonDoubles rfl rfl rfl (by decide +kernel) ⟨Nat.le_of_ble_eq_true rfl, Nat.le_of_ble_eq_true rfl⟩) (preV_of okQ (⟨rfl, hP, hK, hD.top⟩) (pl_recv hK hP (ci := 8) rfl hmo hFo_40)) rfl rfl hl.1 rfl (lv_room (Nat.le_of_ble_eq_true rfl)) dX9_reckon_198 ⟨Nat.le_of_ble_eq_true rfl, Nat.le_of_ble_eq_true rfl⟩) hS (fun q _ h => pl_free hD hS hA q h) (pl_free hD hS hA) (fun F70 t H1 locs ht hvm hw hP1 hz1 hk1 hS => ?_)
                have hP1 : va_P G vwCl (va_pl L F70) t.heap := hP1
                rw [ht] at hP1
                have hP := hP1
                generalize H1 = H at hP hS ⊢
                have eF70 : F70 = va_up F40 o (.inr (8, [.int 0, .ref (qm 0), .ref (qm 1), .ref (qm 2), .ref (qm 3), .ref (qm 4), .ref (qm 5), .ref (qm 6), .ref (qm 7), .int Pp.1, .ref (qm 8), .ref (qm 9), .ref (qm 10), .ref (qm 11), .ref (qm 12), .ref (qm 13), .ref (qm 14), .int 5, .ref (qm 15), .long oc])) := hw
                have hFo_70 : F70 o = .inr (8, [.int 0, .ref (qm 0), .ref (qm 1), .ref (qm 2), .ref (qm 3), .ref (qm 4), .ref (qm 5), .ref (qm 6), .ref (qm 7), .int Pp.1, .ref (qm 8), .ref (qm 9), .ref (qm 10), .ref (qm 11), .ref (qm 12), .ref (qm 13), .ref (qm 14), .int 5, .ref (qm 15), .long oc]) := by rw [eF70]; exact va_up_self _ _ _
                have hFqm0_70 : F70 (qm 0) = cI (cy 1) 10 Mm.1 := by rw [eF70, va_up_ne _ _ (pl_ne hFqm0_40 hFo_40 rfl)]; exact hFqm0_40
                have hFqm1_70 : F70 (qm 1) = cJ (cy 2) 10 Mm.2 := by rw [eF70, va_up_ne _ _ (pl_ne hFqm1_40 hFo_40 rfl)]; exact hFqm1_40
                have hFqm2_70 : F70 (qm 2) = cD (cy 0) 6 Dd.1 := by rw [eF70, va_up_ne _ _ (pl_ne hFqm2_40 hFo_40 rfl)]; exact hFqm2_40
                have hFqm3_70 : F70 (qm 3) = cD (cy 0) 6 Dd.2.1 := by rw [eF70, va_up_ne _ _ (pl_ne hFqm3_40 hFo_40 rfl)]; exact hFqm3_40
                have hFqm4_70 : F70 (qm 4) = cD (cy 0) 6 Dd.2.2.1 := by rw [eF70, va_up_ne _ _ (pl_ne hFqm4_40 hFo_40 rfl)]; exact hFqm4_40
                have hFqm5_70 : F70 (qm 5) = cJ (cy 2) 6 Dd.2.2.2 := by rw [eF70, va_up_ne _ _ (pl_ne hFqm5_40 hFo_40 rfl)]; exact hFqm5_40
                have hFqm6_70 : F70 (qm 6) = cI (cy 1) 8 Sl.1 := by rw [eF70, va_up_ne _ _ (pl_ne hFqm6_40 hFo_40 rfl)]; exact hFqm6_40
                have hFqm7_70 : F70 (qm 7) = cJ (cy 2) 128 Sl.2 := by rw [eF70, va_up_ne _ _ (pl_ne hFqm7_40 hFo_40 rfl)]; exact hFqm7_40
                have hFqm8_70 : F70 (qm 8) = cI (cy 1) 30 Pp.2.1 := by rw [eF70, va_up_ne _ _ (pl_ne hFqm8_40 hFo_40 rfl)]; exact hFqm8_40
                have hFqm9_70 : F70 (qm 9) = cI (cy 3) 30 Pp.2.2 := by rw [eF70, va_up_ne _ _ (pl_ne hFqm9_40 hFo_40 rfl)]; exact hFqm9_40
                have hFqm10_70 : F70 (qm 10) = cI (cy 1) 5 Kr.1 := by rw [eF70, va_up_ne _ _ (pl_ne hFqm10_40 hFo_40 rfl)]; exact hFqm10_40
                have hFqm11_70 : F70 (qm 11) = cI (cy 3) 5 Kr.2.1 := by rw [eF70, va_up_ne _ _ (pl_ne hFqm11_40 hFo_40 rfl)]; exact hFqm11_40
                have hFqm12_70 : F70 (qm 12) = cI (cy 1) 60 Kr.2.2 := by rw [eF70, va_up_ne _ _ (pl_ne hFqm12_40 hFo_40 rfl)]; exact hFqm12_40
                have hFqm13_70 : F70 (qm 13) = cI (cy 1) 4 Bk.1 := by rw [eF70, va_up_ne _ _ (pl_ne hFqm13_40 hFo_40 rfl)]; exact hFqm13_40
                have hFqm14_70 : F70 (qm 14) = cD (cy 0) 4 Bk.2 := by rw [eF70, va_up_ne _ _ (pl_ne hFqm14_40 hFo_40 rfl)]; exact hFqm14_40
                have hFqm15_70 : F70 (qm 15) = cI (cy 1) 6 Xx.2 := by rw [eF70, va_up_ne _ _ (pl_ne hFqm15_40 hFo_40 rfl)]; exact hFqm15_40
                refine lv_aload_n hx hb dX9_reckon_201 rfl (lv_at hl 3 rfl) ?_
                refine pg_get (ci := 8) (C := RX9) (T := TX9) (N := 20) hx hb hts hinX9 hown hK hP hmo hFo_70 rfl 17 (by decide) (hts (.fieldLink RX9 65 "RopeDrumsModel" "failed" "I") (by decide +kernel)) (fun _ h9 => h9) rfl dX9_reckon_202 ?_
                refine lv_if_ne (tgt := 228) hx hb dX9_reckon_205 (by decide) (fun c71 => ?_) (fun c71 => absurd c71 (by decide))
                refine lv_aload_n hx hb dX9_reckon_228 rfl (lv_at hl 3 rfl) ?_
                refine lv_iload hx hb dX9_reckon_229 (lv_at hl 2 rfl) ?_
                refine va_calli (va_runV (As := [.int (mx (Mm.1 j_x) (Mm.1 j_y))]) (rest := []) ⟨hx, hb, hml, hown, hts⟩ (c9_answers_5 l G cy L F70 H.size o qm 0 Pp.1 oc hmo hFo_70 Xx.2 hm15 hFqm15_70 (mx (Mm.1 j_x) (Mm.1 j_y))) (cwV 1 hts gX9_reckon_X9_answers rfl rfl rfl (by decide +kernel) ⟨Nat.le_of_ble_eq_true rfl, Nat.le_of_ble_eq_true rfl⟩) (preV_of okQ (⟨rfl, hP, hK, hD.top⟩) (pl_recv hK hP (ci := 8) rfl hmo hFo_70)) rfl rfl hl.1 rfl (lv_room (Nat.le_of_ble_eq_true rfl)) dX9_reckon_231 ⟨Nat.le_of_ble_eq_true rfl, Nat.le_of_ble_eq_true rfl⟩) hS (fun q _ h => pl_free hD hS hA q h) (pl_free hD hS hA) (fun r73 F72 t H1 locs ht hvm hw hP1 hz1 hk1 hS => ?_)
                have hP1 : va_P G vwCl (va_pl L F72) t.heap := hP1
                rw [ht] at hP1
                have hP := hP1
                generalize H1 = H at hP hS ⊢
                obtain ⟨hqr73, eF72⟩ := hw
                have eF72 : F72 = va_up F70 (qm 15) (cI (cy 1) 6 (upd Xx.2 5 (Xx.2 5 + 1))) := eF72
                have hFo_73 : F72 o = .inr (8, [.int 0, .ref (qm 0), .ref (qm 1), .ref (qm 2), .ref (qm 3), .ref (qm 4), .ref (qm 5), .ref (qm 6), .ref (qm 7), .int Pp.1, .ref (qm 8), .ref (qm 9), .ref (qm 10), .ref (qm 11), .ref (qm 12), .ref (qm 13), .ref (qm 14), .int 5, .ref (qm 15), .long oc]) := by rw [eF72, va_up_ne _ _ (pl_ne hFo_70 hFqm15_70 rfl)]; exact hFo_70
                have hFqm0_73 : F72 (qm 0) = cI (cy 1) 10 Mm.1 := by rw [eF72, va_up_ne _ _ (pl_ne hFqm0_70 hFqm15_70 rfl)]; exact hFqm0_70
                have hFqm1_73 : F72 (qm 1) = cJ (cy 2) 10 Mm.2 := by rw [eF72, va_up_ne _ _ (pl_ne hFqm1_70 hFqm15_70 rfl)]; exact hFqm1_70
                have hFqm2_73 : F72 (qm 2) = cD (cy 0) 6 Dd.1 := by rw [eF72, va_up_ne _ _ (pl_ne hFqm2_70 hFqm15_70 rfl)]; exact hFqm2_70
                have hFqm3_73 : F72 (qm 3) = cD (cy 0) 6 Dd.2.1 := by rw [eF72, va_up_ne _ _ (pl_ne hFqm3_70 hFqm15_70 rfl)]; exact hFqm3_70
                have hFqm4_73 : F72 (qm 4) = cD (cy 0) 6 Dd.2.2.1 := by rw [eF72, va_up_ne _ _ (pl_ne hFqm4_70 hFqm15_70 rfl)]; exact hFqm4_70
                have hFqm5_73 : F72 (qm 5) = cJ (cy 2) 6 Dd.2.2.2 := by rw [eF72, va_up_ne _ _ (pl_ne hFqm5_70 hFqm15_70 rfl)]; exact hFqm5_70
                have hFqm6_73 : F72 (qm 6) = cI (cy 1) 8 Sl.1 := by rw [eF72, va_up_ne _ _ (pl_ne hFqm6_70 hFqm15_70 rfl)]; exact hFqm6_70
                have hFqm7_73 : F72 (qm 7) = cJ (cy 2) 128 Sl.2 := by rw [eF72, va_up_ne _ _ (pl_ne hFqm7_70 hFqm15_70 rfl)]; exact hFqm7_70
                have hFqm8_73 : F72 (qm 8) = cI (cy 1) 30 Pp.2.1 := by rw [eF72, va_up_ne _ _ (pl_ne hFqm8_70 hFqm15_70 rfl)]; exact hFqm8_70
                have hFqm9_73 : F72 (qm 9) = cI (cy 3) 30 Pp.2.2 := by rw [eF72, va_up_ne _ _ (pl_ne hFqm9_70 hFqm15_70 rfl)]; exact hFqm9_70
                have hFqm10_73 : F72 (qm 10) = cI (cy 1) 5 Kr.1 := by rw [eF72, va_up_ne _ _ (pl_ne hFqm10_70 hFqm15_70 rfl)]; exact hFqm10_70
                have hFqm11_73 : F72 (qm 11) = cI (cy 3) 5 Kr.2.1 := by rw [eF72, va_up_ne _ _ (pl_ne hFqm11_70 hFqm15_70 rfl)]; exact hFqm11_70
                have hFqm12_73 : F72 (qm 12) = cI (cy 1) 60 Kr.2.2 := by rw [eF72, va_up_ne _ _ (pl_ne hFqm12_70 hFqm15_70 rfl)]; exact hFqm12_70
                have hFqm13_73 : F72 (qm 13) = cI (cy 1) 4 Bk.1 := by rw [eF72, va_up_ne _ _ (pl_ne hFqm13_70 hFqm15_70 rfl)]; exact hFqm13_70
                have hFqm14_73 : F72 (qm 14) = cD (cy 0) 4 Bk.2 := by rw [eF72, va_up_ne _ _ (pl_ne hFqm14_70 hFqm15_70 rfl)]; exact hFqm14_70
                have hFqm15_73 : F72 (qm 15) = cI (cy 1) 6 (upd Xx.2 5 (Xx.2 5 + 1)) := by rw [eF72]; exact va_up_self _ _ _
                have hr73 := hqr73
                exact W.iret (v := r73) hx hb hr (fun t ht hW => ⟨⟨r73, F72, rfl, (by subst hr73 hr69 hr68 hr47 ev46 ev45 hr44 ev43 ev42 ev37; have hsp : sp_reckon Mm Xx 0 (nI j_x) (nI j_y) (nI j_into) = (-15, Mm, failX Xx 5) := (by unfold sp_reckon; rw [hi_x, hi_y, hi_into, ixk.1]; show rk Mm Xx 0 j_x j_y j_into = _; unfold rk; rw [if_neg (hmx.2 h1l).2, if_neg (by rw [hmxl]; decide)]; exact if_pos hnan0); rw [hsp]; exact ⟨rfl, (by exact ⟨⟨_, _, hmo, hFo_73⟩, ⟨hm0, hFqm0_73⟩, ⟨hm1, hFqm1_73⟩, ⟨hm2, hFqm2_73⟩, ⟨hm3, hFqm3_73⟩, ⟨hm4, hFqm4_73⟩, ⟨hm5, hFqm5_73⟩, ⟨hm6, hFqm6_73⟩, ⟨hm7, hFqm7_73⟩, ⟨hm8, hFqm8_73⟩, ⟨hm9, hFqm9_73⟩, ⟨hm10, hFqm10_73⟩, ⟨hm11, hFqm11_73⟩, ⟨hm12, hFqm12_73⟩, ⟨hm13, hFqm13_73⟩, ⟨hm14, hFqm14_73⟩, ⟨hm15, hFqm15_73⟩, hne⟩)⟩), (by show va_P _ _ _ t.heap; rw [ht]; exact hP)⟩, hS.F ht⟩) hS.2.2 dX9_reckon_234
              · have hnan : FP.Core.dIsNaN (rkD 0 (db (tn (Mm.1 j_x) (Mm.2 j_x) 3)) (db (tn (Mm.1 j_y) (Mm.2 j_y) 3))) = false := Bool.eq_false_iff.mpr hnan0
                refine lv_iload hx hb dX9_reckon_122 (lv_at hl 2 rfl) ?_
                refine lv_iconst (v := 2) hx hb dX9_reckon_124 (by decide) ?_
                refine lv_icmp_ge (tgt := 162) hx hb dX9_reckon_125 (by decide) (fun c74 => ?_) (fun c74 => absurd (by rw [hmxl]; decide) c74)
                refine lv_iload hx hb dX9_reckon_162 (lv_at hl 2 rfl) ?_
                refine lv_iconst (v := 2) hx hb dX9_reckon_164 (by decide) ?_
                refine lv_icmp_ne (tgt := 186) hx hb dX9_reckon_165 (by decide) (fun c75 => ?_) (fun c75 => absurd c75 (by rw [hmxl]; decide))
                refine lv_aload_n hx hb dX9_reckon_186 rfl (lv_at hl 3 rfl) ?_
                refine lv_iload_n hx hb dX9_reckon_187 rfl (lv_at hl 4 rfl) ?_
                refine lv_lload hx hb dX9_reckon_188 (lv_at hl 1 rfl) ?_
                refine vp_callSd (W.runS (As := [.long r44]) (rest := [.int 0, .ref o]) ⟨hx, hb, hml, hown, hts⟩ (c9_doubleOf l r44 (by rw [hr44, ev42, ev43]; exact (by rw [hmxl]; exact tn3_ok (hVM j_x hj_x)))) (va_cwS 1 hts gX9_reckon_X9_doubleOf rfl rfl rfl (by decide +kernel) ⟨Nat.le_of_ble_eq_true rfl, Nat.le_of_ble_eq_true rfl⟩) (preS_of okT (trivial)) rfl rfl hl.1 rfl (lv_room (Nat.le_of_ble_eq_true rfl)) dX9_reckon_190 ⟨Nat.le_of_ble_eq_true rfl, Nat.le_of_ble_eq_true rfl⟩) (fun r76 hr76 => ?_)
                refine lv_lload hx hb dX9_reckon_193 (lv_at hl 0 rfl) ?_
                refine vp_callSd (W.runS (As := [.long r47]) (rest := [.double r76, .int 0, .ref o]) ⟨hx, hb, hml, hown, hts⟩ (c9_doubleOf l r47 (by rw [hr47, ev45, ev46]; exact (by rw [hmxl]; exact tn3_ok (hVM j_y hj_y)))) (va_cwS 1 hts gX9_reckon_X9_doubleOf rfl rfl rfl (by decide +kernel) ⟨Nat.le_of_ble_eq_true rfl, Nat.le_of_ble_eq_true rfl⟩) (preS_of okT (trivial)) rfl rfl hl.1 rfl (lv_room (Nat.le_of_ble_eq_true rfl)) dX9_reckon_195 ⟨Nat.le_of_ble_eq_true rfl, Nat.le_of_ble_eq_true rfl⟩) (fun r77 hr77 => ?_)
                refine va_callv (va_runV (As := [.int 0, .double r76, .double r77]) (rest := []) ⟨hx, hb, hml, hown, hts⟩ (c9_rD_0 l G cy L F40 H.size o qm 0 Pp.1 0 oc hmo hFo_40 r76 r77 (by rw [hr76, hr44, ev42, ev43, hmxl]; exact tn3_ok (hVM j_x hj_x)) (by rw [hr77, hr47, ev45, ev46, hmxl]; exact tn3_ok (hVM j_y hj_y)) (by rw [hr76, hr44, ev42, ev43, hr77, hr47, ev45, ev46, hmxl]; exact hnan)) (cwV 3 hts gX9_reckon_X9_reckonDoubles rfl rfl rfl (by decide +kernel) ⟨Nat.le_of_ble_eq_true rfl, Nat.le_of_ble_eq_true rfl⟩) (preV_of okQ (⟨rfl, hP, hK, hD.top⟩) (pl_recv hK hP (ci := 8) rfl hmo hFo_40)) rfl rfl hl.1 rfl (lv_room (Nat.le_of_ble_eq_true rfl)) dX9_reckon_198 ⟨Nat.le_of_ble_eq_true rfl, Nat.le_of_ble_eq_true rfl⟩) hS (fun q _ h => pl_free hD hS hA q h) (pl_free hD hS hA) (fun F78 t H1 locs ht hvm hw hP1 hz1 hk1 hS => ?_)
                have hP1 : va_P G vwCl (va_pl L F78) t.heap := hP1
                rw [ht] at hP1
                have hP := hP1
                generalize H1 = H at hP hS ⊢
                have eF78 : F78 = va_up F40 o (.inr (8, [.int 0, .ref (qm 0), .ref (qm 1), .ref (qm 2), .ref (qm 3), .ref (qm 4), .ref (qm 5), .ref (qm 6), .ref (qm 7), .int Pp.1, .ref (qm 8), .ref (qm 9), .ref (qm 10), .ref (qm 11), .ref (qm 12), .ref (qm 13), .ref (qm 14), .int 0, .ref (qm 15), .long ((FP.dadd r76 r77).toInt64)])) := hw
                have hFo_78 : F78 o = .inr (8, [.int 0, .ref (qm 0), .ref (qm 1), .ref (qm 2), .ref (qm 3), .ref (qm 4), .ref (qm 5), .ref (qm 6), .ref (qm 7), .int Pp.1, .ref (qm 8), .ref (qm 9), .ref (qm 10), .ref (qm 11), .ref (qm 12), .ref (qm 13), .ref (qm 14), .int 0, .ref (qm 15), .long ((FP.dadd r76 r77).toInt64)]) := by rw [eF78]; exact va_up_self _ _ _
                have hFqm0_78 : F78 (qm 0) = cI (cy 1) 10 Mm.1 := by rw [eF78, va_up_ne _ _ (pl_ne hFqm0_40 hFo_40 rfl)]; exact hFqm0_40
                have hFqm1_78 : F78 (qm 1) = cJ (cy 2) 10 Mm.2 := by rw [eF78, va_up_ne _ _ (pl_ne hFqm1_40 hFo_40 rfl)]; exact hFqm1_40
                have hFqm2_78 : F78 (qm 2) = cD (cy 0) 6 Dd.1 := by rw [eF78, va_up_ne _ _ (pl_ne hFqm2_40 hFo_40 rfl)]; exact hFqm2_40
                have hFqm3_78 : F78 (qm 3) = cD (cy 0) 6 Dd.2.1 := by rw [eF78, va_up_ne _ _ (pl_ne hFqm3_40 hFo_40 rfl)]; exact hFqm3_40
                have hFqm4_78 : F78 (qm 4) = cD (cy 0) 6 Dd.2.2.1 := by rw [eF78, va_up_ne _ _ (pl_ne hFqm4_40 hFo_40 rfl)]; exact hFqm4_40
                have hFqm5_78 : F78 (qm 5) = cJ (cy 2) 6 Dd.2.2.2 := by rw [eF78, va_up_ne _ _ (pl_ne hFqm5_40 hFo_40 rfl)]; exact hFqm5_40
                have hFqm6_78 : F78 (qm 6) = cI (cy 1) 8 Sl.1 := by rw [eF78, va_up_ne _ _ (pl_ne hFqm6_40 hFo_40 rfl)]; exact hFqm6_40
                have hFqm7_78 : F78 (qm 7) = cJ (cy 2) 128 Sl.2 := by rw [eF78, va_up_ne _ _ (pl_ne hFqm7_40 hFo_40 rfl)]; exact hFqm7_40
                have hFqm8_78 : F78 (qm 8) = cI (cy 1) 30 Pp.2.1 := by rw [eF78, va_up_ne _ _ (pl_ne hFqm8_40 hFo_40 rfl)]; exact hFqm8_40
                have hFqm9_78 : F78 (qm 9) = cI (cy 3) 30 Pp.2.2 := by rw [eF78, va_up_ne _ _ (pl_ne hFqm9_40 hFo_40 rfl)]; exact hFqm9_40
                have hFqm10_78 : F78 (qm 10) = cI (cy 1) 5 Kr.1 := by rw [eF78, va_up_ne _ _ (pl_ne hFqm10_40 hFo_40 rfl)]; exact hFqm10_40
                have hFqm11_78 : F78 (qm 11) = cI (cy 3) 5 Kr.2.1 := by rw [eF78, va_up_ne _ _ (pl_ne hFqm11_40 hFo_40 rfl)]; exact hFqm11_40
                have hFqm12_78 : F78 (qm 12) = cI (cy 1) 60 Kr.2.2 := by rw [eF78, va_up_ne _ _ (pl_ne hFqm12_40 hFo_40 rfl)]; exact hFqm12_40
                have hFqm13_78 : F78 (qm 13) = cI (cy 1) 4 Bk.1 := by rw [eF78, va_up_ne _ _ (pl_ne hFqm13_40 hFo_40 rfl)]; exact hFqm13_40
                have hFqm14_78 : F78 (qm 14) = cD (cy 0) 4 Bk.2 := by rw [eF78, va_up_ne _ _ (pl_ne hFqm14_40 hFo_40 rfl)]; exact hFqm14_40
                have hFqm15_78 : F78 (qm 15) = cI (cy 1) 6 Xx.2 := by rw [eF78, va_up_ne _ _ (pl_ne hFqm15_40 hFo_40 rfl)]; exact hFqm15_40
                refine lv_aload_n hx hb dX9_reckon_201 rfl (lv_at hl 3 rfl) ?_
                refine pg_get (ci := 8) (C := RX9) (T := TX9) (N := 20) hx hb hts hinX9 hown hK hP hmo hFo_78 rfl 17 (by decide) (hts (.fieldLink RX9 65 "RopeDrumsModel" "failed" "I") (by decide +kernel)) (fun _ h9 => h9) rfl dX9_reckon_202 ?_
                refine lv_if_ne (tgt := 228) hx hb dX9_reckon_205 (by decide) (fun c79 => absurd (by decide) c79) (fun c79 => ?_)
                refine lv_aload_n hx hb dX9_reckon_208 rfl (lv_at hl 3 rfl) ?_
                refine pg_get (ci := 8) (C := RX9) (T := TX9) (N := 20) hx hb hts hinX9 hown hK hP hmo hFo_78 rfl 1 (by decide) (hts (.fieldLink RX9 7 "RopeDrumsModel" "laneOf" "[I") (by decide +kernel)) (fun _ h9 => h9) rfl dX9_reckon_209 ?_
                refine lv_iload hx hb dX9_reckon_212 (lv_at hl 7 rfl) ?_
                refine lv_iload hx hb dX9_reckon_214 (lv_at hl 2 rfl) ?_
                refine pg_iast hx hb hK hP hD hS 1 hm0 hFqm0_78 rfl (vp_in_nI (by omega) (by decide)) dX9_reckon_216 (fun H locs F80 eF80 hP hS => ?_)
                rw [nI_clamp (by omega)] at eF80
                have hFo_80 : F80 o = .inr (8, [.int 0, .ref (qm 0), .ref (qm 1), .ref (qm 2), .ref (qm 3), .ref (qm 4), .ref (qm 5), .ref (qm 6), .ref (qm 7), .int Pp.1, .ref (qm 8), .ref (qm 9), .ref (qm 10), .ref (qm 11), .ref (qm 12), .ref (qm 13), .ref (qm 14), .int 0, .ref (qm 15), .long ((FP.dadd r76 r77).toInt64)]) := by rw [eF80, va_up_ne _ _ (pl_ne hFo_78 hFqm0_78 rfl)]; exact hFo_78
                have hFqm0_80 : F80 (qm 0) = cI (cy 1) 10 (upd Mm.1 j_into (mx (Mm.1 j_x) (Mm.1 j_y))) := by rw [eF80]; exact va_up_self _ _ _
                have hFqm1_80 : F80 (qm 1) = cJ (cy 2) 10 Mm.2 := by rw [eF80, va_up_ne _ _ (pl_ne hFqm1_78 hFqm0_78 rfl)]; exact hFqm1_78
                have hFqm2_80 : F80 (qm 2) = cD (cy 0) 6 Dd.1 := by rw [eF80, va_up_ne _ _ (pl_ne hFqm2_78 hFqm0_78 rfl)]; exact hFqm2_78
                have hFqm3_80 : F80 (qm 3) = cD (cy 0) 6 Dd.2.1 := by rw [eF80, va_up_ne _ _ (pl_ne hFqm3_78 hFqm0_78 rfl)]; exact hFqm3_78
                have hFqm4_80 : F80 (qm 4) = cD (cy 0) 6 Dd.2.2.1 := by rw [eF80, va_up_ne _ _ (pl_ne hFqm4_78 hFqm0_78 rfl)]; exact hFqm4_78
                have hFqm5_80 : F80 (qm 5) = cJ (cy 2) 6 Dd.2.2.2 := by rw [eF80, va_up_ne _ _ (pl_ne hFqm5_78 hFqm0_78 rfl)]; exact hFqm5_78
                have hFqm6_80 : F80 (qm 6) = cI (cy 1) 8 Sl.1 := by rw [eF80, va_up_ne _ _ (pl_ne hFqm6_78 hFqm0_78 rfl)]; exact hFqm6_78
                have hFqm7_80 : F80 (qm 7) = cJ (cy 2) 128 Sl.2 := by rw [eF80, va_up_ne _ _ (pl_ne hFqm7_78 hFqm0_78 rfl)]; exact hFqm7_78
                have hFqm8_80 : F80 (qm 8) = cI (cy 1) 30 Pp.2.1 := by rw [eF80, va_up_ne _ _ (pl_ne hFqm8_78 hFqm0_78 rfl)]; exact hFqm8_78
                have hFqm9_80 : F80 (qm 9) = cI (cy 3) 30 Pp.2.2 := by rw [eF80, va_up_ne _ _ (pl_ne hFqm9_78 hFqm0_78 rfl)]; exact hFqm9_78
                have hFqm10_80 : F80 (qm 10) = cI (cy 1) 5 Kr.1 := by rw [eF80, va_up_ne _ _ (pl_ne hFqm10_78 hFqm0_78 rfl)]; exact hFqm10_78
                have hFqm11_80 : F80 (qm 11) = cI (cy 3) 5 Kr.2.1 := by rw [eF80, va_up_ne _ _ (pl_ne hFqm11_78 hFqm0_78 rfl)]; exact hFqm11_78
                have hFqm12_80 : F80 (qm 12) = cI (cy 1) 60 Kr.2.2 := by rw [eF80, va_up_ne _ _ (pl_ne hFqm12_78 hFqm0_78 rfl)]; exact hFqm12_78
                have hFqm13_80 : F80 (qm 13) = cI (cy 1) 4 Bk.1 := by rw [eF80, va_up_ne _ _ (pl_ne hFqm13_78 hFqm0_78 rfl)]; exact hFqm13_78
                have hFqm14_80 : F80 (qm 14) = cD (cy 0) 4 Bk.2 := by rw [eF80, va_up_ne _ _ (pl_ne hFqm14_78 hFqm0_78 rfl)]; exact hFqm14_78
                have hFqm15_80 : F80 (qm 15) = cI (cy 1) 6 Xx.2 := by rw [eF80, va_up_ne _ _ (pl_ne hFqm15_78 hFqm0_78 rfl)]; exact hFqm15_78
                refine lv_aload_n hx hb dX9_reckon_217 rfl (lv_at hl 3 rfl) ?_
                refine pg_get (ci := 8) (C := RX9) (T := TX9) (N := 20) hx hb hts hinX9 hown hK hP hmo hFo_80 rfl 2 (by decide) (hts (.fieldLink RX9 13 "RopeDrumsModel" "held" "[J") (by decide +kernel)) (fun _ h9 => h9) rfl dX9_reckon_218 ?_
                refine lv_iload hx hb dX9_reckon_221 (lv_at hl 7 rfl) ?_
                refine lv_aload_n hx hb dX9_reckon_223 rfl (lv_at hl 3 rfl) ?_
                refine pg_get (ci := 8) (C := RX9) (T := TX9) (N := 20) hx hb hts hinX9 hown hK hP hmo hFo_80 rfl 19 (by decide) (hts (.fieldLink RX9 131 "RopeDrumsModel" "outcome" "J") (by decide +kernel)) (fun _ h9 => h9) rfl dX9_reckon_224 ?_
                refine pg_last hx hb hK hP hD hS 2 hm1 hFqm1_80 rfl (vp_in_nI (by omega) (by decide)) dX9_reckon_227 (fun H locs F81 eF81 hP hS => ?_)
                rw [nI_clamp (by omega)] at eF81
                have hFo_81 : F81 o = .inr (8, [.int 0, .ref (qm 0), .ref (qm 1), .ref (qm 2), .ref (qm 3), .ref (qm 4), .ref (qm 5), .ref (qm 6), .ref (qm 7), .int Pp.1, .ref (qm 8), .ref (qm 9), .ref (qm 10), .ref (qm 11), .ref (qm 12), .ref (qm 13), .ref (qm 14), .int 0, .ref (qm 15), .long ((FP.dadd r76 r77).toInt64)]) := by rw [eF81, va_up_ne _ _ (pl_ne hFo_80 hFqm1_80 rfl)]; exact hFo_80
                have hFqm0_81 : F81 (qm 0) = cI (cy 1) 10 (upd Mm.1 j_into (mx (Mm.1 j_x) (Mm.1 j_y))) := by rw [eF81, va_up_ne _ _ (pl_ne hFqm0_80 hFqm1_80 rfl)]; exact hFqm0_80
                have hFqm1_81 : F81 (qm 1) = cJ (cy 2) 10 (vp_updL Mm.2 j_into ((FP.dadd r76 r77).toInt64)) := by rw [eF81]; exact va_up_self _ _ _
                have hFqm2_81 : F81 (qm 2) = cD (cy 0) 6 Dd.1 := by rw [eF81, va_up_ne _ _ (pl_ne hFqm2_80 hFqm1_80 rfl)]; exact hFqm2_80
                have hFqm3_81 : F81 (qm 3) = cD (cy 0) 6 Dd.2.1 := by rw [eF81, va_up_ne _ _ (pl_ne hFqm3_80 hFqm1_80 rfl)]; exact hFqm3_80
                have hFqm4_81 : F81 (qm 4) = cD (cy 0) 6 Dd.2.2.1 := by rw [eF81, va_up_ne _ _ (pl_ne hFqm4_80 hFqm1_80 rfl)]; exact hFqm4_80
                have hFqm5_81 : F81 (qm 5) = cJ (cy 2) 6 Dd.2.2.2 := by rw [eF81, va_up_ne _ _ (pl_ne hFqm5_80 hFqm1_80 rfl)]; exact hFqm5_80
                have hFqm6_81 : F81 (qm 6) = cI (cy 1) 8 Sl.1 := by rw [eF81, va_up_ne _ _ (pl_ne hFqm6_80 hFqm1_80 rfl)]; exact hFqm6_80
                have hFqm7_81 : F81 (qm 7) = cJ (cy 2) 128 Sl.2 := by rw [eF81, va_up_ne _ _ (pl_ne hFqm7_80 hFqm1_80 rfl)]; exact hFqm7_80
                have hFqm8_81 : F81 (qm 8) = cI (cy 1) 30 Pp.2.1 := by rw [eF81, va_up_ne _ _ (pl_ne hFqm8_80 hFqm1_80 rfl)]; exact hFqm8_80
                have hFqm9_81 : F81 (qm 9) = cI (cy 3) 30 Pp.2.2 := by rw [eF81, va_up_ne _ _ (pl_ne hFqm9_80 hFqm1_80 rfl)]; exact hFqm9_80
                have hFqm10_81 : F81 (qm 10) = cI (cy 1) 5 Kr.1 := by rw [eF81, va_up_ne _ _ (pl_ne hFqm10_80 hFqm1_80 rfl)]; exact hFqm10_80
                have hFqm11_81 : F81 (qm 11) = cI (cy 3) 5 Kr.2.1 := by rw [eF81, va_up_ne _ _ (pl_ne hFqm11_80 hFqm1_80 rfl)]; exact hFqm11_80
                have hFqm12_81 : F81 (qm 12) = cI (cy 1) 60 Kr.2.2 := by rw [eF81, va_up_ne _ _ (pl_ne hFqm12_80 hFqm1_80 rfl)]; exact hFqm12_80
                have hFqm13_81 : F81 (qm 13) = cI (cy 1) 4 Bk.1 := by rw [eF81, va_up_ne _ _ (pl_ne hFqm13_80 hFqm1_80 rfl)]; exact hFqm13_80
                have hFqm14_81 : F81 (qm 14) = cD (cy 0) 4 Bk.2 := by rw [eF81, va_up_ne _ _ (pl_ne hFqm14_80 hFqm1_80 rfl)]; exact hFqm14_80
                have hFqm15_81 : F81 (qm 15) = cI (cy 1) 6 Xx.2 := by rw [eF81, va_up_ne _ _ (pl_ne hFqm15_80 hFqm1_80 rfl)]; exact hFqm15_80
                refine lv_aload_n hx hb dX9_reckon_228 rfl (lv_at hl 3 rfl) ?_
                refine lv_iload hx hb dX9_reckon_229 (lv_at hl 2 rfl) ?_
                refine va_calli (va_runV (As := [.int (mx (Mm.1 j_x) (Mm.1 j_y))]) (rest := []) ⟨hx, hb, hml, hown, hts⟩ (c9_answers_0 l G cy L F81 H.size o qm 0 Pp.1 ((FP.dadd r76 r77).toInt64) hmo hFo_81 Xx.2 hm15 hFqm15_81 (mx (Mm.1 j_x) (Mm.1 j_y))) (cwV 1 hts gX9_reckon_X9_answers rfl rfl rfl (by decide +kernel) ⟨Nat.le_of_ble_eq_true rfl, Nat.le_of_ble_eq_true rfl⟩) (preV_of okQ (⟨rfl, hP, hK, hD.top⟩) (pl_recv hK hP (ci := 8) rfl hmo hFo_81)) rfl rfl hl.1 rfl (lv_room (Nat.le_of_ble_eq_true rfl)) dX9_reckon_231 ⟨Nat.le_of_ble_eq_true rfl, Nat.le_of_ble_eq_true rfl⟩) hS (fun q _ h => pl_free hD hS hA q h) (pl_free hD hS hA) (fun r83 F82 t H1 locs ht hvm hw hP1 hz1 hk1 hS => ?_)
                have hP1 : va_P G vwCl (va_pl L F82) t.heap := hP1
                rw [ht] at hP1
                have hP := hP1
                generalize H1 = H at hP hS ⊢
                obtain ⟨hqr83, eF82⟩ := hw
                have hFo_F82 : F82 o = .inr (8, [.int 0, .ref (qm 0), .ref (qm 1), .ref (qm 2), .ref (qm 3), .ref (qm 4), .ref (qm 5), .ref (qm 6), .ref (qm 7), .int Pp.1, .ref (qm 8), .ref (qm 9), .ref (qm 10), .ref (qm 11), .ref (qm 12), .ref (qm 13), .ref (qm 14), .int 0, .ref (qm 15), .long ((FP.dadd r76 r77).toInt64)]) := by rw [eF82]; exact hFo_81
                have hFqm0_F82 : F82 (qm 0) = cI (cy 1) 10 (upd Mm.1 j_into (mx (Mm.1 j_x) (Mm.1 j_y))) := by rw [eF82]; exact hFqm0_81
                have hFqm1_F82 : F82 (qm 1) = cJ (cy 2) 10 (vp_updL Mm.2 j_into ((FP.dadd r76 r77).toInt64)) := by rw [eF82]; exact hFqm1_81
                have hFqm2_F82 : F82 (qm 2) = cD (cy 0) 6 Dd.1 := by rw [eF82]; exact hFqm2_81
                have hFqm3_F82 : F82 (qm 3) = cD (cy 0) 6 Dd.2.1 := by rw [eF82]; exact hFqm3_81
                have hFqm4_F82 : F82 (qm 4) = cD (cy 0) 6 Dd.2.2.1 := by rw [eF82]; exact hFqm4_81
                have hFqm5_F82 : F82 (qm 5) = cJ (cy 2) 6 Dd.2.2.2 := by rw [eF82]; exact hFqm5_81
                have hFqm6_F82 : F82 (qm 6) = cI (cy 1) 8 Sl.1 := by rw [eF82]; exact hFqm6_81
                have hFqm7_F82 : F82 (qm 7) = cJ (cy 2) 128 Sl.2 := by rw [eF82]; exact hFqm7_81
                have hFqm8_F82 : F82 (qm 8) = cI (cy 1) 30 Pp.2.1 := by rw [eF82]; exact hFqm8_81
                have hFqm9_F82 : F82 (qm 9) = cI (cy 3) 30 Pp.2.2 := by rw [eF82]; exact hFqm9_81
                have hFqm10_F82 : F82 (qm 10) = cI (cy 1) 5 Kr.1 := by rw [eF82]; exact hFqm10_81
                have hFqm11_F82 : F82 (qm 11) = cI (cy 3) 5 Kr.2.1 := by rw [eF82]; exact hFqm11_81
                have hFqm12_F82 : F82 (qm 12) = cI (cy 1) 60 Kr.2.2 := by rw [eF82]; exact hFqm12_81
                have hFqm13_F82 : F82 (qm 13) = cI (cy 1) 4 Bk.1 := by rw [eF82]; exact hFqm13_81
                have hFqm14_F82 : F82 (qm 14) = cD (cy 0) 4 Bk.2 := by rw [eF82]; exact hFqm14_81
                have hFqm15_F82 : F82 (qm 15) = cI (cy 1) 6 Xx.2 := by rw [eF82]; exact hFqm15_81
                have hr83 := hqr83
                exact W.iret (v := r83) hx hb hr (fun t ht hW => ⟨⟨r83, F82, rfl, (by subst hr83 hr77 hr76 hr47 ev46 ev45 hr44 ev43 ev42 ev37; have hsp : sp_reckon Mm Xx 0 (nI j_x) (nI j_y) (nI j_into) = (3, setM Mm j_into 3 (rkD 0 (db (tn (Mm.1 j_x) (Mm.2 j_x) 3)) (db (tn (Mm.1 j_y) (Mm.2 j_y) 3))).toInt64, goodX Xx) := (by unfold sp_reckon; rw [hi_x, hi_y, hi_into, ixk.1]; show rk Mm Xx 0 j_x j_y j_into = _; unfold rk; rw [if_neg (hmx.2 h1l).2, if_neg (by rw [hmxl]; decide)]; exact if_neg (by rw [hnan]; decide)); rw [hsp]; have hh := hFqm1_F82; have hh0 := hFqm0_F82; rw [hmxl] at hh hh0; exact ⟨hmxl, ⟨⟨_, _, hmo, hFo_F82⟩, ⟨hm0, hh0⟩, ⟨hm1, hh⟩, ⟨hm2, hFqm2_F82⟩, ⟨hm3, hFqm3_F82⟩, ⟨hm4, hFqm4_F82⟩, ⟨hm5, hFqm5_F82⟩, ⟨hm6, hFqm6_F82⟩, ⟨hm7, hFqm7_F82⟩, ⟨hm8, hFqm8_F82⟩, ⟨hm9, hFqm9_F82⟩, ⟨hm10, hFqm10_F82⟩, ⟨hm11, hFqm11_F82⟩, ⟨hm12, hFqm12_F82⟩, ⟨hm13, hFqm13_F82⟩, ⟨hm14, hFqm14_F82⟩, ⟨hm15, hFqm15_F82⟩, hne⟩⟩), (by show va_P _ _ _ t.heap; rw [ht]; exact hP)⟩, hS.F ht⟩) hS.2.2 dX9_reckon_234
          · refine lv_iload hx hb dX9_reckon_122 (lv_at hl 2 rfl) ?_
            refine lv_iconst (v := 2) hx hb dX9_reckon_124 (by decide) ?_
            refine lv_icmp_ge (tgt := 162) hx hb dX9_reckon_125 (by decide) (fun c84 => absurd c84 (Int32.not_le.mpr (hmx.1 h1l).2.1)) (fun c84 => ?_)
            refine lv_aload_n hx hb dX9_reckon_128 rfl (lv_at hl 3 rfl) ?_
            refine lv_iload_n hx hb dX9_reckon_129 rfl (lv_at hl 4 rfl) ?_
            refine lv_lload hx hb dX9_reckon_130 (lv_at hl 1 rfl) ?_
            refine lv_lload hx hb dX9_reckon_132 (lv_at hl 0 rfl) ?_
            refine va_callv (va_runV (As := [.int 0, .long r44, .long r47]) (rest := []) ⟨hx, hb, hml, hown, hts⟩ (c9_rL_0 l G cy L F40 H.size o qm 0 Pp.1 0 oc hmo hFo_40 r44 r47 ) (cwV 3 hts gX9_reckon_X9_reckonLongs rfl rfl rfl (by decide +kernel) ⟨Nat.le_of_ble_eq_true rfl, Nat.le_of_ble_eq_true rfl⟩) (preV_of okQ (⟨rfl, hP, hK, hD.top⟩) (pl_recv hK hP (ci := 8) rfl hmo hFo_40)) rfl rfl hl.1 rfl (lv_room (Nat.le_of_ble_eq_true rfl)) dX9_reckon_134 ⟨Nat.le_of_ble_eq_true rfl, Nat.le_of_ble_eq_true rfl⟩) hS (fun q _ h => pl_free hD hS hA q h) (pl_free hD hS hA) (fun F85 t H1 locs ht hvm hw hP1 hz1 hk1 hS => ?_)
            have hP1 : va_P G vwCl (va_pl L F85) t.heap := hP1
            rw [ht] at hP1
            have hP := hP1
            generalize H1 = H at hP hS ⊢
            have eF85 : F85 = va_up F40 o (.inr (8, [.int 0, .ref (qm 0), .ref (qm 1), .ref (qm 2), .ref (qm 3), .ref (qm 4), .ref (qm 5), .ref (qm 6), .ref (qm 7), .int Pp.1, .ref (qm 8), .ref (qm 9), .ref (qm 10), .ref (qm 11), .ref (qm 12), .ref (qm 13), .ref (qm 14), .int 0, .ref (qm 15), .long (rkL 0 r44 r47)])) := hw
            have hFo_85 : F85 o = .inr (8, [.int 0, .ref (qm 0), .ref (qm 1), .ref (qm 2), .ref (qm 3), .ref (qm 4), .ref (qm 5), .ref (qm 6), .ref (qm 7), .int Pp.1, .ref (qm 8), .ref (qm 9), .ref (qm 10), .ref (qm 11), .ref (qm 12), .ref (qm 13), .ref (qm 14), .int 0, .ref (qm 15), .long (rkL 0 r44 r47)]) := by rw [eF85]; exact va_up_self _ _ _
            have hFqm0_85 : F85 (qm 0) = cI (cy 1) 10 Mm.1 := by rw [eF85, va_up_ne _ _ (pl_ne hFqm0_40 hFo_40 rfl)]; exact hFqm0_40
            have hFqm1_85 : F85 (qm 1) = cJ (cy 2) 10 Mm.2 := by rw [eF85, va_up_ne _ _ (pl_ne hFqm1_40 hFo_40 rfl)]; exact hFqm1_40
            have hFqm2_85 : F85 (qm 2) = cD (cy 0) 6 Dd.1 := by rw [eF85, va_up_ne _ _ (pl_ne hFqm2_40 hFo_40 rfl)]; exact hFqm2_40
            have hFqm3_85 : F85 (qm 3) = cD (cy 0) 6 Dd.2.1 := by rw [eF85, va_up_ne _ _ (pl_ne hFqm3_40 hFo_40 rfl)]; exact hFqm3_40
            have hFqm4_85 : F85 (qm 4) = cD (cy 0) 6 Dd.2.2.1 := by rw [eF85, va_up_ne _ _ (pl_ne hFqm4_40 hFo_40 rfl)]; exact hFqm4_40
            have hFqm5_85 : F85 (qm 5) = cJ (cy 2) 6 Dd.2.2.2 := by rw [eF85, va_up_ne _ _ (pl_ne hFqm5_40 hFo_40 rfl)]; exact hFqm5_40
            have hFqm6_85 : F85 (qm 6) = cI (cy 1) 8 Sl.1 := by rw [eF85, va_up_ne _ _ (pl_ne hFqm6_40 hFo_40 rfl)]; exact hFqm6_40
            have hFqm7_85 : F85 (qm 7) = cJ (cy 2) 128 Sl.2 := by rw [eF85, va_up_ne _ _ (pl_ne hFqm7_40 hFo_40 rfl)]; exact hFqm7_40
            have hFqm8_85 : F85 (qm 8) = cI (cy 1) 30 Pp.2.1 := by rw [eF85, va_up_ne _ _ (pl_ne hFqm8_40 hFo_40 rfl)]; exact hFqm8_40
            have hFqm9_85 : F85 (qm 9) = cI (cy 3) 30 Pp.2.2 := by rw [eF85, va_up_ne _ _ (pl_ne hFqm9_40 hFo_40 rfl)]; exact hFqm9_40
            have hFqm10_85 : F85 (qm 10) = cI (cy 1) 5 Kr.1 := by rw [eF85, va_up_ne _ _ (pl_ne hFqm10_40 hFo_40 rfl)]; exact hFqm10_40
            have hFqm11_85 : F85 (qm 11) = cI (cy 3) 5 Kr.2.1 := by rw [eF85, va_up_ne _ _ (pl_ne hFqm11_40 hFo_40 rfl)]; exact hFqm11_40
            have hFqm12_85 : F85 (qm 12) = cI (cy 1) 60 Kr.2.2 := by rw [eF85, va_up_ne _ _ (pl_ne hFqm12_40 hFo_40 rfl)]; exact hFqm12_40
            have hFqm13_85 : F85 (qm 13) = cI (cy 1) 4 Bk.1 := by rw [eF85, va_up_ne _ _ (pl_ne hFqm13_40 hFo_40 rfl)]; exact hFqm13_40
            have hFqm14_85 : F85 (qm 14) = cD (cy 0) 4 Bk.2 := by rw [eF85, va_up_ne _ _ (pl_ne hFqm14_40 hFo_40 rfl)]; exact hFqm14_40
            have hFqm15_85 : F85 (qm 15) = cI (cy 1) 6 Xx.2 := by rw [eF85, va_up_ne _ _ (pl_ne hFqm15_40 hFo_40 rfl)]; exact hFqm15_40
            refine lv_aload_n hx hb dX9_reckon_137 rfl (lv_at hl 3 rfl) ?_
            refine lv_iload hx hb dX9_reckon_138 (lv_at hl 2 rfl) ?_
            refine lv_if_ne (tgt := 152) hx hb dX9_reckon_140 (by decide) (fun c86 => ?_) (fun c86 => ?_)
            · refine lv_aload_n hx hb dX9_reckon_152 rfl (lv_at hl 3 rfl) ?_
              refine pg_get (ci := 8) (C := RX9) (T := TX9) (N := 20) hx hb hts hinX9 hown hK hP hmo hFo_85 rfl 19 (by decide) (hts (.fieldLink RX9 131 "RopeDrumsModel" "outcome" "J") (by decide +kernel)) (fun _ h9 => h9) rfl dX9_reckon_153 ?_
              refine pg_put (ci := 8) (v := .long (rkL 0 r44 r47)) (ty := .long) (C := RX9) (T := TX9) (N := 20) hx hb hts hinX9 tyX9 tyX9_ok nmX9 hown hK hP hD hS hmo hFo_85 rfl 19 (by decide) (hts (.fieldLink RX9 131 "RopeDrumsModel" "outcome" "J") (by decide +kernel)) (fun _ h9 => h9) rfl (by decide +kernel) (rfl) (rfl) (Nat.le_of_ble_eq_true rfl) dX9_reckon_156 (fun H locs F87 eF87 hP hS => ?_)
              have eF87 : F87 = va_up F85 o (.inr (8, [.int 0, .ref (qm 0), .ref (qm 1), .ref (qm 2), .ref (qm 3), .ref (qm 4), .ref (qm 5), .ref (qm 6), .ref (qm 7), .int Pp.1, .ref (qm 8), .ref (qm 9), .ref (qm 10), .ref (qm 11), .ref (qm 12), .ref (qm 13), .ref (qm 14), .int 0, .ref (qm 15), .long (rkL 0 r44 r47)])) := eF87
              have hFo_87 : F87 o = .inr (8, [.int 0, .ref (qm 0), .ref (qm 1), .ref (qm 2), .ref (qm 3), .ref (qm 4), .ref (qm 5), .ref (qm 6), .ref (qm 7), .int Pp.1, .ref (qm 8), .ref (qm 9), .ref (qm 10), .ref (qm 11), .ref (qm 12), .ref (qm 13), .ref (qm 14), .int 0, .ref (qm 15), .long (rkL 0 r44 r47)]) := by rw [eF87]; exact va_up_self _ _ _
              have hFqm0_87 : F87 (qm 0) = cI (cy 1) 10 Mm.1 := by rw [eF87, va_up_ne _ _ (pl_ne hFqm0_85 hFo_85 rfl)]; exact hFqm0_85
              have hFqm1_87 : F87 (qm 1) = cJ (cy 2) 10 Mm.2 := by rw [eF87, va_up_ne _ _ (pl_ne hFqm1_85 hFo_85 rfl)]; exact hFqm1_85
              have hFqm2_87 : F87 (qm 2) = cD (cy 0) 6 Dd.1 := by rw [eF87, va_up_ne _ _ (pl_ne hFqm2_85 hFo_85 rfl)]; exact hFqm2_85
              have hFqm3_87 : F87 (qm 3) = cD (cy 0) 6 Dd.2.1 := by rw [eF87, va_up_ne _ _ (pl_ne hFqm3_85 hFo_85 rfl)]; exact hFqm3_85
              have hFqm4_87 : F87 (qm 4) = cD (cy 0) 6 Dd.2.2.1 := by rw [eF87, va_up_ne _ _ (pl_ne hFqm4_85 hFo_85 rfl)]; exact hFqm4_85
              have hFqm5_87 : F87 (qm 5) = cJ (cy 2) 6 Dd.2.2.2 := by rw [eF87, va_up_ne _ _ (pl_ne hFqm5_85 hFo_85 rfl)]; exact hFqm5_85
              have hFqm6_87 : F87 (qm 6) = cI (cy 1) 8 Sl.1 := by rw [eF87, va_up_ne _ _ (pl_ne hFqm6_85 hFo_85 rfl)]; exact hFqm6_85
              have hFqm7_87 : F87 (qm 7) = cJ (cy 2) 128 Sl.2 := by rw [eF87, va_up_ne _ _ (pl_ne hFqm7_85 hFo_85 rfl)]; exact hFqm7_85
              have hFqm8_87 : F87 (qm 8) = cI (cy 1) 30 Pp.2.1 := by rw [eF87, va_up_ne _ _ (pl_ne hFqm8_85 hFo_85 rfl)]; exact hFqm8_85
              have hFqm9_87 : F87 (qm 9) = cI (cy 3) 30 Pp.2.2 := by rw [eF87, va_up_ne _ _ (pl_ne hFqm9_85 hFo_85 rfl)]; exact hFqm9_85
              have hFqm10_87 : F87 (qm 10) = cI (cy 1) 5 Kr.1 := by rw [eF87, va_up_ne _ _ (pl_ne hFqm10_85 hFo_85 rfl)]; exact hFqm10_85
              have hFqm11_87 : F87 (qm 11) = cI (cy 3) 5 Kr.2.1 := by rw [eF87, va_up_ne _ _ (pl_ne hFqm11_85 hFo_85 rfl)]; exact hFqm11_85
              have hFqm12_87 : F87 (qm 12) = cI (cy 1) 60 Kr.2.2 := by rw [eF87, va_up_ne _ _ (pl_ne hFqm12_85 hFo_85 rfl)]; exact hFqm12_85
              have hFqm13_87 : F87 (qm 13) = cI (cy 1) 4 Bk.1 := by rw [eF87, va_up_ne _ _ (pl_ne hFqm13_85 hFo_85 rfl)]; exact hFqm13_85
              have hFqm14_87 : F87 (qm 14) = cD (cy 0) 4 Bk.2 := by rw [eF87, va_up_ne _ _ (pl_ne hFqm14_85 hFo_85 rfl)]; exact hFqm14_85
              have hFqm15_87 : F87 (qm 15) = cI (cy 1) 6 Xx.2 := by rw [eF87, va_up_ne _ _ (pl_ne hFqm15_85 hFo_85 rfl)]; exact hFqm15_85
              refine lv_goto (tgt := 201) hx hb dX9_reckon_159 (by decide) ?_
              refine lv_aload_n hx hb dX9_reckon_201 rfl (lv_at hl 3 rfl) ?_
              refine pg_get (ci := 8) (C := RX9) (T := TX9) (N := 20) hx hb hts hinX9 hown hK hP hmo hFo_87 rfl 17 (by decide) (hts (.fieldLink RX9 65 "RopeDrumsModel" "failed" "I") (by decide +kernel)) (fun _ h9 => h9) rfl dX9_reckon_202 ?_
              refine lv_if_ne (tgt := 228) hx hb dX9_reckon_205 (by decide) (fun c88 => absurd (by decide) c88) (fun c88 => ?_)
              refine lv_aload_n hx hb dX9_reckon_208 rfl (lv_at hl 3 rfl) ?_
              refine pg_get (ci := 8) (C := RX9) (T := TX9) (N := 20) hx hb hts hinX9 hown hK hP hmo hFo_87 rfl 1 (by decide) (hts (.fieldLink RX9 7 "RopeDrumsModel" "laneOf" "[I") (by decide +kernel)) (fun _ h9 => h9) rfl dX9_reckon_209 ?_
              refine lv_iload hx hb dX9_reckon_212 (lv_at hl 7 rfl) ?_
              refine lv_iload hx hb dX9_reckon_214 (lv_at hl 2 rfl) ?_
              refine pg_iast hx hb hK hP hD hS 1 hm0 hFqm0_87 rfl (vp_in_nI (by omega) (by decide)) dX9_reckon_216 (fun H locs F89 eF89 hP hS => ?_)
              rw [nI_clamp (by omega)] at eF89
              have hFo_89 : F89 o = .inr (8, [.int 0, .ref (qm 0), .ref (qm 1), .ref (qm 2), .ref (qm 3), .ref (qm 4), .ref (qm 5), .ref (qm 6), .ref (qm 7), .int Pp.1, .ref (qm 8), .ref (qm 9), .ref (qm 10), .ref (qm 11), .ref (qm 12), .ref (qm 13), .ref (qm 14), .int 0, .ref (qm 15), .long (rkL 0 r44 r47)]) := by rw [eF89, va_up_ne _ _ (pl_ne hFo_87 hFqm0_87 rfl)]; exact hFo_87
              have hFqm0_89 : F89 (qm 0) = cI (cy 1) 10 (upd Mm.1 j_into (mx (Mm.1 j_x) (Mm.1 j_y))) := by rw [eF89]; exact va_up_self _ _ _
              have hFqm1_89 : F89 (qm 1) = cJ (cy 2) 10 Mm.2 := by rw [eF89, va_up_ne _ _ (pl_ne hFqm1_87 hFqm0_87 rfl)]; exact hFqm1_87
              have hFqm2_89 : F89 (qm 2) = cD (cy 0) 6 Dd.1 := by rw [eF89, va_up_ne _ _ (pl_ne hFqm2_87 hFqm0_87 rfl)]; exact hFqm2_87
              have hFqm3_89 : F89 (qm 3) = cD (cy 0) 6 Dd.2.1 := by rw [eF89, va_up_ne _ _ (pl_ne hFqm3_87 hFqm0_87 rfl)]; exact hFqm3_87
              have hFqm4_89 : F89 (qm 4) = cD (cy 0) 6 Dd.2.2.1 := by rw [eF89, va_up_ne _ _ (pl_ne hFqm4_87 hFqm0_87 rfl)]; exact hFqm4_87
              have hFqm5_89 : F89 (qm 5) = cJ (cy 2) 6 Dd.2.2.2 := by rw [eF89, va_up_ne _ _ (pl_ne hFqm5_87 hFqm0_87 rfl)]; exact hFqm5_87
              have hFqm6_89 : F89 (qm 6) = cI (cy 1) 8 Sl.1 := by rw [eF89, va_up_ne _ _ (pl_ne hFqm6_87 hFqm0_87 rfl)]; exact hFqm6_87
              have hFqm7_89 : F89 (qm 7) = cJ (cy 2) 128 Sl.2 := by rw [eF89, va_up_ne _ _ (pl_ne hFqm7_87 hFqm0_87 rfl)]; exact hFqm7_87
              have hFqm8_89 : F89 (qm 8) = cI (cy 1) 30 Pp.2.1 := by rw [eF89, va_up_ne _ _ (pl_ne hFqm8_87 hFqm0_87 rfl)]; exact hFqm8_87
              have hFqm9_89 : F89 (qm 9) = cI (cy 3) 30 Pp.2.2 := by rw [eF89, va_up_ne _ _ (pl_ne hFqm9_87 hFqm0_87 rfl)]; exact hFqm9_87
              have hFqm10_89 : F89 (qm 10) = cI (cy 1) 5 Kr.1 := by rw [eF89, va_up_ne _ _ (pl_ne hFqm10_87 hFqm0_87 rfl)]; exact hFqm10_87
              have hFqm11_89 : F89 (qm 11) = cI (cy 3) 5 Kr.2.1 := by rw [eF89, va_up_ne _ _ (pl_ne hFqm11_87 hFqm0_87 rfl)]; exact hFqm11_87
              have hFqm12_89 : F89 (qm 12) = cI (cy 1) 60 Kr.2.2 := by rw [eF89, va_up_ne _ _ (pl_ne hFqm12_87 hFqm0_87 rfl)]; exact hFqm12_87
              have hFqm13_89 : F89 (qm 13) = cI (cy 1) 4 Bk.1 := by rw [eF89, va_up_ne _ _ (pl_ne hFqm13_87 hFqm0_87 rfl)]; exact hFqm13_87
              have hFqm14_89 : F89 (qm 14) = cD (cy 0) 4 Bk.2 := by rw [eF89, va_up_ne _ _ (pl_ne hFqm14_87 hFqm0_87 rfl)]; exact hFqm14_87
              have hFqm15_89 : F89 (qm 15) = cI (cy 1) 6 Xx.2 := by rw [eF89, va_up_ne _ _ (pl_ne hFqm15_87 hFqm0_87 rfl)]; exact hFqm15_87
              refine lv_aload_n hx hb dX9_reckon_217 rfl (lv_at hl 3 rfl) ?_
              refine pg_get (ci := 8) (C := RX9) (T := TX9) (N := 20) hx hb hts hinX9 hown hK hP hmo hFo_89 rfl 2 (by decide) (hts (.fieldLink RX9 13 "RopeDrumsModel" "held" "[J") (by decide +kernel)) (fun _ h9 => h9) rfl dX9_reckon_218 ?_
              refine lv_iload hx hb dX9_reckon_221 (lv_at hl 7 rfl) ?_
              refine lv_aload_n hx hb dX9_reckon_223 rfl (lv_at hl 3 rfl) ?_
              refine pg_get (ci := 8) (C := RX9) (T := TX9) (N := 20) hx hb hts hinX9 hown hK hP hmo hFo_89 rfl 19 (by decide) (hts (.fieldLink RX9 131 "RopeDrumsModel" "outcome" "J") (by decide +kernel)) (fun _ h9 => h9) rfl dX9_reckon_224 ?_
              refine pg_last hx hb hK hP hD hS 2 hm1 hFqm1_89 rfl (vp_in_nI (by omega) (by decide)) dX9_reckon_227 (fun H locs F90 eF90 hP hS => ?_)
              rw [nI_clamp (by omega)] at eF90
              have hFo_90 : F90 o = .inr (8, [.int 0, .ref (qm 0), .ref (qm 1), .ref (qm 2), .ref (qm 3), .ref (qm 4), .ref (qm 5), .ref (qm 6), .ref (qm 7), .int Pp.1, .ref (qm 8), .ref (qm 9), .ref (qm 10), .ref (qm 11), .ref (qm 12), .ref (qm 13), .ref (qm 14), .int 0, .ref (qm 15), .long (rkL 0 r44 r47)]) := by rw [eF90, va_up_ne _ _ (pl_ne hFo_89 hFqm1_89 rfl)]; exact hFo_89
              have hFqm0_90 : F90 (qm 0) = cI (cy 1) 10 (upd Mm.1 j_into (mx (Mm.1 j_x) (Mm.1 j_y))) := by rw [eF90, va_up_ne _ _ (pl_ne hFqm0_89 hFqm1_89 rfl)]; exact hFqm0_89
              have hFqm1_90 : F90 (qm 1) = cJ (cy 2) 10 (vp_updL Mm.2 j_into (rkL 0 r44 r47)) := by rw [eF90]; exact va_up_self _ _ _
              have hFqm2_90 : F90 (qm 2) = cD (cy 0) 6 Dd.1 := by rw [eF90, va_up_ne _ _ (pl_ne hFqm2_89 hFqm1_89 rfl)]; exact hFqm2_89
              have hFqm3_90 : F90 (qm 3) = cD (cy 0) 6 Dd.2.1 := by rw [eF90, va_up_ne _ _ (pl_ne hFqm3_89 hFqm1_89 rfl)]; exact hFqm3_89
              have hFqm4_90 : F90 (qm 4) = cD (cy 0) 6 Dd.2.2.1 := by rw [eF90, va_up_ne _ _ (pl_ne hFqm4_89 hFqm1_89 rfl)]; exact hFqm4_89
              have hFqm5_90 : F90 (qm 5) = cJ (cy 2) 6 Dd.2.2.2 := by rw [eF90, va_up_ne _ _ (pl_ne hFqm5_89 hFqm1_89 rfl)]; exact hFqm5_89
              have hFqm6_90 : F90 (qm 6) = cI (cy 1) 8 Sl.1 := by rw [eF90, va_up_ne _ _ (pl_ne hFqm6_89 hFqm1_89 rfl)]; exact hFqm6_89
              have hFqm7_90 : F90 (qm 7) = cJ (cy 2) 128 Sl.2 := by rw [eF90, va_up_ne _ _ (pl_ne hFqm7_89 hFqm1_89 rfl)]; exact hFqm7_89
              have hFqm8_90 : F90 (qm 8) = cI (cy 1) 30 Pp.2.1 := by rw [eF90, va_up_ne _ _ (pl_ne hFqm8_89 hFqm1_89 rfl)]; exact hFqm8_89
              have hFqm9_90 : F90 (qm 9) = cI (cy 3) 30 Pp.2.2 := by rw [eF90, va_up_ne _ _ (pl_ne hFqm9_89 hFqm1_89 rfl)]; exact hFqm9_89
              have hFqm10_90 : F90 (qm 10) = cI (cy 1) 5 Kr.1 := by rw [eF90, va_up_ne _ _ (pl_ne hFqm10_89 hFqm1_89 rfl)]; exact hFqm10_89
              have hFqm11_90 : F90 (qm 11) = cI (cy 3) 5 Kr.2.1 := by rw [eF90, va_up_ne _ _ (pl_ne hFqm11_89 hFqm1_89 rfl)]; exact hFqm11_89
              have hFqm12_90 : F90 (qm 12) = cI (cy 1) 60 Kr.2.2 := by rw [eF90, va_up_ne _ _ (pl_ne hFqm12_89 hFqm1_89 rfl)]; exact hFqm12_89
              have hFqm13_90 : F90 (qm 13) = cI (cy 1) 4 Bk.1 := by rw [eF90, va_up_ne _ _ (pl_ne hFqm13_89 hFqm1_89 rfl)]; exact hFqm13_89
              have hFqm14_90 : F90 (qm 14) = cD (cy 0) 4 Bk.2 := by rw [eF90, va_up_ne _ _ (pl_ne hFqm14_89 hFqm1_89 rfl)]; exact hFqm14_89
              have hFqm15_90 : F90 (qm 15) = cI (cy 1) 6 Xx.2 := by rw [eF90, va_up_ne _ _ (pl_ne hFqm15_89 hFqm1_89 rfl)]; exact hFqm15_89
              refine lv_aload_n hx hb dX9_reckon_228 rfl (lv_at hl 3 rfl) ?_
              refine lv_iload hx hb dX9_reckon_229 (lv_at hl 2 rfl) ?_
              refine va_calli (va_runV (As := [.int (mx (Mm.1 j_x) (Mm.1 j_y))]) (rest := []) ⟨hx, hb, hml, hown, hts⟩ (c9_answers_0 l G cy L F90 H.size o qm 0 Pp.1 (rkL 0 r44 r47) hmo hFo_90 Xx.2 hm15 hFqm15_90 (mx (Mm.1 j_x) (Mm.1 j_y))) (cwV 1 hts gX9_reckon_X9_answers rfl rfl rfl (by decide +kernel) ⟨Nat.le_of_ble_eq_true rfl, Nat.le_of_ble_eq_true rfl⟩) (preV_of okQ (⟨rfl, hP, hK, hD.top⟩) (pl_recv hK hP (ci := 8) rfl hmo hFo_90)) rfl rfl hl.1 rfl (lv_room (Nat.le_of_ble_eq_true rfl)) dX9_reckon_231 ⟨Nat.le_of_ble_eq_true rfl, Nat.le_of_ble_eq_true rfl⟩) hS (fun q _ h => pl_free hD hS hA q h) (pl_free hD hS hA) (fun r92 F91 t H1 locs ht hvm hw hP1 hz1 hk1 hS => ?_)
              have hP1 : va_P G vwCl (va_pl L F91) t.heap := hP1
              rw [ht] at hP1
              have hP := hP1
              generalize H1 = H at hP hS ⊢
              obtain ⟨hqr92, eF91⟩ := hw
              have hFo_F91 : F91 o = .inr (8, [.int 0, .ref (qm 0), .ref (qm 1), .ref (qm 2), .ref (qm 3), .ref (qm 4), .ref (qm 5), .ref (qm 6), .ref (qm 7), .int Pp.1, .ref (qm 8), .ref (qm 9), .ref (qm 10), .ref (qm 11), .ref (qm 12), .ref (qm 13), .ref (qm 14), .int 0, .ref (qm 15), .long (rkL 0 r44 r47)]) := by rw [eF91]; exact hFo_90
              have hFqm0_F91 : F91 (qm 0) = cI (cy 1) 10 (upd Mm.1 j_into (mx (Mm.1 j_x) (Mm.1 j_y))) := by rw [eF91]; exact hFqm0_90
              have hFqm1_F91 : F91 (qm 1) = cJ (cy 2) 10 (vp_updL Mm.2 j_into (rkL 0 r44 r47)) := by rw [eF91]; exact hFqm1_90
              have hFqm2_F91 : F91 (qm 2) = cD (cy 0) 6 Dd.1 := by rw [eF91]; exact hFqm2_90
              have hFqm3_F91 : F91 (qm 3) = cD (cy 0) 6 Dd.2.1 := by rw [eF91]; exact hFqm3_90
              have hFqm4_F91 : F91 (qm 4) = cD (cy 0) 6 Dd.2.2.1 := by rw [eF91]; exact hFqm4_90
              have hFqm5_F91 : F91 (qm 5) = cJ (cy 2) 6 Dd.2.2.2 := by rw [eF91]; exact hFqm5_90
              have hFqm6_F91 : F91 (qm 6) = cI (cy 1) 8 Sl.1 := by rw [eF91]; exact hFqm6_90
              have hFqm7_F91 : F91 (qm 7) = cJ (cy 2) 128 Sl.2 := by rw [eF91]; exact hFqm7_90
              have hFqm8_F91 : F91 (qm 8) = cI (cy 1) 30 Pp.2.1 := by rw [eF91]; exact hFqm8_90
              have hFqm9_F91 : F91 (qm 9) = cI (cy 3) 30 Pp.2.2 := by rw [eF91]; exact hFqm9_90
              have hFqm10_F91 : F91 (qm 10) = cI (cy 1) 5 Kr.1 := by rw [eF91]; exact hFqm10_90
              have hFqm11_F91 : F91 (qm 11) = cI (cy 3) 5 Kr.2.1 := by rw [eF91]; exact hFqm11_90
              have hFqm12_F91 : F91 (qm 12) = cI (cy 1) 60 Kr.2.2 := by rw [eF91]; exact hFqm12_90
              have hFqm13_F91 : F91 (qm 13) = cI (cy 1) 4 Bk.1 := by rw [eF91]; exact hFqm13_90
              have hFqm14_F91 : F91 (qm 14) = cD (cy 0) 4 Bk.2 := by rw [eF91]; exact hFqm14_90
              have hFqm15_F91 : F91 (qm 15) = cI (cy 1) 6 Xx.2 := by rw [eF91]; exact hFqm15_90
              have hr92 := hqr92
              exact W.iret (v := r92) hx hb hr (fun t ht hW => ⟨⟨r92, F91, rfl, (by subst hr92 hr47 ev46 ev45 hr44 ev43 ev42 ev37; have hc140 := c86; have hsp : sp_reckon Mm Xx 0 (nI j_x) (nI j_y) (nI j_into) = (mx (Mm.1 j_x) (Mm.1 j_y), setM Mm j_into (mx (Mm.1 j_x) (Mm.1 j_y)) (rkL 0 (tn (Mm.1 j_x) (Mm.2 j_x) (mx (Mm.1 j_x) (Mm.1 j_y))) (tn (Mm.1 j_y) (Mm.2 j_y) (mx (Mm.1 j_x) (Mm.1 j_y)))), goodX Xx) := (by unfold sp_reckon; rw [hi_x, hi_y, hi_into, ixk.1]; show rk Mm Xx 0 j_x j_y j_into = _; unfold rk; rw [if_pos (hmx.1 h1l).2.1]; rw [if_neg (fun q => absurd q.1 (by decide)), if_neg hc140]); rw [hsp]; exact ⟨rfl, (by exact ⟨⟨_, _, hmo, hFo_F91⟩, ⟨hm0, hFqm0_F91⟩, ⟨hm1, hFqm1_F91⟩, ⟨hm2, hFqm2_F91⟩, ⟨hm3, hFqm3_F91⟩, ⟨hm4, hFqm4_F91⟩, ⟨hm5, hFqm5_F91⟩, ⟨hm6, hFqm6_F91⟩, ⟨hm7, hFqm7_F91⟩, ⟨hm8, hFqm8_F91⟩, ⟨hm9, hFqm9_F91⟩, ⟨hm10, hFqm10_F91⟩, ⟨hm11, hFqm11_F91⟩, ⟨hm12, hFqm12_F91⟩, ⟨hm13, hFqm13_F91⟩, ⟨hm14, hFqm14_F91⟩, ⟨hm15, hFqm15_F91⟩, hne⟩)⟩), (by show va_P _ _ _ t.heap; rw [ht]; exact hP)⟩, hS.F ht⟩) hS.2.2 dX9_reckon_234
            · refine lv_aload_n hx hb dX9_reckon_143 rfl (lv_at hl 3 rfl) ?_
              refine pg_get (ci := 8) (C := RX9) (T := TX9) (N := 20) hx hb hts hinX9 hown hK hP hmo hFo_85 rfl 19 (by decide) (hts (.fieldLink RX9 131 "RopeDrumsModel" "outcome" "J") (by decide +kernel)) (fun _ h9 => h9) rfl dX9_reckon_144 ?_
              refine lv_l2i hx hb dX9_reckon_147 rfl ?_
              refine lv_topi (fun v93 ev93 => ?_)
              refine lv_i2l hx hb dX9_reckon_148 rfl ?_
              refine lv_topl (fun v94 ev94 => ?_)
              refine lv_goto (tgt := 156) hx hb dX9_reckon_149 (by decide) ?_
              refine pg_put (ci := 8) (v := .long v94) (ty := .long) (C := RX9) (T := TX9) (N := 20) hx hb hts hinX9 tyX9 tyX9_ok nmX9 hown hK hP hD hS hmo hFo_85 rfl 19 (by decide) (hts (.fieldLink RX9 131 "RopeDrumsModel" "outcome" "J") (by decide +kernel)) (fun _ h9 => h9) rfl (by decide +kernel) (rfl) (rfl) (Nat.le_of_ble_eq_true rfl) dX9_reckon_156 (fun H locs F95 eF95 hP hS => ?_)
              have eF95 : F95 = va_up F85 o (.inr (8, [.int 0, .ref (qm 0), .ref (qm 1), .ref (qm 2), .ref (qm 3), .ref (qm 4), .ref (qm 5), .ref (qm 6), .ref (qm 7), .int Pp.1, .ref (qm 8), .ref (qm 9), .ref (qm 10), .ref (qm 11), .ref (qm 12), .ref (qm 13), .ref (qm 14), .int 0, .ref (qm 15), .long v94])) := eF95
              have hFo_95 : F95 o = .inr (8, [.int 0, .ref (qm 0), .ref (qm 1), .ref (qm 2), .ref (qm 3), .ref (qm 4), .ref (qm 5), .ref (qm 6), .ref (qm 7), .int Pp.1, .ref (qm 8), .ref (qm 9), .ref (qm 10), .ref (qm 11), .ref (qm 12), .ref (qm 13), .ref (qm 14), .int 0, .ref (qm 15), .long v94]) := by rw [eF95]; exact va_up_self _ _ _
              have hFqm0_95 : F95 (qm 0) = cI (cy 1) 10 Mm.1 := by rw [eF95, va_up_ne _ _ (pl_ne hFqm0_85 hFo_85 rfl)]; exact hFqm0_85
              have hFqm1_95 : F95 (qm 1) = cJ (cy 2) 10 Mm.2 := by rw [eF95, va_up_ne _ _ (pl_ne hFqm1_85 hFo_85 rfl)]; exact hFqm1_85
              have hFqm2_95 : F95 (qm 2) = cD (cy 0) 6 Dd.1 := by rw [eF95, va_up_ne _ _ (pl_ne hFqm2_85 hFo_85 rfl)]; exact hFqm2_85
              have hFqm3_95 : F95 (qm 3) = cD (cy 0) 6 Dd.2.1 := by rw [eF95, va_up_ne _ _ (pl_ne hFqm3_85 hFo_85 rfl)]; exact hFqm3_85
              have hFqm4_95 : F95 (qm 4) = cD (cy 0) 6 Dd.2.2.1 := by rw [eF95, va_up_ne _ _ (pl_ne hFqm4_85 hFo_85 rfl)]; exact hFqm4_85
              have hFqm5_95 : F95 (qm 5) = cJ (cy 2) 6 Dd.2.2.2 := by rw [eF95, va_up_ne _ _ (pl_ne hFqm5_85 hFo_85 rfl)]; exact hFqm5_85
              have hFqm6_95 : F95 (qm 6) = cI (cy 1) 8 Sl.1 := by rw [eF95, va_up_ne _ _ (pl_ne hFqm6_85 hFo_85 rfl)]; exact hFqm6_85
              have hFqm7_95 : F95 (qm 7) = cJ (cy 2) 128 Sl.2 := by rw [eF95, va_up_ne _ _ (pl_ne hFqm7_85 hFo_85 rfl)]; exact hFqm7_85
              have hFqm8_95 : F95 (qm 8) = cI (cy 1) 30 Pp.2.1 := by rw [eF95, va_up_ne _ _ (pl_ne hFqm8_85 hFo_85 rfl)]; exact hFqm8_85
              have hFqm9_95 : F95 (qm 9) = cI (cy 3) 30 Pp.2.2 := by rw [eF95, va_up_ne _ _ (pl_ne hFqm9_85 hFo_85 rfl)]; exact hFqm9_85
              have hFqm10_95 : F95 (qm 10) = cI (cy 1) 5 Kr.1 := by rw [eF95, va_up_ne _ _ (pl_ne hFqm10_85 hFo_85 rfl)]; exact hFqm10_85
              have hFqm11_95 : F95 (qm 11) = cI (cy 3) 5 Kr.2.1 := by rw [eF95, va_up_ne _ _ (pl_ne hFqm11_85 hFo_85 rfl)]; exact hFqm11_85
              have hFqm12_95 : F95 (qm 12) = cI (cy 1) 60 Kr.2.2 := by rw [eF95, va_up_ne _ _ (pl_ne hFqm12_85 hFo_85 rfl)]; exact hFqm12_85
              have hFqm13_95 : F95 (qm 13) = cI (cy 1) 4 Bk.1 := by rw [eF95, va_up_ne _ _ (pl_ne hFqm13_85 hFo_85 rfl)]; exact hFqm13_85
              have hFqm14_95 : F95 (qm 14) = cD (cy 0) 4 Bk.2 := by rw [eF95, va_up_ne _ _ (pl_ne hFqm14_85 hFo_85 rfl)]; exact hFqm14_85
              have hFqm15_95 : F95 (qm 15) = cI (cy 1) 6 Xx.2 := by rw [eF95, va_up_ne _ _ (pl_ne hFqm15_85 hFo_85 rfl)]; exact hFqm15_85
              refine lv_goto (tgt := 201) hx hb dX9_reckon_159 (by decide) ?_
              refine lv_aload_n hx hb dX9_reckon_201 rfl (lv_at hl 3 rfl) ?_
              refine pg_get (ci := 8) (C := RX9) (T := TX9) (N := 20) hx hb hts hinX9 hown hK hP hmo hFo_95 rfl 17 (by decide) (hts (.fieldLink RX9 65 "RopeDrumsModel" "failed" "I") (by decide +kernel)) (fun _ h9 => h9) rfl dX9_reckon_202 ?_
              refine lv_if_ne (tgt := 228) hx hb dX9_reckon_205 (by decide) (fun c96 => absurd (by decide) c96) (fun c96 => ?_)
              refine lv_aload_n hx hb dX9_reckon_208 rfl (lv_at hl 3 rfl) ?_
              refine pg_get (ci := 8) (C := RX9) (T := TX9) (N := 20) hx hb hts hinX9 hown hK hP hmo hFo_95 rfl 1 (by decide) (hts (.fieldLink RX9 7 "RopeDrumsModel" "laneOf" "[I") (by decide +kernel)) (fun _ h9 => h9) rfl dX9_reckon_209 ?_
              refine lv_iload hx hb dX9_reckon_212 (lv_at hl 7 rfl) ?_
              refine lv_iload hx hb dX9_reckon_214 (lv_at hl 2 rfl) ?_
              refine pg_iast hx hb hK hP hD hS 1 hm0 hFqm0_95 rfl (vp_in_nI (by omega) (by decide)) dX9_reckon_216 (fun H locs F97 eF97 hP hS => ?_)
              rw [nI_clamp (by omega)] at eF97
              have hFo_97 : F97 o = .inr (8, [.int 0, .ref (qm 0), .ref (qm 1), .ref (qm 2), .ref (qm 3), .ref (qm 4), .ref (qm 5), .ref (qm 6), .ref (qm 7), .int Pp.1, .ref (qm 8), .ref (qm 9), .ref (qm 10), .ref (qm 11), .ref (qm 12), .ref (qm 13), .ref (qm 14), .int 0, .ref (qm 15), .long v94]) := by rw [eF97, va_up_ne _ _ (pl_ne hFo_95 hFqm0_95 rfl)]; exact hFo_95
              have hFqm0_97 : F97 (qm 0) = cI (cy 1) 10 (upd Mm.1 j_into (mx (Mm.1 j_x) (Mm.1 j_y))) := by rw [eF97]; exact va_up_self _ _ _
              have hFqm1_97 : F97 (qm 1) = cJ (cy 2) 10 Mm.2 := by rw [eF97, va_up_ne _ _ (pl_ne hFqm1_95 hFqm0_95 rfl)]; exact hFqm1_95
              have hFqm2_97 : F97 (qm 2) = cD (cy 0) 6 Dd.1 := by rw [eF97, va_up_ne _ _ (pl_ne hFqm2_95 hFqm0_95 rfl)]; exact hFqm2_95
              have hFqm3_97 : F97 (qm 3) = cD (cy 0) 6 Dd.2.1 := by rw [eF97, va_up_ne _ _ (pl_ne hFqm3_95 hFqm0_95 rfl)]; exact hFqm3_95
              have hFqm4_97 : F97 (qm 4) = cD (cy 0) 6 Dd.2.2.1 := by rw [eF97, va_up_ne _ _ (pl_ne hFqm4_95 hFqm0_95 rfl)]; exact hFqm4_95
              have hFqm5_97 : F97 (qm 5) = cJ (cy 2) 6 Dd.2.2.2 := by rw [eF97, va_up_ne _ _ (pl_ne hFqm5_95 hFqm0_95 rfl)]; exact hFqm5_95
              have hFqm6_97 : F97 (qm 6) = cI (cy 1) 8 Sl.1 := by rw [eF97, va_up_ne _ _ (pl_ne hFqm6_95 hFqm0_95 rfl)]; exact hFqm6_95
              have hFqm7_97 : F97 (qm 7) = cJ (cy 2) 128 Sl.2 := by rw [eF97, va_up_ne _ _ (pl_ne hFqm7_95 hFqm0_95 rfl)]; exact hFqm7_95
              have hFqm8_97 : F97 (qm 8) = cI (cy 1) 30 Pp.2.1 := by rw [eF97, va_up_ne _ _ (pl_ne hFqm8_95 hFqm0_95 rfl)]; exact hFqm8_95
              have hFqm9_97 : F97 (qm 9) = cI (cy 3) 30 Pp.2.2 := by rw [eF97, va_up_ne _ _ (pl_ne hFqm9_95 hFqm0_95 rfl)]; exact hFqm9_95
              have hFqm10_97 : F97 (qm 10) = cI (cy 1) 5 Kr.1 := by rw [eF97, va_up_ne _ _ (pl_ne hFqm10_95 hFqm0_95 rfl)]; exact hFqm10_95
              have hFqm11_97 : F97 (qm 11) = cI (cy 3) 5 Kr.2.1 := by rw [eF97, va_up_ne _ _ (pl_ne hFqm11_95 hFqm0_95 rfl)]; exact hFqm11_95
              have hFqm12_97 : F97 (qm 12) = cI (cy 1) 60 Kr.2.2 := by rw [eF97, va_up_ne _ _ (pl_ne hFqm12_95 hFqm0_95 rfl)]; exact hFqm12_95
              have hFqm13_97 : F97 (qm 13) = cI (cy 1) 4 Bk.1 := by rw [eF97, va_up_ne _ _ (pl_ne hFqm13_95 hFqm0_95 rfl)]; exact hFqm13_95
              have hFqm14_97 : F97 (qm 14) = cD (cy 0) 4 Bk.2 := by rw [eF97, va_up_ne _ _ (pl_ne hFqm14_95 hFqm0_95 rfl)]; exact hFqm14_95
              have hFqm15_97 : F97 (qm 15) = cI (cy 1) 6 Xx.2 := by rw [eF97, va_up_ne _ _ (pl_ne hFqm15_95 hFqm0_95 rfl)]; exact hFqm15_95
              refine lv_aload_n hx hb dX9_reckon_217 rfl (lv_at hl 3 rfl) ?_
              refine pg_get (ci := 8) (C := RX9) (T := TX9) (N := 20) hx hb hts hinX9 hown hK hP hmo hFo_97 rfl 2 (by decide) (hts (.fieldLink RX9 13 "RopeDrumsModel" "held" "[J") (by decide +kernel)) (fun _ h9 => h9) rfl dX9_reckon_218 ?_
              refine lv_iload hx hb dX9_reckon_221 (lv_at hl 7 rfl) ?_
              refine lv_aload_n hx hb dX9_reckon_223 rfl (lv_at hl 3 rfl) ?_
              refine pg_get (ci := 8) (C := RX9) (T := TX9) (N := 20) hx hb hts hinX9 hown hK hP hmo hFo_97 rfl 19 (by decide) (hts (.fieldLink RX9 131 "RopeDrumsModel" "outcome" "J") (by decide +kernel)) (fun _ h9 => h9) rfl dX9_reckon_224 ?_
              refine pg_last hx hb hK hP hD hS 2 hm1 hFqm1_97 rfl (vp_in_nI (by omega) (by decide)) dX9_reckon_227 (fun H locs F98 eF98 hP hS => ?_)
              rw [nI_clamp (by omega)] at eF98
              have hFo_98 : F98 o = .inr (8, [.int 0, .ref (qm 0), .ref (qm 1), .ref (qm 2), .ref (qm 3), .ref (qm 4), .ref (qm 5), .ref (qm 6), .ref (qm 7), .int Pp.1, .ref (qm 8), .ref (qm 9), .ref (qm 10), .ref (qm 11), .ref (qm 12), .ref (qm 13), .ref (qm 14), .int 0, .ref (qm 15), .long v94]) := by rw [eF98, va_up_ne _ _ (pl_ne hFo_97 hFqm1_97 rfl)]; exact hFo_97
              have hFqm0_98 : F98 (qm 0) = cI (cy 1) 10 (upd Mm.1 j_into (mx (Mm.1 j_x) (Mm.1 j_y))) := by rw [eF98, va_up_ne _ _ (pl_ne hFqm0_97 hFqm1_97 rfl)]; exact hFqm0_97
              have hFqm1_98 : F98 (qm 1) = cJ (cy 2) 10 (vp_updL Mm.2 j_into v94) := by rw [eF98]; exact va_up_self _ _ _
              have hFqm2_98 : F98 (qm 2) = cD (cy 0) 6 Dd.1 := by rw [eF98, va_up_ne _ _ (pl_ne hFqm2_97 hFqm1_97 rfl)]; exact hFqm2_97
              have hFqm3_98 : F98 (qm 3) = cD (cy 0) 6 Dd.2.1 := by rw [eF98, va_up_ne _ _ (pl_ne hFqm3_97 hFqm1_97 rfl)]; exact hFqm3_97
              have hFqm4_98 : F98 (qm 4) = cD (cy 0) 6 Dd.2.2.1 := by rw [eF98, va_up_ne _ _ (pl_ne hFqm4_97 hFqm1_97 rfl)]; exact hFqm4_97
              have hFqm5_98 : F98 (qm 5) = cJ (cy 2) 6 Dd.2.2.2 := by rw [eF98, va_up_ne _ _ (pl_ne hFqm5_97 hFqm1_97 rfl)]; exact hFqm5_97
              have hFqm6_98 : F98 (qm 6) = cI (cy 1) 8 Sl.1 := by rw [eF98, va_up_ne _ _ (pl_ne hFqm6_97 hFqm1_97 rfl)]; exact hFqm6_97
              have hFqm7_98 : F98 (qm 7) = cJ (cy 2) 128 Sl.2 := by rw [eF98, va_up_ne _ _ (pl_ne hFqm7_97 hFqm1_97 rfl)]; exact hFqm7_97
              have hFqm8_98 : F98 (qm 8) = cI (cy 1) 30 Pp.2.1 := by rw [eF98, va_up_ne _ _ (pl_ne hFqm8_97 hFqm1_97 rfl)]; exact hFqm8_97
              have hFqm9_98 : F98 (qm 9) = cI (cy 3) 30 Pp.2.2 := by rw [eF98, va_up_ne _ _ (pl_ne hFqm9_97 hFqm1_97 rfl)]; exact hFqm9_97
              have hFqm10_98 : F98 (qm 10) = cI (cy 1) 5 Kr.1 := by rw [eF98, va_up_ne _ _ (pl_ne hFqm10_97 hFqm1_97 rfl)]; exact hFqm10_97
              have hFqm11_98 : F98 (qm 11) = cI (cy 3) 5 Kr.2.1 := by rw [eF98, va_up_ne _ _ (pl_ne hFqm11_97 hFqm1_97 rfl)]; exact hFqm11_97
              have hFqm12_98 : F98 (qm 12) = cI (cy 1) 60 Kr.2.2 := by rw [eF98, va_up_ne _ _ (pl_ne hFqm12_97 hFqm1_97 rfl)]; exact hFqm12_97
              have hFqm13_98 : F98 (qm 13) = cI (cy 1) 4 Bk.1 := by rw [eF98, va_up_ne _ _ (pl_ne hFqm13_97 hFqm1_97 rfl)]; exact hFqm13_97
              have hFqm14_98 : F98 (qm 14) = cD (cy 0) 4 Bk.2 := by rw [eF98, va_up_ne _ _ (pl_ne hFqm14_97 hFqm1_97 rfl)]; exact hFqm14_97
              have hFqm15_98 : F98 (qm 15) = cI (cy 1) 6 Xx.2 := by rw [eF98, va_up_ne _ _ (pl_ne hFqm15_97 hFqm1_97 rfl)]; exact hFqm15_97
              refine lv_aload_n hx hb dX9_reckon_228 rfl (lv_at hl 3 rfl) ?_
              refine lv_iload hx hb dX9_reckon_229 (lv_at hl 2 rfl) ?_
              refine va_calli (va_runV (As := [.int (mx (Mm.1 j_x) (Mm.1 j_y))]) (rest := []) ⟨hx, hb, hml, hown, hts⟩ (c9_answers_0 l G cy L F98 H.size o qm 0 Pp.1 v94 hmo hFo_98 Xx.2 hm15 hFqm15_98 (mx (Mm.1 j_x) (Mm.1 j_y))) (cwV 1 hts gX9_reckon_X9_answers rfl rfl rfl (by decide +kernel) ⟨Nat.le_of_ble_eq_true rfl, Nat.le_of_ble_eq_true rfl⟩) (preV_of okQ (⟨rfl, hP, hK, hD.top⟩) (pl_recv hK hP (ci := 8) rfl hmo hFo_98)) rfl rfl hl.1 rfl (lv_room (Nat.le_of_ble_eq_true rfl)) dX9_reckon_231 ⟨Nat.le_of_ble_eq_true rfl, Nat.le_of_ble_eq_true rfl⟩) hS (fun q _ h => pl_free hD hS hA q h) (pl_free hD hS hA) (fun r100 F99 t H1 locs ht hvm hw hP1 hz1 hk1 hS => ?_)
              have hP1 : va_P G vwCl (va_pl L F99) t.heap := hP1
              rw [ht] at hP1
              have hP := hP1
              generalize H1 = H at hP hS ⊢
              obtain ⟨hqr100, eF99⟩ := hw
              have hFo_F99 : F99 o = .inr (8, [.int 0, .ref (qm 0), .ref (qm 1), .ref (qm 2), .ref (qm 3), .ref (qm 4), .ref (qm 5), .ref (qm 6), .ref (qm 7), .int Pp.1, .ref (qm 8), .ref (qm 9), .ref (qm 10), .ref (qm 11), .ref (qm 12), .ref (qm 13), .ref (qm 14), .int 0, .ref (qm 15), .long v94]) := by rw [eF99]; exact hFo_98
              have hFqm0_F99 : F99 (qm 0) = cI (cy 1) 10 (upd Mm.1 j_into (mx (Mm.1 j_x) (Mm.1 j_y))) := by rw [eF99]; exact hFqm0_98
              have hFqm1_F99 : F99 (qm 1) = cJ (cy 2) 10 (vp_updL Mm.2 j_into v94) := by rw [eF99]; exact hFqm1_98
              have hFqm2_F99 : F99 (qm 2) = cD (cy 0) 6 Dd.1 := by rw [eF99]; exact hFqm2_98
              have hFqm3_F99 : F99 (qm 3) = cD (cy 0) 6 Dd.2.1 := by rw [eF99]; exact hFqm3_98
              have hFqm4_F99 : F99 (qm 4) = cD (cy 0) 6 Dd.2.2.1 := by rw [eF99]; exact hFqm4_98
              have hFqm5_F99 : F99 (qm 5) = cJ (cy 2) 6 Dd.2.2.2 := by rw [eF99]; exact hFqm5_98
              have hFqm6_F99 : F99 (qm 6) = cI (cy 1) 8 Sl.1 := by rw [eF99]; exact hFqm6_98
              have hFqm7_F99 : F99 (qm 7) = cJ (cy 2) 128 Sl.2 := by rw [eF99]; exact hFqm7_98
              have hFqm8_F99 : F99 (qm 8) = cI (cy 1) 30 Pp.2.1 := by rw [eF99]; exact hFqm8_98
              have hFqm9_F99 : F99 (qm 9) = cI (cy 3) 30 Pp.2.2 := by rw [eF99]; exact hFqm9_98
              have hFqm10_F99 : F99 (qm 10) = cI (cy 1) 5 Kr.1 := by rw [eF99]; exact hFqm10_98
              have hFqm11_F99 : F99 (qm 11) = cI (cy 3) 5 Kr.2.1 := by rw [eF99]; exact hFqm11_98
              have hFqm12_F99 : F99 (qm 12) = cI (cy 1) 60 Kr.2.2 := by rw [eF99]; exact hFqm12_98
              have hFqm13_F99 : F99 (qm 13) = cI (cy 1) 4 Bk.1 := by rw [eF99]; exact hFqm13_98
              have hFqm14_F99 : F99 (qm 14) = cD (cy 0) 4 Bk.2 := by rw [eF99]; exact hFqm14_98
              have hFqm15_F99 : F99 (qm 15) = cI (cy 1) 6 Xx.2 := by rw [eF99]; exact hFqm15_98
              have hr100 := hqr100
              exact W.iret (v := r100) hx hb hr (fun t ht hW => ⟨⟨r100, F99, rfl, (by subst hr100 ev94 ev93 hr47 ev46 ev45 hr44 ev43 ev42 ev37; have hc140 := c86; have hsp : sp_reckon Mm Xx 0 (nI j_x) (nI j_y) (nI j_into) = (mx (Mm.1 j_x) (Mm.1 j_y), setM Mm j_into (mx (Mm.1 j_x) (Mm.1 j_y)) (rkL 0 (tn (Mm.1 j_x) (Mm.2 j_x) (mx (Mm.1 j_x) (Mm.1 j_y))) (tn (Mm.1 j_y) (Mm.2 j_y) (mx (Mm.1 j_x) (Mm.1 j_y)))).toInt32.toInt64, goodX Xx) := (by unfold sp_reckon; rw [hi_x, hi_y, hi_into, ixk.1]; show rk Mm Xx 0 j_x j_y j_into = _; unfold rk; rw [if_pos (hmx.1 h1l).2.1]; rw [if_neg (fun q => absurd q.1 (by decide)), if_pos hc140]); rw [hsp]; exact ⟨rfl, (by exact ⟨⟨_, _, hmo, hFo_F99⟩, ⟨hm0, hFqm0_F99⟩, ⟨hm1, hFqm1_F99⟩, ⟨hm2, hFqm2_F99⟩, ⟨hm3, hFqm3_F99⟩, ⟨hm4, hFqm4_F99⟩, ⟨hm5, hFqm5_F99⟩, ⟨hm6, hFqm6_F99⟩, ⟨hm7, hFqm7_F99⟩, ⟨hm8, hFqm8_F99⟩, ⟨hm9, hFqm9_F99⟩, ⟨hm10, hFqm10_F99⟩, ⟨hm11, hFqm11_F99⟩, ⟨hm12, hFqm12_F99⟩, ⟨hm13, hFqm13_F99⟩, ⟨hm14, hFqm14_F99⟩, ⟨hm15, hFqm15_F99⟩, hne⟩)⟩), (by show va_P _ _ _ t.heap; rw [ht]; exact hP)⟩, hS.F ht⟩) hS.2.2 dX9_reckon_234
        · refine lv_aload_n hx hb dX9_reckon_52 rfl (lv_at hl 0 rfl) ?_
          refine pg_get (ci := 8) (C := RX9) (T := TX9) (N := 20) hx hb hts hinX9 hown hK hP hmo hFo_40 rfl 1 (by decide) (hts (.fieldLink RX9 7 "RopeDrumsModel" "laneOf" "[I") (by decide +kernel)) (fun _ h9 => h9) rfl dX9_reckon_53 ?_
          refine lv_iload_n hx hb dX9_reckon_56 rfl (lv_at hl 2 rfl) ?_
          refine pg_iald hx hb hK hP 1 hm0 hFqm0_40 rfl (vp_in_nI (by omega) (by decide)) dX9_reckon_57 ?_
          refine lv_topi (fun v101 ev101 => ?_)
          rw [nI_clamp (by omega)] at ev101
          refine lv_aload_n hx hb dX9_reckon_58 rfl (lv_at hl 0 rfl) ?_
          refine pg_get (ci := 8) (C := RX9) (T := TX9) (N := 20) hx hb hts hinX9 hown hK hP hmo hFo_40 rfl 1 (by decide) (hts (.fieldLink RX9 7 "RopeDrumsModel" "laneOf" "[I") (by decide +kernel)) (fun _ h9 => h9) rfl dX9_reckon_59 ?_
          refine lv_iload_n hx hb dX9_reckon_62 rfl (lv_at hl 3 rfl) ?_
          refine pg_iald hx hb hK hP 1 hm0 hFqm0_40 rfl (vp_in_nI (by omega) (by decide)) dX9_reckon_63 ?_
          refine lv_topi (fun v102 ev102 => ?_)
          rw [nI_clamp (by omega)] at ev102
          refine lv_icmp_le (tgt := 76) hx hb dX9_reckon_64 (by decide) (fun c103 => ?_) (fun c103 => ?_)
          · refine lv_aload_n hx hb dX9_reckon_76 rfl (lv_at hl 0 rfl) ?_
            refine pg_get (ci := 8) (C := RX9) (T := TX9) (N := 20) hx hb hts hinX9 hown hK hP hmo hFo_40 rfl 1 (by decide) (hts (.fieldLink RX9 7 "RopeDrumsModel" "laneOf" "[I") (by decide +kernel)) (fun _ h9 => h9) rfl dX9_reckon_77 ?_
            refine lv_iload_n hx hb dX9_reckon_80 rfl (lv_at hl 3 rfl) ?_
            refine pg_iald hx hb hK hP 1 hm0 hFqm0_40 rfl (vp_in_nI (by omega) (by decide)) dX9_reckon_81 ?_
            refine lv_topi (fun v104 ev104 => ?_)
            rw [nI_clamp (by omega)] at ev104
            exact K _ ((by have hc := c103; rw [ev101, ev102] at hc; rw [ev104]; exact (if_neg (Int32.not_lt.mpr hc)).symm))
          · refine lv_aload_n hx hb dX9_reckon_67 rfl (lv_at hl 0 rfl) ?_
            refine pg_get (ci := 8) (C := RX9) (T := TX9) (N := 20) hx hb hts hinX9 hown hK hP hmo hFo_40 rfl 1 (by decide) (hts (.fieldLink RX9 7 "RopeDrumsModel" "laneOf" "[I") (by decide +kernel)) (fun _ h9 => h9) rfl dX9_reckon_68 ?_
            refine lv_iload_n hx hb dX9_reckon_71 rfl (lv_at hl 2 rfl) ?_
            refine pg_iald hx hb hK hP 1 hm0 hFqm0_40 rfl (vp_in_nI (by omega) (by decide)) dX9_reckon_72 ?_
            refine lv_topi (fun v105 ev105 => ?_)
            rw [nI_clamp (by omega)] at ev105
            refine lv_goto (tgt := 82) hx hb dX9_reckon_73 (by decide) ?_
            exact K _ ((by have hc := c103; rw [ev101, ev102] at hc; rw [ev105]; exact (if_pos (Int32.not_le.mp hc)).symm))

set_option maxHeartbeats 8000000 in
set_option maxRecDepth 100000 in
theorem n_reckon_1 (l : Launch) (G : va_G) (cy : Nat → ClassId) (L : List Nat) (F : Nat → va_E) (sz : Nat) (o : Nat) (qm : Nat → Nat) (Mm : SM) (Dd : SD) (Sl : SL) (Pp : SP) (Kr : SR) (Bk : SB) (Xx : SX) (hR : RepM cy L o qm Mm Dd Sl Pp Kr Bk Xx F) (hV : Val Mm Dd Sl Pp Kr Bk) (x y into : Int32)  : Met l yX9_reckon wsX9_reckon ({ frames := 3, cells := 0, slots := 0, locals := 73 }) (va_Pc [.ref o, .int 1, .int x, .int y, .int into] (fun U => bQ G cy L F sz U U.heap)) (va_Qi (fun (r : Int32) (F' : Nat → va_E) => r = (sp_reckon Mm Xx 1 x y into).1 ∧ RepM cy L o qm (sp_reckon Mm Xx 1 x y into).2.1 Dd Sl Pp Kr Bk (sp_reckon Mm Xx 1 x y into).2.2 F') (fun F' t => va_P G vwCl (va_pl L F') t.heap) (va_A (va_pl L F) sz)) 0 0 (va_A (va_pl L F) sz) := by
  refine Met.ofW (cc := cX9_reckon) (maxL := 10) (ret := (some .int)) (by decide) rfl ?_
  intro p e s m args below meth c s₁ B hml hv
  obtain ⟨rfl, hsz, hP, hK, hD0⟩ := hv
  have hx := B.exec
  have hb := B.bytes
  have hr := B.returns
  have hts := atoms_spec (ws := wsX9_reckon) B.pre
  have hown : s.vm.findClass RX9 = some m.cls := findClass_of_methodNamed B.named
  have hlocks := B.notSynchronized
  have hinX9 : ∀ w ∈ wsX90, w ∈ wsX9_reckon := by decide +kernel
  subst hsz
  have hD := hD0.self F s.heap.size
  generalize hAe : va_A (va_pl L F) s.heap.size = A at hD ⊢
  have hA : ∀ q : Nat, s.heap.size ≤ q → A q := fun q h => by rw [← hAe]; exact Or.inr h
  have hS : va_S A s.heap s.heap [] := va_S.rf
  obtain ⟨⟨th, oc, hmo, hFo⟩, ⟨hm0, hF0⟩, ⟨hm1, hF1⟩, ⟨hm2, hF2⟩, ⟨hm3, hF3⟩, ⟨hm4, hF4⟩, ⟨hm5, hF5⟩, ⟨hm6, hF6⟩, ⟨hm7, hF7⟩, ⟨hm8, hF8⟩, ⟨hm9, hF9⟩, ⟨hm10, hF10⟩, ⟨hm11, hF11⟩, ⟨hm12, hF12⟩, ⟨hm13, hF13⟩, ⟨hm14, hF14⟩, ⟨hm15, hF15⟩, hne⟩ := id hR
  obtain ⟨hVM, hVD, hVS, hVP, hVK, hVB⟩ := hV
  have hl := lv_entry ([.ref o, .int 1, .int x, .int y, .int into]) (n := 10) (Nat.le_of_ble_eq_true rfl)
  rw [lg_entry_eq]
  generalize (lg_sl ([.ref o, .int 1, .int x, .int y, .int into]) ++ List.replicate (10 - (lg_sl ([.ref o, .int 1, .int x, .int y, .int into])).length) Slot.unset).toArray = ls at hl ⊢
  have hl : lv_has ls 10 [(0, .ref o), (1, .int 1), (2, .int x), (3, .int y), (4, .int into)] := hl
  rcases ixc 10 x with hi_x | ⟨j_x, hj_x, hi_x, ei_x⟩
  · rcases ixc 10 y with hi_y | ⟨j_y, hj_y, hi_y, ei_y⟩
    · rcases ixc 10 into with hi_into | ⟨j_into, hj_into, hi_into, ei_into⟩
      · refine lv_aload_n hx hb dX9_reckon_0 rfl (lv_at hl 0 rfl) ?_
        refine lv_iconst (v := 0) hx hb dX9_reckon_1 (by decide) ?_
        refine pg_put (ci := 8) (v := .int 0) (ty := .int) (C := RX9) (T := TX9) (N := 20) hx hb hts hinX9 tyX9 tyX9_ok nmX9 hown hK hP hD hS hmo hFo rfl 0 (by decide) (hts (.fieldLink RX9 61 "RopeDrumsModel" "thrown" "I") (by decide +kernel)) (fun _ h9 => h9) rfl (by decide +kernel) (rfl) (rfl) (Nat.le_of_ble_eq_true rfl) dX9_reckon_2 (fun H locs F1 eF1 hP hS => ?_)
        have eF1 : F1 = va_up F o (.inr (8, [.int 0, .ref (qm 0), .ref (qm 1), .ref (qm 2), .ref (qm 3), .ref (qm 4), .ref (qm 5), .ref (qm 6), .ref (qm 7), .int Pp.1, .ref (qm 8), .ref (qm 9), .ref (qm 10), .ref (qm 11), .ref (qm 12), .ref (qm 13), .ref (qm 14), .int Xx.1, .ref (qm 15), .long oc])) := eF1
        have hFo_1 : F1 o = .inr (8, [.int 0, .ref (qm 0), .ref (qm 1), .ref (qm 2), .ref (qm 3), .ref (qm 4), .ref (qm 5), .ref (qm 6), .ref (qm 7), .int Pp.1, .ref (qm 8), .ref (qm 9), .ref (qm 10), .ref (qm 11), .ref (qm 12), .ref (qm 13), .ref (qm 14), .int Xx.1, .ref (qm 15), .long oc]) := by rw [eF1]; exact va_up_self _ _ _
        have hFqm0_1 : F1 (qm 0) = cI (cy 1) 10 Mm.1 := by rw [eF1, va_up_ne _ _ (pl_ne hF0 hFo rfl)]; exact hF0
        have hFqm1_1 : F1 (qm 1) = cJ (cy 2) 10 Mm.2 := by rw [eF1, va_up_ne _ _ (pl_ne hF1 hFo rfl)]; exact hF1
        have hFqm2_1 : F1 (qm 2) = cD (cy 0) 6 Dd.1 := by rw [eF1, va_up_ne _ _ (pl_ne hF2 hFo rfl)]; exact hF2
        have hFqm3_1 : F1 (qm 3) = cD (cy 0) 6 Dd.2.1 := by rw [eF1, va_up_ne _ _ (pl_ne hF3 hFo rfl)]; exact hF3
        have hFqm4_1 : F1 (qm 4) = cD (cy 0) 6 Dd.2.2.1 := by rw [eF1, va_up_ne _ _ (pl_ne hF4 hFo rfl)]; exact hF4
        have hFqm5_1 : F1 (qm 5) = cJ (cy 2) 6 Dd.2.2.2 := by rw [eF1, va_up_ne _ _ (pl_ne hF5 hFo rfl)]; exact hF5
        have hFqm6_1 : F1 (qm 6) = cI (cy 1) 8 Sl.1 := by rw [eF1, va_up_ne _ _ (pl_ne hF6 hFo rfl)]; exact hF6
        have hFqm7_1 : F1 (qm 7) = cJ (cy 2) 128 Sl.2 := by rw [eF1, va_up_ne _ _ (pl_ne hF7 hFo rfl)]; exact hF7
        have hFqm8_1 : F1 (qm 8) = cI (cy 1) 30 Pp.2.1 := by rw [eF1, va_up_ne _ _ (pl_ne hF8 hFo rfl)]; exact hF8
        have hFqm9_1 : F1 (qm 9) = cI (cy 3) 30 Pp.2.2 := by rw [eF1, va_up_ne _ _ (pl_ne hF9 hFo rfl)]; exact hF9
        have hFqm10_1 : F1 (qm 10) = cI (cy 1) 5 Kr.1 := by rw [eF1, va_up_ne _ _ (pl_ne hF10 hFo rfl)]; exact hF10
        have hFqm11_1 : F1 (qm 11) = cI (cy 3) 5 Kr.2.1 := by rw [eF1, va_up_ne _ _ (pl_ne hF11 hFo rfl)]; exact hF11
        have hFqm12_1 : F1 (qm 12) = cI (cy 1) 60 Kr.2.2 := by rw [eF1, va_up_ne _ _ (pl_ne hF12 hFo rfl)]; exact hF12
        have hFqm13_1 : F1 (qm 13) = cI (cy 1) 4 Bk.1 := by rw [eF1, va_up_ne _ _ (pl_ne hF13 hFo rfl)]; exact hF13
        have hFqm14_1 : F1 (qm 14) = cD (cy 0) 4 Bk.2 := by rw [eF1, va_up_ne _ _ (pl_ne hF14 hFo rfl)]; exact hF14
        have hFqm15_1 : F1 (qm 15) = cI (cy 1) 6 Xx.2 := by rw [eF1, va_up_ne _ _ (pl_ne hF15 hFo rfl)]; exact hF15
        refine lv_iload_n hx hb dX9_reckon_5 rfl (lv_at hl 2 rfl) ?_
        refine vp_callSi (W.runS (As := [.int x]) (rest := []) ⟨hx, hb, hml, hown, hts⟩ (c9_isMeter l x) (va_cwS 1 hts gX9_reckon_X9_isMeter rfl rfl rfl (by decide +kernel) ⟨Nat.le_of_ble_eq_true rfl, Nat.le_of_ble_eq_true rfl⟩) (preS_of okT (trivial)) rfl rfl hl.1 rfl (lv_room (Nat.le_of_ble_eq_true rfl)) dX9_reckon_6 ⟨Nat.le_of_ble_eq_true rfl, Nat.le_of_ble_eq_true rfl⟩) (fun r2 hr2 => ?_)
        rw [isx0 hi_x] at hr2
        subst hr2
        refine lv_if_eq (tgt := 27) hx hb dX9_reckon_9 (by decide) (fun c3 => ?_) (fun c3 => absurd (by decide) c3)
        refine lv_sipush (v := -1001) hx hb dX9_reckon_27 (by decide) ?_
        exact W.iret (v := -1001) hx hb hr (fun t ht hW => ⟨⟨-1001, F1, rfl, (by have hsp : sp_reckon Mm Xx 1 x y into = (-1001, Mm, Xx) := (by unfold sp_reckon; rw [hi_x]); rw [hsp]; exact ⟨rfl, (by exact ⟨⟨_, _, hmo, hFo_1⟩, ⟨hm0, hFqm0_1⟩, ⟨hm1, hFqm1_1⟩, ⟨hm2, hFqm2_1⟩, ⟨hm3, hFqm3_1⟩, ⟨hm4, hFqm4_1⟩, ⟨hm5, hFqm5_1⟩, ⟨hm6, hFqm6_1⟩, ⟨hm7, hFqm7_1⟩, ⟨hm8, hFqm8_1⟩, ⟨hm9, hFqm9_1⟩, ⟨hm10, hFqm10_1⟩, ⟨hm11, hFqm11_1⟩, ⟨hm12, hFqm12_1⟩, ⟨hm13, hFqm13_1⟩, ⟨hm14, hFqm14_1⟩, ⟨hm15, hFqm15_1⟩, hne⟩)⟩), (by show va_P _ _ _ t.heap; rw [ht]; exact hP)⟩, hS.F ht⟩) hS.2.2 dX9_reckon_30
      · subst ei_into
        refine lv_aload_n hx hb dX9_reckon_0 rfl (lv_at hl 0 rfl) ?_
        refine lv_iconst (v := 0) hx hb dX9_reckon_1 (by decide) ?_
        refine pg_put (ci := 8) (v := .int 0) (ty := .int) (C := RX9) (T := TX9) (N := 20) hx hb hts hinX9 tyX9 tyX9_ok nmX9 hown hK hP hD hS hmo hFo rfl 0 (by decide) (hts (.fieldLink RX9 61 "RopeDrumsModel" "thrown" "I") (by decide +kernel)) (fun _ h9 => h9) rfl (by decide +kernel) (rfl) (rfl) (Nat.le_of_ble_eq_true rfl) dX9_reckon_2 (fun H locs F4 eF4 hP hS => ?_)
        have eF4 : F4 = va_up F o (.inr (8, [.int 0, .ref (qm 0), .ref (qm 1), .ref (qm 2), .ref (qm 3), .ref (qm 4), .ref (qm 5), .ref (qm 6), .ref (qm 7), .int Pp.1, .ref (qm 8), .ref (qm 9), .ref (qm 10), .ref (qm 11), .ref (qm 12), .ref (qm 13), .ref (qm 14), .int Xx.1, .ref (qm 15), .long oc])) := eF4
        have hFo_4 : F4 o = .inr (8, [.int 0, .ref (qm 0), .ref (qm 1), .ref (qm 2), .ref (qm 3), .ref (qm 4), .ref (qm 5), .ref (qm 6), .ref (qm 7), .int Pp.1, .ref (qm 8), .ref (qm 9), .ref (qm 10), .ref (qm 11), .ref (qm 12), .ref (qm 13), .ref (qm 14), .int Xx.1, .ref (qm 15), .long oc]) := by rw [eF4]; exact va_up_self _ _ _
        have hFqm0_4 : F4 (qm 0) = cI (cy 1) 10 Mm.1 := by rw [eF4, va_up_ne _ _ (pl_ne hF0 hFo rfl)]; exact hF0
        have hFqm1_4 : F4 (qm 1) = cJ (cy 2) 10 Mm.2 := by rw [eF4, va_up_ne _ _ (pl_ne hF1 hFo rfl)]; exact hF1
        have hFqm2_4 : F4 (qm 2) = cD (cy 0) 6 Dd.1 := by rw [eF4, va_up_ne _ _ (pl_ne hF2 hFo rfl)]; exact hF2
        have hFqm3_4 : F4 (qm 3) = cD (cy 0) 6 Dd.2.1 := by rw [eF4, va_up_ne _ _ (pl_ne hF3 hFo rfl)]; exact hF3
        have hFqm4_4 : F4 (qm 4) = cD (cy 0) 6 Dd.2.2.1 := by rw [eF4, va_up_ne _ _ (pl_ne hF4 hFo rfl)]; exact hF4
        have hFqm5_4 : F4 (qm 5) = cJ (cy 2) 6 Dd.2.2.2 := by rw [eF4, va_up_ne _ _ (pl_ne hF5 hFo rfl)]; exact hF5
        have hFqm6_4 : F4 (qm 6) = cI (cy 1) 8 Sl.1 := by rw [eF4, va_up_ne _ _ (pl_ne hF6 hFo rfl)]; exact hF6
        have hFqm7_4 : F4 (qm 7) = cJ (cy 2) 128 Sl.2 := by rw [eF4, va_up_ne _ _ (pl_ne hF7 hFo rfl)]; exact hF7
        have hFqm8_4 : F4 (qm 8) = cI (cy 1) 30 Pp.2.1 := by rw [eF4, va_up_ne _ _ (pl_ne hF8 hFo rfl)]; exact hF8
        have hFqm9_4 : F4 (qm 9) = cI (cy 3) 30 Pp.2.2 := by rw [eF4, va_up_ne _ _ (pl_ne hF9 hFo rfl)]; exact hF9
        have hFqm10_4 : F4 (qm 10) = cI (cy 1) 5 Kr.1 := by rw [eF4, va_up_ne _ _ (pl_ne hF10 hFo rfl)]; exact hF10
        have hFqm11_4 : F4 (qm 11) = cI (cy 3) 5 Kr.2.1 := by rw [eF4, va_up_ne _ _ (pl_ne hF11 hFo rfl)]; exact hF11
        have hFqm12_4 : F4 (qm 12) = cI (cy 1) 60 Kr.2.2 := by rw [eF4, va_up_ne _ _ (pl_ne hF12 hFo rfl)]; exact hF12
        have hFqm13_4 : F4 (qm 13) = cI (cy 1) 4 Bk.1 := by rw [eF4, va_up_ne _ _ (pl_ne hF13 hFo rfl)]; exact hF13
        have hFqm14_4 : F4 (qm 14) = cD (cy 0) 4 Bk.2 := by rw [eF4, va_up_ne _ _ (pl_ne hF14 hFo rfl)]; exact hF14
        have hFqm15_4 : F4 (qm 15) = cI (cy 1) 6 Xx.2 := by rw [eF4, va_up_ne _ _ (pl_ne hF15 hFo rfl)]; exact hF15
        refine lv_iload_n hx hb dX9_reckon_5 rfl (lv_at hl 2 rfl) ?_
        refine vp_callSi (W.runS (As := [.int x]) (rest := []) ⟨hx, hb, hml, hown, hts⟩ (c9_isMeter l x) (va_cwS 1 hts gX9_reckon_X9_isMeter rfl rfl rfl (by decide +kernel) ⟨Nat.le_of_ble_eq_true rfl, Nat.le_of_ble_eq_true rfl⟩) (preS_of okT (trivial)) rfl rfl hl.1 rfl (lv_room (Nat.le_of_ble_eq_true rfl)) dX9_reckon_6 ⟨Nat.le_of_ble_eq_true rfl, Nat.le_of_ble_eq_true rfl⟩) (fun r5 hr5 => ?_)
        rw [isx0 hi_x] at hr5
        subst hr5
        refine lv_if_eq (tgt := 27) hx hb dX9_reckon_9 (by decide) (fun c6 => ?_) (fun c6 => absurd (by decide) c6)
        refine lv_sipush (v := -1001) hx hb dX9_reckon_27 (by decide) ?_
        exact W.iret (v := -1001) hx hb hr (fun t ht hW => ⟨⟨-1001, F4, rfl, (by have hsp : sp_reckon Mm Xx 1 x y (nI j_into) = (-1001, Mm, Xx) := (by unfold sp_reckon; rw [hi_x]); rw [hsp]; exact ⟨rfl, (by exact ⟨⟨_, _, hmo, hFo_4⟩, ⟨hm0, hFqm0_4⟩, ⟨hm1, hFqm1_4⟩, ⟨hm2, hFqm2_4⟩, ⟨hm3, hFqm3_4⟩, ⟨hm4, hFqm4_4⟩, ⟨hm5, hFqm5_4⟩, ⟨hm6, hFqm6_4⟩, ⟨hm7, hFqm7_4⟩, ⟨hm8, hFqm8_4⟩, ⟨hm9, hFqm9_4⟩, ⟨hm10, hFqm10_4⟩, ⟨hm11, hFqm11_4⟩, ⟨hm12, hFqm12_4⟩, ⟨hm13, hFqm13_4⟩, ⟨hm14, hFqm14_4⟩, ⟨hm15, hFqm15_4⟩, hne⟩)⟩), (by show va_P _ _ _ t.heap; rw [ht]; exact hP)⟩, hS.F ht⟩) hS.2.2 dX9_reckon_30
    · subst ei_y
      rcases ixc 10 into with hi_into | ⟨j_into, hj_into, hi_into, ei_into⟩
      · refine lv_aload_n hx hb dX9_reckon_0 rfl (lv_at hl 0 rfl) ?_
        refine lv_iconst (v := 0) hx hb dX9_reckon_1 (by decide) ?_
        refine pg_put (ci := 8) (v := .int 0) (ty := .int) (C := RX9) (T := TX9) (N := 20) hx hb hts hinX9 tyX9 tyX9_ok nmX9 hown hK hP hD hS hmo hFo rfl 0 (by decide) (hts (.fieldLink RX9 61 "RopeDrumsModel" "thrown" "I") (by decide +kernel)) (fun _ h9 => h9) rfl (by decide +kernel) (rfl) (rfl) (Nat.le_of_ble_eq_true rfl) dX9_reckon_2 (fun H locs F7 eF7 hP hS => ?_)
        have eF7 : F7 = va_up F o (.inr (8, [.int 0, .ref (qm 0), .ref (qm 1), .ref (qm 2), .ref (qm 3), .ref (qm 4), .ref (qm 5), .ref (qm 6), .ref (qm 7), .int Pp.1, .ref (qm 8), .ref (qm 9), .ref (qm 10), .ref (qm 11), .ref (qm 12), .ref (qm 13), .ref (qm 14), .int Xx.1, .ref (qm 15), .long oc])) := eF7
        have hFo_7 : F7 o = .inr (8, [.int 0, .ref (qm 0), .ref (qm 1), .ref (qm 2), .ref (qm 3), .ref (qm 4), .ref (qm 5), .ref (qm 6), .ref (qm 7), .int Pp.1, .ref (qm 8), .ref (qm 9), .ref (qm 10), .ref (qm 11), .ref (qm 12), .ref (qm 13), .ref (qm 14), .int Xx.1, .ref (qm 15), .long oc]) := by rw [eF7]; exact va_up_self _ _ _
        have hFqm0_7 : F7 (qm 0) = cI (cy 1) 10 Mm.1 := by rw [eF7, va_up_ne _ _ (pl_ne hF0 hFo rfl)]; exact hF0
        have hFqm1_7 : F7 (qm 1) = cJ (cy 2) 10 Mm.2 := by rw [eF7, va_up_ne _ _ (pl_ne hF1 hFo rfl)]; exact hF1
        have hFqm2_7 : F7 (qm 2) = cD (cy 0) 6 Dd.1 := by rw [eF7, va_up_ne _ _ (pl_ne hF2 hFo rfl)]; exact hF2
        have hFqm3_7 : F7 (qm 3) = cD (cy 0) 6 Dd.2.1 := by rw [eF7, va_up_ne _ _ (pl_ne hF3 hFo rfl)]; exact hF3
        have hFqm4_7 : F7 (qm 4) = cD (cy 0) 6 Dd.2.2.1 := by rw [eF7, va_up_ne _ _ (pl_ne hF4 hFo rfl)]; exact hF4
        have hFqm5_7 : F7 (qm 5) = cJ (cy 2) 6 Dd.2.2.2 := by rw [eF7, va_up_ne _ _ (pl_ne hF5 hFo rfl)]; exact hF5
        have hFqm6_7 : F7 (qm 6) = cI (cy 1) 8 Sl.1 := by rw [eF7, va_up_ne _ _ (pl_ne hF6 hFo rfl)]; exact hF6
        have hFqm7_7 : F7 (qm 7) = cJ (cy 2) 128 Sl.2 := by rw [eF7, va_up_ne _ _ (pl_ne hF7 hFo rfl)]; exact hF7
        have hFqm8_7 : F7 (qm 8) = cI (cy 1) 30 Pp.2.1 := by rw [eF7, va_up_ne _ _ (pl_ne hF8 hFo rfl)]; exact hF8
        have hFqm9_7 : F7 (qm 9) = cI (cy 3) 30 Pp.2.2 := by rw [eF7, va_up_ne _ _ (pl_ne hF9 hFo rfl)]; exact hF9
        have hFqm10_7 : F7 (qm 10) = cI (cy 1) 5 Kr.1 := by rw [eF7, va_up_ne _ _ (pl_ne hF10 hFo rfl)]; exact hF10
        have hFqm11_7 : F7 (qm 11) = cI (cy 3) 5 Kr.2.1 := by rw [eF7, va_up_ne _ _ (pl_ne hF11 hFo rfl)]; exact hF11
        have hFqm12_7 : F7 (qm 12) = cI (cy 1) 60 Kr.2.2 := by rw [eF7, va_up_ne _ _ (pl_ne hF12 hFo rfl)]; exact hF12
        have hFqm13_7 : F7 (qm 13) = cI (cy 1) 4 Bk.1 := by rw [eF7, va_up_ne _ _ (pl_ne hF13 hFo rfl)]; exact hF13
        have hFqm14_7 : F7 (qm 14) = cD (cy 0) 4 Bk.2 := by rw [eF7, va_up_ne _ _ (pl_ne hF14 hFo rfl)]; exact hF14
        have hFqm15_7 : F7 (qm 15) = cI (cy 1) 6 Xx.2 := by rw [eF7, va_up_ne _ _ (pl_ne hF15 hFo rfl)]; exact hF15
        refine lv_iload_n hx hb dX9_reckon_5 rfl (lv_at hl 2 rfl) ?_
        refine vp_callSi (W.runS (As := [.int x]) (rest := []) ⟨hx, hb, hml, hown, hts⟩ (c9_isMeter l x) (va_cwS 1 hts gX9_reckon_X9_isMeter rfl rfl rfl (by decide +kernel) ⟨Nat.le_of_ble_eq_true rfl, Nat.le_of_ble_eq_true rfl⟩) (preS_of okT (trivial)) rfl rfl hl.1 rfl (lv_room (Nat.le_of_ble_eq_true rfl)) dX9_reckon_6 ⟨Nat.le_of_ble_eq_true rfl, Nat.le_of_ble_eq_true rfl⟩) (fun r8 hr8 => ?_)
        rw [isx0 hi_x] at hr8
        subst hr8
        refine lv_if_eq (tgt := 27) hx hb dX9_reckon_9 (by decide) (fun c9 => ?_) (fun c9 => absurd (by decide) c9)
        refine lv_sipush (v := -1001) hx hb dX9_reckon_27 (by decide) ?_
        exact W.iret (v := -1001) hx hb hr (fun t ht hW => ⟨⟨-1001, F7, rfl, (by have hsp : sp_reckon Mm Xx 1 x (nI j_y) into = (-1001, Mm, Xx) := (by unfold sp_reckon; rw [hi_x]); rw [hsp]; exact ⟨rfl, (by exact ⟨⟨_, _, hmo, hFo_7⟩, ⟨hm0, hFqm0_7⟩, ⟨hm1, hFqm1_7⟩, ⟨hm2, hFqm2_7⟩, ⟨hm3, hFqm3_7⟩, ⟨hm4, hFqm4_7⟩, ⟨hm5, hFqm5_7⟩, ⟨hm6, hFqm6_7⟩, ⟨hm7, hFqm7_7⟩, ⟨hm8, hFqm8_7⟩, ⟨hm9, hFqm9_7⟩, ⟨hm10, hFqm10_7⟩, ⟨hm11, hFqm11_7⟩, ⟨hm12, hFqm12_7⟩, ⟨hm13, hFqm13_7⟩, ⟨hm14, hFqm14_7⟩, ⟨hm15, hFqm15_7⟩, hne⟩)⟩), (by show va_P _ _ _ t.heap; rw [ht]; exact hP)⟩, hS.F ht⟩) hS.2.2 dX9_reckon_30
      · subst ei_into
        refine lv_aload_n hx hb dX9_reckon_0 rfl (lv_at hl 0 rfl) ?_
        refine lv_iconst (v := 0) hx hb dX9_reckon_1 (by decide) ?_
        refine pg_put (ci := 8) (v := .int 0) (ty := .int) (C := RX9) (T := TX9) (N := 20) hx hb hts hinX9 tyX9 tyX9_ok nmX9 hown hK hP hD hS hmo hFo rfl 0 (by decide) (hts (.fieldLink RX9 61 "RopeDrumsModel" "thrown" "I") (by decide +kernel)) (fun _ h9 => h9) rfl (by decide +kernel) (rfl) (rfl) (Nat.le_of_ble_eq_true rfl) dX9_reckon_2 (fun H locs F10 eF10 hP hS => ?_)
        have eF10 : F10 = va_up F o (.inr (8, [.int 0, .ref (qm 0), .ref (qm 1), .ref (qm 2), .ref (qm 3), .ref (qm 4), .ref (qm 5), .ref (qm 6), .ref (qm 7), .int Pp.1, .ref (qm 8), .ref (qm 9), .ref (qm 10), .ref (qm 11), .ref (qm 12), .ref (qm 13), .ref (qm 14), .int Xx.1, .ref (qm 15), .long oc])) := eF10
        have hFo_10 : F10 o = .inr (8, [.int 0, .ref (qm 0), .ref (qm 1), .ref (qm 2), .ref (qm 3), .ref (qm 4), .ref (qm 5), .ref (qm 6), .ref (qm 7), .int Pp.1, .ref (qm 8), .ref (qm 9), .ref (qm 10), .ref (qm 11), .ref (qm 12), .ref (qm 13), .ref (qm 14), .int Xx.1, .ref (qm 15), .long oc]) := by rw [eF10]; exact va_up_self _ _ _
        have hFqm0_10 : F10 (qm 0) = cI (cy 1) 10 Mm.1 := by rw [eF10, va_up_ne _ _ (pl_ne hF0 hFo rfl)]; exact hF0
        have hFqm1_10 : F10 (qm 1) = cJ (cy 2) 10 Mm.2 := by rw [eF10, va_up_ne _ _ (pl_ne hF1 hFo rfl)]; exact hF1
        have hFqm2_10 : F10 (qm 2) = cD (cy 0) 6 Dd.1 := by rw [eF10, va_up_ne _ _ (pl_ne hF2 hFo rfl)]; exact hF2
        have hFqm3_10 : F10 (qm 3) = cD (cy 0) 6 Dd.2.1 := by rw [eF10, va_up_ne _ _ (pl_ne hF3 hFo rfl)]; exact hF3
        have hFqm4_10 : F10 (qm 4) = cD (cy 0) 6 Dd.2.2.1 := by rw [eF10, va_up_ne _ _ (pl_ne hF4 hFo rfl)]; exact hF4
        have hFqm5_10 : F10 (qm 5) = cJ (cy 2) 6 Dd.2.2.2 := by rw [eF10, va_up_ne _ _ (pl_ne hF5 hFo rfl)]; exact hF5
        have hFqm6_10 : F10 (qm 6) = cI (cy 1) 8 Sl.1 := by rw [eF10, va_up_ne _ _ (pl_ne hF6 hFo rfl)]; exact hF6
        have hFqm7_10 : F10 (qm 7) = cJ (cy 2) 128 Sl.2 := by rw [eF10, va_up_ne _ _ (pl_ne hF7 hFo rfl)]; exact hF7
        have hFqm8_10 : F10 (qm 8) = cI (cy 1) 30 Pp.2.1 := by rw [eF10, va_up_ne _ _ (pl_ne hF8 hFo rfl)]; exact hF8
        have hFqm9_10 : F10 (qm 9) = cI (cy 3) 30 Pp.2.2 := by rw [eF10, va_up_ne _ _ (pl_ne hF9 hFo rfl)]; exact hF9
        have hFqm10_10 : F10 (qm 10) = cI (cy 1) 5 Kr.1 := by rw [eF10, va_up_ne _ _ (pl_ne hF10 hFo rfl)]; exact hF10
        have hFqm11_10 : F10 (qm 11) = cI (cy 3) 5 Kr.2.1 := by rw [eF10, va_up_ne _ _ (pl_ne hF11 hFo rfl)]; exact hF11
        have hFqm12_10 : F10 (qm 12) = cI (cy 1) 60 Kr.2.2 := by rw [eF10, va_up_ne _ _ (pl_ne hF12 hFo rfl)]; exact hF12
        have hFqm13_10 : F10 (qm 13) = cI (cy 1) 4 Bk.1 := by rw [eF10, va_up_ne _ _ (pl_ne hF13 hFo rfl)]; exact hF13
        have hFqm14_10 : F10 (qm 14) = cD (cy 0) 4 Bk.2 := by rw [eF10, va_up_ne _ _ (pl_ne hF14 hFo rfl)]; exact hF14
        have hFqm15_10 : F10 (qm 15) = cI (cy 1) 6 Xx.2 := by rw [eF10, va_up_ne _ _ (pl_ne hF15 hFo rfl)]; exact hF15
        refine lv_iload_n hx hb dX9_reckon_5 rfl (lv_at hl 2 rfl) ?_
        refine vp_callSi (W.runS (As := [.int x]) (rest := []) ⟨hx, hb, hml, hown, hts⟩ (c9_isMeter l x) (va_cwS 1 hts gX9_reckon_X9_isMeter rfl rfl rfl (by decide +kernel) ⟨Nat.le_of_ble_eq_true rfl, Nat.le_of_ble_eq_true rfl⟩) (preS_of okT (trivial)) rfl rfl hl.1 rfl (lv_room (Nat.le_of_ble_eq_true rfl)) dX9_reckon_6 ⟨Nat.le_of_ble_eq_true rfl, Nat.le_of_ble_eq_true rfl⟩) (fun r11 hr11 => ?_)
        rw [isx0 hi_x] at hr11
        subst hr11
        refine lv_if_eq (tgt := 27) hx hb dX9_reckon_9 (by decide) (fun c12 => ?_) (fun c12 => absurd (by decide) c12)
        refine lv_sipush (v := -1001) hx hb dX9_reckon_27 (by decide) ?_
        exact W.iret (v := -1001) hx hb hr (fun t ht hW => ⟨⟨-1001, F10, rfl, (by have hsp : sp_reckon Mm Xx 1 x (nI j_y) (nI j_into) = (-1001, Mm, Xx) := (by unfold sp_reckon; rw [hi_x]); rw [hsp]; exact ⟨rfl, (by exact ⟨⟨_, _, hmo, hFo_10⟩, ⟨hm0, hFqm0_10⟩, ⟨hm1, hFqm1_10⟩, ⟨hm2, hFqm2_10⟩, ⟨hm3, hFqm3_10⟩, ⟨hm4, hFqm4_10⟩, ⟨hm5, hFqm5_10⟩, ⟨hm6, hFqm6_10⟩, ⟨hm7, hFqm7_10⟩, ⟨hm8, hFqm8_10⟩, ⟨hm9, hFqm9_10⟩, ⟨hm10, hFqm10_10⟩, ⟨hm11, hFqm11_10⟩, ⟨hm12, hFqm12_10⟩, ⟨hm13, hFqm13_10⟩, ⟨hm14, hFqm14_10⟩, ⟨hm15, hFqm15_10⟩, hne⟩)⟩), (by show va_P _ _ _ t.heap; rw [ht]; exact hP)⟩, hS.F ht⟩) hS.2.2 dX9_reckon_30
  · subst ei_x
    rcases ixc 10 y with hi_y | ⟨j_y, hj_y, hi_y, ei_y⟩
    · rcases ixc 10 into with hi_into | ⟨j_into, hj_into, hi_into, ei_into⟩
      · refine lv_aload_n hx hb dX9_reckon_0 rfl (lv_at hl 0 rfl) ?_
        refine lv_iconst (v := 0) hx hb dX9_reckon_1 (by decide) ?_
        refine pg_put (ci := 8) (v := .int 0) (ty := .int) (C := RX9) (T := TX9) (N := 20) hx hb hts hinX9 tyX9 tyX9_ok nmX9 hown hK hP hD hS hmo hFo rfl 0 (by decide) (hts (.fieldLink RX9 61 "RopeDrumsModel" "thrown" "I") (by decide +kernel)) (fun _ h9 => h9) rfl (by decide +kernel) (rfl) (rfl) (Nat.le_of_ble_eq_true rfl) dX9_reckon_2 (fun H locs F13 eF13 hP hS => ?_)
        have eF13 : F13 = va_up F o (.inr (8, [.int 0, .ref (qm 0), .ref (qm 1), .ref (qm 2), .ref (qm 3), .ref (qm 4), .ref (qm 5), .ref (qm 6), .ref (qm 7), .int Pp.1, .ref (qm 8), .ref (qm 9), .ref (qm 10), .ref (qm 11), .ref (qm 12), .ref (qm 13), .ref (qm 14), .int Xx.1, .ref (qm 15), .long oc])) := eF13
        have hFo_13 : F13 o = .inr (8, [.int 0, .ref (qm 0), .ref (qm 1), .ref (qm 2), .ref (qm 3), .ref (qm 4), .ref (qm 5), .ref (qm 6), .ref (qm 7), .int Pp.1, .ref (qm 8), .ref (qm 9), .ref (qm 10), .ref (qm 11), .ref (qm 12), .ref (qm 13), .ref (qm 14), .int Xx.1, .ref (qm 15), .long oc]) := by rw [eF13]; exact va_up_self _ _ _
        have hFqm0_13 : F13 (qm 0) = cI (cy 1) 10 Mm.1 := by rw [eF13, va_up_ne _ _ (pl_ne hF0 hFo rfl)]; exact hF0
        have hFqm1_13 : F13 (qm 1) = cJ (cy 2) 10 Mm.2 := by rw [eF13, va_up_ne _ _ (pl_ne hF1 hFo rfl)]; exact hF1
        have hFqm2_13 : F13 (qm 2) = cD (cy 0) 6 Dd.1 := by rw [eF13, va_up_ne _ _ (pl_ne hF2 hFo rfl)]; exact hF2
        have hFqm3_13 : F13 (qm 3) = cD (cy 0) 6 Dd.2.1 := by rw [eF13, va_up_ne _ _ (pl_ne hF3 hFo rfl)]; exact hF3
        have hFqm4_13 : F13 (qm 4) = cD (cy 0) 6 Dd.2.2.1 := by rw [eF13, va_up_ne _ _ (pl_ne hF4 hFo rfl)]; exact hF4
        have hFqm5_13 : F13 (qm 5) = cJ (cy 2) 6 Dd.2.2.2 := by rw [eF13, va_up_ne _ _ (pl_ne hF5 hFo rfl)]; exact hF5
        have hFqm6_13 : F13 (qm 6) = cI (cy 1) 8 Sl.1 := by rw [eF13, va_up_ne _ _ (pl_ne hF6 hFo rfl)]; exact hF6
        have hFqm7_13 : F13 (qm 7) = cJ (cy 2) 128 Sl.2 := by rw [eF13, va_up_ne _ _ (pl_ne hF7 hFo rfl)]; exact hF7
        have hFqm8_13 : F13 (qm 8) = cI (cy 1) 30 Pp.2.1 := by rw [eF13, va_up_ne _ _ (pl_ne hF8 hFo rfl)]; exact hF8
        have hFqm9_13 : F13 (qm 9) = cI (cy 3) 30 Pp.2.2 := by rw [eF13, va_up_ne _ _ (pl_ne hF9 hFo rfl)]; exact hF9
        have hFqm10_13 : F13 (qm 10) = cI (cy 1) 5 Kr.1 := by rw [eF13, va_up_ne _ _ (pl_ne hF10 hFo rfl)]; exact hF10
        have hFqm11_13 : F13 (qm 11) = cI (cy 3) 5 Kr.2.1 := by rw [eF13, va_up_ne _ _ (pl_ne hF11 hFo rfl)]; exact hF11
        have hFqm12_13 : F13 (qm 12) = cI (cy 1) 60 Kr.2.2 := by rw [eF13, va_up_ne _ _ (pl_ne hF12 hFo rfl)]; exact hF12
        have hFqm13_13 : F13 (qm 13) = cI (cy 1) 4 Bk.1 := by rw [eF13, va_up_ne _ _ (pl_ne hF13 hFo rfl)]; exact hF13
        have hFqm14_13 : F13 (qm 14) = cD (cy 0) 4 Bk.2 := by rw [eF13, va_up_ne _ _ (pl_ne hF14 hFo rfl)]; exact hF14
        have hFqm15_13 : F13 (qm 15) = cI (cy 1) 6 Xx.2 := by rw [eF13, va_up_ne _ _ (pl_ne hF15 hFo rfl)]; exact hF15
        refine lv_iload_n hx hb dX9_reckon_5 rfl (lv_at hl 2 rfl) ?_
        refine vp_callSi (W.runS (As := [.int (nI j_x)]) (rest := []) ⟨hx, hb, hml, hown, hts⟩ (c9_isMeter l (nI j_x)) (va_cwS 1 hts gX9_reckon_X9_isMeter rfl rfl rfl (by decide +kernel) ⟨Nat.le_of_ble_eq_true rfl, Nat.le_of_ble_eq_true rfl⟩) (preS_of okT (trivial)) rfl rfl hl.1 rfl (lv_room (Nat.le_of_ble_eq_true rfl)) dX9_reckon_6 ⟨Nat.le_of_ble_eq_true rfl, Nat.le_of_ble_eq_true rfl⟩) (fun r14 hr14 => ?_)
        rw [isx1 hi_x] at hr14
        subst hr14
        refine lv_if_eq (tgt := 27) hx hb dX9_reckon_9 (by decide) (fun c15 => absurd c15 (by decide)) (fun c15 => ?_)
        refine lv_iload_n hx hb dX9_reckon_12 rfl (lv_at hl 3 rfl) ?_
        refine vp_callSi (W.runS (As := [.int y]) (rest := []) ⟨hx, hb, hml, hown, hts⟩ (c9_isMeter l y) (va_cwS 1 hts gX9_reckon_X9_isMeter rfl rfl rfl (by decide +kernel) ⟨Nat.le_of_ble_eq_true rfl, Nat.le_of_ble_eq_true rfl⟩) (preS_of okT (trivial)) rfl rfl hl.1 rfl (lv_room (Nat.le_of_ble_eq_true rfl)) dX9_reckon_13 ⟨Nat.le_of_ble_eq_true rfl, Nat.le_of_ble_eq_true rfl⟩) (fun r16 hr16 => ?_)
        rw [isx0 hi_y] at hr16
        subst hr16
        refine lv_if_eq (tgt := 27) hx hb dX9_reckon_16 (by decide) (fun c17 => ?_) (fun c17 => absurd (by decide) c17)
        refine lv_sipush (v := -1001) hx hb dX9_reckon_27 (by decide) ?_
        exact W.iret (v := -1001) hx hb hr (fun t ht hW => ⟨⟨-1001, F13, rfl, (by have hsp : sp_reckon Mm Xx 1 (nI j_x) y into = (-1001, Mm, Xx) := (by unfold sp_reckon; rw [hi_x, hi_y]); rw [hsp]; exact ⟨rfl, (by exact ⟨⟨_, _, hmo, hFo_13⟩, ⟨hm0, hFqm0_13⟩, ⟨hm1, hFqm1_13⟩, ⟨hm2, hFqm2_13⟩, ⟨hm3, hFqm3_13⟩, ⟨hm4, hFqm4_13⟩, ⟨hm5, hFqm5_13⟩, ⟨hm6, hFqm6_13⟩, ⟨hm7, hFqm7_13⟩, ⟨hm8, hFqm8_13⟩, ⟨hm9, hFqm9_13⟩, ⟨hm10, hFqm10_13⟩, ⟨hm11, hFqm11_13⟩, ⟨hm12, hFqm12_13⟩, ⟨hm13, hFqm13_13⟩, ⟨hm14, hFqm14_13⟩, ⟨hm15, hFqm15_13⟩, hne⟩)⟩), (by show va_P _ _ _ t.heap; rw [ht]; exact hP)⟩, hS.F ht⟩) hS.2.2 dX9_reckon_30
      · subst ei_into
        refine lv_aload_n hx hb dX9_reckon_0 rfl (lv_at hl 0 rfl) ?_
        refine lv_iconst (v := 0) hx hb dX9_reckon_1 (by decide) ?_
        refine pg_put (ci := 8) (v := .int 0) (ty := .int) (C := RX9) (T := TX9) (N := 20) hx hb hts hinX9 tyX9 tyX9_ok nmX9 hown hK hP hD hS hmo hFo rfl 0 (by decide) (hts (.fieldLink RX9 61 "RopeDrumsModel" "thrown" "I") (by decide +kernel)) (fun _ h9 => h9) rfl (by decide +kernel) (rfl) (rfl) (Nat.le_of_ble_eq_true rfl) dX9_reckon_2 (fun H locs F18 eF18 hP hS => ?_)
        have eF18 : F18 = va_up F o (.inr (8, [.int 0, .ref (qm 0), .ref (qm 1), .ref (qm 2), .ref (qm 3), .ref (qm 4), .ref (qm 5), .ref (qm 6), .ref (qm 7), .int Pp.1, .ref (qm 8), .ref (qm 9), .ref (qm 10), .ref (qm 11), .ref (qm 12), .ref (qm 13), .ref (qm 14), .int Xx.1, .ref (qm 15), .long oc])) := eF18
        have hFo_18 : F18 o = .inr (8, [.int 0, .ref (qm 0), .ref (qm 1), .ref (qm 2), .ref (qm 3), .ref (qm 4), .ref (qm 5), .ref (qm 6), .ref (qm 7), .int Pp.1, .ref (qm 8), .ref (qm 9), .ref (qm 10), .ref (qm 11), .ref (qm 12), .ref (qm 13), .ref (qm 14), .int Xx.1, .ref (qm 15), .long oc]) := by rw [eF18]; exact va_up_self _ _ _
        have hFqm0_18 : F18 (qm 0) = cI (cy 1) 10 Mm.1 := by rw [eF18, va_up_ne _ _ (pl_ne hF0 hFo rfl)]; exact hF0
        have hFqm1_18 : F18 (qm 1) = cJ (cy 2) 10 Mm.2 := by rw [eF18, va_up_ne _ _ (pl_ne hF1 hFo rfl)]; exact hF1
        have hFqm2_18 : F18 (qm 2) = cD (cy 0) 6 Dd.1 := by rw [eF18, va_up_ne _ _ (pl_ne hF2 hFo rfl)]; exact hF2
        have hFqm3_18 : F18 (qm 3) = cD (cy 0) 6 Dd.2.1 := by rw [eF18, va_up_ne _ _ (pl_ne hF3 hFo rfl)]; exact hF3
        have hFqm4_18 : F18 (qm 4) = cD (cy 0) 6 Dd.2.2.1 := by rw [eF18, va_up_ne _ _ (pl_ne hF4 hFo rfl)]; exact hF4
        have hFqm5_18 : F18 (qm 5) = cJ (cy 2) 6 Dd.2.2.2 := by rw [eF18, va_up_ne _ _ (pl_ne hF5 hFo rfl)]; exact hF5
        have hFqm6_18 : F18 (qm 6) = cI (cy 1) 8 Sl.1 := by rw [eF18, va_up_ne _ _ (pl_ne hF6 hFo rfl)]; exact hF6
        have hFqm7_18 : F18 (qm 7) = cJ (cy 2) 128 Sl.2 := by rw [eF18, va_up_ne _ _ (pl_ne hF7 hFo rfl)]; exact hF7
        have hFqm8_18 : F18 (qm 8) = cI (cy 1) 30 Pp.2.1 := by rw [eF18, va_up_ne _ _ (pl_ne hF8 hFo rfl)]; exact hF8
        have hFqm9_18 : F18 (qm 9) = cI (cy 3) 30 Pp.2.2 := by rw [eF18, va_up_ne _ _ (pl_ne hF9 hFo rfl)]; exact hF9
        have hFqm10_18 : F18 (qm 10) = cI (cy 1) 5 Kr.1 := by rw [eF18, va_up_ne _ _ (pl_ne hF10 hFo rfl)]; exact hF10
        have hFqm11_18 : F18 (qm 11) = cI (cy 3) 5 Kr.2.1 := by rw [eF18, va_up_ne _ _ (pl_ne hF11 hFo rfl)]; exact hF11
        have hFqm12_18 : F18 (qm 12) = cI (cy 1) 60 Kr.2.2 := by rw [eF18, va_up_ne _ _ (pl_ne hF12 hFo rfl)]; exact hF12
        have hFqm13_18 : F18 (qm 13) = cI (cy 1) 4 Bk.1 := by rw [eF18, va_up_ne _ _ (pl_ne hF13 hFo rfl)]; exact hF13
        have hFqm14_18 : F18 (qm 14) = cD (cy 0) 4 Bk.2 := by rw [eF18, va_up_ne _ _ (pl_ne hF14 hFo rfl)]; exact hF14
        have hFqm15_18 : F18 (qm 15) = cI (cy 1) 6 Xx.2 := by rw [eF18, va_up_ne _ _ (pl_ne hF15 hFo rfl)]; exact hF15
        refine lv_iload_n hx hb dX9_reckon_5 rfl (lv_at hl 2 rfl) ?_
        refine vp_callSi (W.runS (As := [.int (nI j_x)]) (rest := []) ⟨hx, hb, hml, hown, hts⟩ (c9_isMeter l (nI j_x)) (va_cwS 1 hts gX9_reckon_X9_isMeter rfl rfl rfl (by decide +kernel) ⟨Nat.le_of_ble_eq_true rfl, Nat.le_of_ble_eq_true rfl⟩) (preS_of okT (trivial)) rfl rfl hl.1 rfl (lv_room (Nat.le_of_ble_eq_true rfl)) dX9_reckon_6 ⟨Nat.le_of_ble_eq_true rfl, Nat.le_of_ble_eq_true rfl⟩) (fun r19 hr19 => ?_)
        rw [isx1 hi_x] at hr19
        subst hr19
        refine lv_if_eq (tgt := 27) hx hb dX9_reckon_9 (by decide) (fun c20 => absurd c20 (by decide)) (fun c20 => ?_)
        refine lv_iload_n hx hb dX9_reckon_12 rfl (lv_at hl 3 rfl) ?_
        refine vp_callSi (W.runS (As := [.int y]) (rest := []) ⟨hx, hb, hml, hown, hts⟩ (c9_isMeter l y) (va_cwS 1 hts gX9_reckon_X9_isMeter rfl rfl rfl (by decide +kernel) ⟨Nat.le_of_ble_eq_true rfl, Nat.le_of_ble_eq_true rfl⟩) (preS_of okT (trivial)) rfl rfl hl.1 rfl (lv_room (Nat.le_of_ble_eq_true rfl)) dX9_reckon_13 ⟨Nat.le_of_ble_eq_true rfl, Nat.le_of_ble_eq_true rfl⟩) (fun r21 hr21 => ?_)
        rw [isx0 hi_y] at hr21
        subst hr21
        refine lv_if_eq (tgt := 27) hx hb dX9_reckon_16 (by decide) (fun c22 => ?_) (fun c22 => absurd (by decide) c22)
        refine lv_sipush (v := -1001) hx hb dX9_reckon_27 (by decide) ?_
        exact W.iret (v := -1001) hx hb hr (fun t ht hW => ⟨⟨-1001, F18, rfl, (by have hsp : sp_reckon Mm Xx 1 (nI j_x) y (nI j_into) = (-1001, Mm, Xx) := (by unfold sp_reckon; rw [hi_x, hi_y]); rw [hsp]; exact ⟨rfl, (by exact ⟨⟨_, _, hmo, hFo_18⟩, ⟨hm0, hFqm0_18⟩, ⟨hm1, hFqm1_18⟩, ⟨hm2, hFqm2_18⟩, ⟨hm3, hFqm3_18⟩, ⟨hm4, hFqm4_18⟩, ⟨hm5, hFqm5_18⟩, ⟨hm6, hFqm6_18⟩, ⟨hm7, hFqm7_18⟩, ⟨hm8, hFqm8_18⟩, ⟨hm9, hFqm9_18⟩, ⟨hm10, hFqm10_18⟩, ⟨hm11, hFqm11_18⟩, ⟨hm12, hFqm12_18⟩, ⟨hm13, hFqm13_18⟩, ⟨hm14, hFqm14_18⟩, ⟨hm15, hFqm15_18⟩, hne⟩)⟩), (by show va_P _ _ _ t.heap; rw [ht]; exact hP)⟩, hS.F ht⟩) hS.2.2 dX9_reckon_30
    · subst ei_y
      rcases ixc 10 into with hi_into | ⟨j_into, hj_into, hi_into, ei_into⟩
      · refine lv_aload_n hx hb dX9_reckon_0 rfl (lv_at hl 0 rfl) ?_
        refine lv_iconst (v := 0) hx hb dX9_reckon_1 (by decide) ?_
        refine pg_put (ci := 8) (v := .int 0) (ty := .int) (C := RX9) (T := TX9) (N := 20) hx hb hts hinX9 tyX9 tyX9_ok nmX9 hown hK hP hD hS hmo hFo rfl 0 (by decide) (hts (.fieldLink RX9 61 "RopeDrumsModel" "thrown" "I") (by decide +kernel)) (fun _ h9 => h9) rfl (by decide +kernel) (rfl) (rfl) (Nat.le_of_ble_eq_true rfl) dX9_reckon_2 (fun H locs F23 eF23 hP hS => ?_)
        have eF23 : F23 = va_up F o (.inr (8, [.int 0, .ref (qm 0), .ref (qm 1), .ref (qm 2), .ref (qm 3), .ref (qm 4), .ref (qm 5), .ref (qm 6), .ref (qm 7), .int Pp.1, .ref (qm 8), .ref (qm 9), .ref (qm 10), .ref (qm 11), .ref (qm 12), .ref (qm 13), .ref (qm 14), .int Xx.1, .ref (qm 15), .long oc])) := eF23
        have hFo_23 : F23 o = .inr (8, [.int 0, .ref (qm 0), .ref (qm 1), .ref (qm 2), .ref (qm 3), .ref (qm 4), .ref (qm 5), .ref (qm 6), .ref (qm 7), .int Pp.1, .ref (qm 8), .ref (qm 9), .ref (qm 10), .ref (qm 11), .ref (qm 12), .ref (qm 13), .ref (qm 14), .int Xx.1, .ref (qm 15), .long oc]) := by rw [eF23]; exact va_up_self _ _ _
        have hFqm0_23 : F23 (qm 0) = cI (cy 1) 10 Mm.1 := by rw [eF23, va_up_ne _ _ (pl_ne hF0 hFo rfl)]; exact hF0
        have hFqm1_23 : F23 (qm 1) = cJ (cy 2) 10 Mm.2 := by rw [eF23, va_up_ne _ _ (pl_ne hF1 hFo rfl)]; exact hF1
        have hFqm2_23 : F23 (qm 2) = cD (cy 0) 6 Dd.1 := by rw [eF23, va_up_ne _ _ (pl_ne hF2 hFo rfl)]; exact hF2
        have hFqm3_23 : F23 (qm 3) = cD (cy 0) 6 Dd.2.1 := by rw [eF23, va_up_ne _ _ (pl_ne hF3 hFo rfl)]; exact hF3
        have hFqm4_23 : F23 (qm 4) = cD (cy 0) 6 Dd.2.2.1 := by rw [eF23, va_up_ne _ _ (pl_ne hF4 hFo rfl)]; exact hF4
        have hFqm5_23 : F23 (qm 5) = cJ (cy 2) 6 Dd.2.2.2 := by rw [eF23, va_up_ne _ _ (pl_ne hF5 hFo rfl)]; exact hF5
        have hFqm6_23 : F23 (qm 6) = cI (cy 1) 8 Sl.1 := by rw [eF23, va_up_ne _ _ (pl_ne hF6 hFo rfl)]; exact hF6
        have hFqm7_23 : F23 (qm 7) = cJ (cy 2) 128 Sl.2 := by rw [eF23, va_up_ne _ _ (pl_ne hF7 hFo rfl)]; exact hF7
        have hFqm8_23 : F23 (qm 8) = cI (cy 1) 30 Pp.2.1 := by rw [eF23, va_up_ne _ _ (pl_ne hF8 hFo rfl)]; exact hF8
        have hFqm9_23 : F23 (qm 9) = cI (cy 3) 30 Pp.2.2 := by rw [eF23, va_up_ne _ _ (pl_ne hF9 hFo rfl)]; exact hF9
        have hFqm10_23 : F23 (qm 10) = cI (cy 1) 5 Kr.1 := by rw [eF23, va_up_ne _ _ (pl_ne hF10 hFo rfl)]; exact hF10
        have hFqm11_23 : F23 (qm 11) = cI (cy 3) 5 Kr.2.1 := by rw [eF23, va_up_ne _ _ (pl_ne hF11 hFo rfl)]; exact hF11
        have hFqm12_23 : F23 (qm 12) = cI (cy 1) 60 Kr.2.2 := by rw [eF23, va_up_ne _ _ (pl_ne hF12 hFo rfl)]; exact hF12
        have hFqm13_23 : F23 (qm 13) = cI (cy 1) 4 Bk.1 := by rw [eF23, va_up_ne _ _ (pl_ne hF13 hFo rfl)]; exact hF13
        have hFqm14_23 : F23 (qm 14) = cD (cy 0) 4 Bk.2 := by rw [eF23, va_up_ne _ _ (pl_ne hF14 hFo rfl)]; exact hF14
        have hFqm15_23 : F23 (qm 15) = cI (cy 1) 6 Xx.2 := by rw [eF23, va_up_ne _ _ (pl_ne hF15 hFo rfl)]; exact hF15
        refine lv_iload_n hx hb dX9_reckon_5 rfl (lv_at hl 2 rfl) ?_
        refine vp_callSi (W.runS (As := [.int (nI j_x)]) (rest := []) ⟨hx, hb, hml, hown, hts⟩ (c9_isMeter l (nI j_x)) (va_cwS 1 hts gX9_reckon_X9_isMeter rfl rfl rfl (by decide +kernel) ⟨Nat.le_of_ble_eq_true rfl, Nat.le_of_ble_eq_true rfl⟩) (preS_of okT (trivial)) rfl rfl hl.1 rfl (lv_room (Nat.le_of_ble_eq_true rfl)) dX9_reckon_6 ⟨Nat.le_of_ble_eq_true rfl, Nat.le_of_ble_eq_true rfl⟩) (fun r24 hr24 => ?_)
        rw [isx1 hi_x] at hr24
        subst hr24
        refine lv_if_eq (tgt := 27) hx hb dX9_reckon_9 (by decide) (fun c25 => absurd c25 (by decide)) (fun c25 => ?_)
        refine lv_iload_n hx hb dX9_reckon_12 rfl (lv_at hl 3 rfl) ?_
        refine vp_callSi (W.runS (As := [.int (nI j_y)]) (rest := []) ⟨hx, hb, hml, hown, hts⟩ (c9_isMeter l (nI j_y)) (va_cwS 1 hts gX9_reckon_X9_isMeter rfl rfl rfl (by decide +kernel) ⟨Nat.le_of_ble_eq_true rfl, Nat.le_of_ble_eq_true rfl⟩) (preS_of okT (trivial)) rfl rfl hl.1 rfl (lv_room (Nat.le_of_ble_eq_true rfl)) dX9_reckon_13 ⟨Nat.le_of_ble_eq_true rfl, Nat.le_of_ble_eq_true rfl⟩) (fun r26 hr26 => ?_)
        rw [isx1 hi_y] at hr26
        subst hr26
        refine lv_if_eq (tgt := 27) hx hb dX9_reckon_16 (by decide) (fun c27 => absurd c27 (by decide)) (fun c27 => ?_)
        refine lv_iload hx hb dX9_reckon_19 (lv_at hl 4 rfl) ?_
        refine vp_callSi (W.runS (As := [.int into]) (rest := []) ⟨hx, hb, hml, hown, hts⟩ (c9_isMeter l into) (va_cwS 1 hts gX9_reckon_X9_isMeter rfl rfl rfl (by decide +kernel) ⟨Nat.le_of_ble_eq_true rfl, Nat.le_of_ble_eq_true rfl⟩) (preS_of okT (trivial)) rfl rfl hl.1 rfl (lv_room (Nat.le_of_ble_eq_true rfl)) dX9_reckon_21 ⟨Nat.le_of_ble_eq_true rfl, Nat.le_of_ble_eq_true rfl⟩) (fun r28 hr28 => ?_)
        rw [isx0 hi_into] at hr28
        subst hr28
        refine lv_if_ne (tgt := 31) hx hb dX9_reckon_24 (by decide) (fun c29 => absurd (by decide) c29) (fun c29 => ?_)
        refine lv_sipush (v := -1001) hx hb dX9_reckon_27 (by decide) ?_
        exact W.iret (v := -1001) hx hb hr (fun t ht hW => ⟨⟨-1001, F23, rfl, (by have hsp : sp_reckon Mm Xx 1 (nI j_x) (nI j_y) into = (-1001, Mm, Xx) := (by unfold sp_reckon; rw [hi_x, hi_y, hi_into]); rw [hsp]; exact ⟨rfl, (by exact ⟨⟨_, _, hmo, hFo_23⟩, ⟨hm0, hFqm0_23⟩, ⟨hm1, hFqm1_23⟩, ⟨hm2, hFqm2_23⟩, ⟨hm3, hFqm3_23⟩, ⟨hm4, hFqm4_23⟩, ⟨hm5, hFqm5_23⟩, ⟨hm6, hFqm6_23⟩, ⟨hm7, hFqm7_23⟩, ⟨hm8, hFqm8_23⟩, ⟨hm9, hFqm9_23⟩, ⟨hm10, hFqm10_23⟩, ⟨hm11, hFqm11_23⟩, ⟨hm12, hFqm12_23⟩, ⟨hm13, hFqm13_23⟩, ⟨hm14, hFqm14_23⟩, ⟨hm15, hFqm15_23⟩, hne⟩)⟩), (by show va_P _ _ _ t.heap; rw [ht]; exact hP)⟩, hS.F ht⟩) hS.2.2 dX9_reckon_30
      · subst ei_into
        refine lv_aload_n hx hb dX9_reckon_0 rfl (lv_at hl 0 rfl) ?_
        refine lv_iconst (v := 0) hx hb dX9_reckon_1 (by decide) ?_
        refine pg_put (ci := 8) (v := .int 0) (ty := .int) (C := RX9) (T := TX9) (N := 20) hx hb hts hinX9 tyX9 tyX9_ok nmX9 hown hK hP hD hS hmo hFo rfl 0 (by decide) (hts (.fieldLink RX9 61 "RopeDrumsModel" "thrown" "I") (by decide +kernel)) (fun _ h9 => h9) rfl (by decide +kernel) (rfl) (rfl) (Nat.le_of_ble_eq_true rfl) dX9_reckon_2 (fun H locs F30 eF30 hP hS => ?_)
        have eF30 : F30 = va_up F o (.inr (8, [.int 0, .ref (qm 0), .ref (qm 1), .ref (qm 2), .ref (qm 3), .ref (qm 4), .ref (qm 5), .ref (qm 6), .ref (qm 7), .int Pp.1, .ref (qm 8), .ref (qm 9), .ref (qm 10), .ref (qm 11), .ref (qm 12), .ref (qm 13), .ref (qm 14), .int Xx.1, .ref (qm 15), .long oc])) := eF30
        have hFo_30 : F30 o = .inr (8, [.int 0, .ref (qm 0), .ref (qm 1), .ref (qm 2), .ref (qm 3), .ref (qm 4), .ref (qm 5), .ref (qm 6), .ref (qm 7), .int Pp.1, .ref (qm 8), .ref (qm 9), .ref (qm 10), .ref (qm 11), .ref (qm 12), .ref (qm 13), .ref (qm 14), .int Xx.1, .ref (qm 15), .long oc]) := by rw [eF30]; exact va_up_self _ _ _
        have hFqm0_30 : F30 (qm 0) = cI (cy 1) 10 Mm.1 := by rw [eF30, va_up_ne _ _ (pl_ne hF0 hFo rfl)]; exact hF0
        have hFqm1_30 : F30 (qm 1) = cJ (cy 2) 10 Mm.2 := by rw [eF30, va_up_ne _ _ (pl_ne hF1 hFo rfl)]; exact hF1
        have hFqm2_30 : F30 (qm 2) = cD (cy 0) 6 Dd.1 := by rw [eF30, va_up_ne _ _ (pl_ne hF2 hFo rfl)]; exact hF2
        have hFqm3_30 : F30 (qm 3) = cD (cy 0) 6 Dd.2.1 := by rw [eF30, va_up_ne _ _ (pl_ne hF3 hFo rfl)]; exact hF3
        have hFqm4_30 : F30 (qm 4) = cD (cy 0) 6 Dd.2.2.1 := by rw [eF30, va_up_ne _ _ (pl_ne hF4 hFo rfl)]; exact hF4
        have hFqm5_30 : F30 (qm 5) = cJ (cy 2) 6 Dd.2.2.2 := by rw [eF30, va_up_ne _ _ (pl_ne hF5 hFo rfl)]; exact hF5
        have hFqm6_30 : F30 (qm 6) = cI (cy 1) 8 Sl.1 := by rw [eF30, va_up_ne _ _ (pl_ne hF6 hFo rfl)]; exact hF6
        have hFqm7_30 : F30 (qm 7) = cJ (cy 2) 128 Sl.2 := by rw [eF30, va_up_ne _ _ (pl_ne hF7 hFo rfl)]; exact hF7
        have hFqm8_30 : F30 (qm 8) = cI (cy 1) 30 Pp.2.1 := by rw [eF30, va_up_ne _ _ (pl_ne hF8 hFo rfl)]; exact hF8
        have hFqm9_30 : F30 (qm 9) = cI (cy 3) 30 Pp.2.2 := by rw [eF30, va_up_ne _ _ (pl_ne hF9 hFo rfl)]; exact hF9
        have hFqm10_30 : F30 (qm 10) = cI (cy 1) 5 Kr.1 := by rw [eF30, va_up_ne _ _ (pl_ne hF10 hFo rfl)]; exact hF10
        have hFqm11_30 : F30 (qm 11) = cI (cy 3) 5 Kr.2.1 := by rw [eF30, va_up_ne _ _ (pl_ne hF11 hFo rfl)]; exact hF11
        have hFqm12_30 : F30 (qm 12) = cI (cy 1) 60 Kr.2.2 := by rw [eF30, va_up_ne _ _ (pl_ne hF12 hFo rfl)]; exact hF12
        have hFqm13_30 : F30 (qm 13) = cI (cy 1) 4 Bk.1 := by rw [eF30, va_up_ne _ _ (pl_ne hF13 hFo rfl)]; exact hF13
        have hFqm14_30 : F30 (qm 14) = cD (cy 0) 4 Bk.2 := by rw [eF30, va_up_ne _ _ (pl_ne hF14 hFo rfl)]; exact hF14
        have hFqm15_30 : F30 (qm 15) = cI (cy 1) 6 Xx.2 := by rw [eF30, va_up_ne _ _ (pl_ne hF15 hFo rfl)]; exact hF15
        refine lv_iload_n hx hb dX9_reckon_5 rfl (lv_at hl 2 rfl) ?_
        refine vp_callSi (W.runS (As := [.int (nI j_x)]) (rest := []) ⟨hx, hb, hml, hown, hts⟩ (c9_isMeter l (nI j_x)) (va_cwS 1 hts gX9_reckon_X9_isMeter rfl rfl rfl (by decide +kernel) ⟨Nat.le_of_ble_eq_true rfl, Nat.le_of_ble_eq_true rfl⟩) (preS_of okT (trivial)) rfl rfl hl.1 rfl (lv_room (Nat.le_of_ble_eq_true rfl)) dX9_reckon_6 ⟨Nat.le_of_ble_eq_true rfl, Nat.le_of_ble_eq_true rfl⟩) (fun r31 hr31 => ?_)
        rw [isx1 hi_x] at hr31
        subst hr31
        refine lv_if_eq (tgt := 27) hx hb dX9_reckon_9 (by decide) (fun c32 => absurd c32 (by decide)) (fun c32 => ?_)
        refine lv_iload_n hx hb dX9_reckon_12 rfl (lv_at hl 3 rfl) ?_
        refine vp_callSi (W.runS (As := [.int (nI j_y)]) (rest := []) ⟨hx, hb, hml, hown, hts⟩ (c9_isMeter l (nI j_y)) (va_cwS 1 hts gX9_reckon_X9_isMeter rfl rfl rfl (by decide +kernel) ⟨Nat.le_of_ble_eq_true rfl, Nat.le_of_ble_eq_true rfl⟩) (preS_of okT (trivial)) rfl rfl hl.1 rfl (lv_room (Nat.le_of_ble_eq_true rfl)) dX9_reckon_13 ⟨Nat.le_of_ble_eq_true rfl, Nat.le_of_ble_eq_true rfl⟩) (fun r33 hr33 => ?_)
        rw [isx1 hi_y] at hr33
        subst hr33
        refine lv_if_eq (tgt := 27) hx hb dX9_reckon_16 (by decide) (fun c34 => absurd c34 (by decide)) (fun c34 => ?_)
        refine lv_iload hx hb dX9_reckon_19 (lv_at hl 4 rfl) ?_
        refine vp_callSi (W.runS (As := [.int (nI j_into)]) (rest := []) ⟨hx, hb, hml, hown, hts⟩ (c9_isMeter l (nI j_into)) (va_cwS 1 hts gX9_reckon_X9_isMeter rfl rfl rfl (by decide +kernel) ⟨Nat.le_of_ble_eq_true rfl, Nat.le_of_ble_eq_true rfl⟩) (preS_of okT (trivial)) rfl rfl hl.1 rfl (lv_room (Nat.le_of_ble_eq_true rfl)) dX9_reckon_21 ⟨Nat.le_of_ble_eq_true rfl, Nat.le_of_ble_eq_true rfl⟩) (fun r35 hr35 => ?_)
        rw [isx1 hi_into] at hr35
        subst hr35
        refine lv_if_ne (tgt := 31) hx hb dX9_reckon_24 (by decide) (fun c36 => ?_) (fun c36 => absurd c36 (by decide))
        refine lv_iload_n hx hb dX9_reckon_31 rfl (lv_at hl 1 rfl) ?_
        refine lv_i2l hx hb dX9_reckon_32 rfl ?_
        refine lv_topl (fun v37 ev37 => ?_)
        refine lv_lconst (v := 0) hx hb dX9_reckon_33 (by decide) ?_
        refine lv_ldc2 hx hb hown (hts (.constantLong RX9 143 (4)) (by decide +kernel)) dX9_reckon_34 ?_
        refine vp_callSi (W.runS (As := [.long v37, .long 0, .long 4]) (rest := []) ⟨hx, hb, hml, hown, hts⟩ (c9_in l v37 0 4) (va_cwS 3 hts gX9_reckon_X9_in rfl rfl rfl (by decide +kernel) ⟨Nat.le_of_ble_eq_true rfl, Nat.le_of_ble_eq_true rfl⟩) (preS_of okT (trivial)) rfl rfl hl.1 rfl (lv_room (Nat.le_of_ble_eq_true rfl)) dX9_reckon_37 ⟨Nat.le_of_ble_eq_true rfl, Nat.le_of_ble_eq_true rfl⟩) (fun r38 hr38 => ?_)
        have hzr38 : r38 = 1 := by rw [hr38, ev37, inq_i (y := 0) (z := 4) (by decide) (by decide)]; exact if_pos (by decide)
        subst hzr38
        refine lv_if_ne (tgt := 47) hx hb dX9_reckon_40 (by decide) (fun c39 => ?_) (fun c39 => absurd c39 (by decide))
        refine lv_aload_n hx hb dX9_reckon_47 rfl (lv_at hl 0 rfl) ?_
        refine lv_iconst (v := 0) hx hb dX9_reckon_48 (by decide) ?_
        refine pg_put (ci := 8) (v := .int 0) (ty := .int) (C := RX9) (T := TX9) (N := 20) hx hb hts hinX9 tyX9 tyX9_ok nmX9 hown hK hP hD hS hmo hFo_30 rfl 17 (by decide) (hts (.fieldLink RX9 65 "RopeDrumsModel" "failed" "I") (by decide +kernel)) (fun _ h9 => h9) rfl (by decide +kernel) (rfl) (rfl) (Nat.le_of_ble_eq_true rfl) dX9_reckon_49 (fun H locs F40 eF40 hP hS => ?_)
        have eF40 : F40 = va_up F30 o (.inr (8, [.int 0, .ref (qm 0), .ref (qm 1), .ref (qm 2), .ref (qm 3), .ref (qm 4), .ref (qm 5), .ref (qm 6), .ref (qm 7), .int Pp.1, .ref (qm 8), .ref (qm 9), .ref (qm 10), .ref (qm 11), .ref (qm 12), .ref (qm 13), .ref (qm 14), .int 0, .ref (qm 15), .long oc])) := eF40
        have hFo_40 : F40 o = .inr (8, [.int 0, .ref (qm 0), .ref (qm 1), .ref (qm 2), .ref (qm 3), .ref (qm 4), .ref (qm 5), .ref (qm 6), .ref (qm 7), .int Pp.1, .ref (qm 8), .ref (qm 9), .ref (qm 10), .ref (qm 11), .ref (qm 12), .ref (qm 13), .ref (qm 14), .int 0, .ref (qm 15), .long oc]) := by rw [eF40]; exact va_up_self _ _ _
        have hFqm0_40 : F40 (qm 0) = cI (cy 1) 10 Mm.1 := by rw [eF40, va_up_ne _ _ (pl_ne hFqm0_30 hFo_30 rfl)]; exact hFqm0_30
        have hFqm1_40 : F40 (qm 1) = cJ (cy 2) 10 Mm.2 := by rw [eF40, va_up_ne _ _ (pl_ne hFqm1_30 hFo_30 rfl)]; exact hFqm1_30
        have hFqm2_40 : F40 (qm 2) = cD (cy 0) 6 Dd.1 := by rw [eF40, va_up_ne _ _ (pl_ne hFqm2_30 hFo_30 rfl)]; exact hFqm2_30
        have hFqm3_40 : F40 (qm 3) = cD (cy 0) 6 Dd.2.1 := by rw [eF40, va_up_ne _ _ (pl_ne hFqm3_30 hFo_30 rfl)]; exact hFqm3_30
        have hFqm4_40 : F40 (qm 4) = cD (cy 0) 6 Dd.2.2.1 := by rw [eF40, va_up_ne _ _ (pl_ne hFqm4_30 hFo_30 rfl)]; exact hFqm4_30
        have hFqm5_40 : F40 (qm 5) = cJ (cy 2) 6 Dd.2.2.2 := by rw [eF40, va_up_ne _ _ (pl_ne hFqm5_30 hFo_30 rfl)]; exact hFqm5_30
        have hFqm6_40 : F40 (qm 6) = cI (cy 1) 8 Sl.1 := by rw [eF40, va_up_ne _ _ (pl_ne hFqm6_30 hFo_30 rfl)]; exact hFqm6_30
        have hFqm7_40 : F40 (qm 7) = cJ (cy 2) 128 Sl.2 := by rw [eF40, va_up_ne _ _ (pl_ne hFqm7_30 hFo_30 rfl)]; exact hFqm7_30
        have hFqm8_40 : F40 (qm 8) = cI (cy 1) 30 Pp.2.1 := by rw [eF40, va_up_ne _ _ (pl_ne hFqm8_30 hFo_30 rfl)]; exact hFqm8_30
        have hFqm9_40 : F40 (qm 9) = cI (cy 3) 30 Pp.2.2 := by rw [eF40, va_up_ne _ _ (pl_ne hFqm9_30 hFo_30 rfl)]; exact hFqm9_30
        have hFqm10_40 : F40 (qm 10) = cI (cy 1) 5 Kr.1 := by rw [eF40, va_up_ne _ _ (pl_ne hFqm10_30 hFo_30 rfl)]; exact hFqm10_30
        have hFqm11_40 : F40 (qm 11) = cI (cy 3) 5 Kr.2.1 := by rw [eF40, va_up_ne _ _ (pl_ne hFqm11_30 hFo_30 rfl)]; exact hFqm11_30
        have hFqm12_40 : F40 (qm 12) = cI (cy 1) 60 Kr.2.2 := by rw [eF40, va_up_ne _ _ (pl_ne hFqm12_30 hFo_30 rfl)]; exact hFqm12_30
        have hFqm13_40 : F40 (qm 13) = cI (cy 1) 4 Bk.1 := by rw [eF40, va_up_ne _ _ (pl_ne hFqm13_30 hFo_30 rfl)]; exact hFqm13_30
        have hFqm14_40 : F40 (qm 14) = cD (cy 0) 4 Bk.2 := by rw [eF40, va_up_ne _ _ (pl_ne hFqm14_30 hFo_30 rfl)]; exact hFqm14_30
        have hFqm15_40 : F40 (qm 15) = cI (cy 1) 6 Xx.2 := by rw [eF40, va_up_ne _ _ (pl_ne hFqm15_30 hFo_30 rfl)]; exact hFqm15_30
        refine jn_i (pc := 82) (ls := ls) (rest := []) (fun vv => vv = mx (Mm.1 j_x) (Mm.1 j_y)) (fun j41 hj41 => ?_) (fun K => ?_)
        · subst hj41
          refine lv_istore (lv' := [(5, .int (mx (Mm.1 j_x) (Mm.1 j_y))), (0, .ref o), (1, .int 1), (2, .int (nI j_x)), (3, .int (nI j_y)), (4, .int (nI j_into))]) hx hb dX9_reckon_82 hl (by decide) rfl (fun ls hl => ?_)
          refine lv_aload_n hx hb dX9_reckon_84 rfl (lv_at hl 1 rfl) ?_
          refine pg_get (ci := 8) (C := RX9) (T := TX9) (N := 20) hx hb hts hinX9 hown hK hP hmo hFo_40 rfl 1 (by decide) (hts (.fieldLink RX9 7 "RopeDrumsModel" "laneOf" "[I") (by decide +kernel)) (fun _ h9 => h9) rfl dX9_reckon_85 ?_
          refine lv_iload_n hx hb dX9_reckon_88 rfl (lv_at hl 3 rfl) ?_
          refine pg_iald hx hb hK hP 1 hm0 hFqm0_40 rfl (vp_in_nI (by omega) (by decide)) dX9_reckon_89 ?_
          refine lv_topi (fun v42 ev42 => ?_)
          rw [nI_clamp (by omega)] at ev42
          refine lv_aload_n hx hb dX9_reckon_90 rfl (lv_at hl 1 rfl) ?_
          refine pg_get (ci := 8) (C := RX9) (T := TX9) (N := 20) hx hb hts hinX9 hown hK hP hmo hFo_40 rfl 2 (by decide) (hts (.fieldLink RX9 13 "RopeDrumsModel" "held" "[J") (by decide +kernel)) (fun _ h9 => h9) rfl dX9_reckon_91 ?_
          refine lv_iload_n hx hb dX9_reckon_94 rfl (lv_at hl 3 rfl) ?_
          refine pg_lald hx hb hK hP 2 hm1 hFqm1_40 rfl (vp_in_nI (by omega) (by decide)) dX9_reckon_95 ?_
          refine lv_topl (fun v43 ev43 => ?_)
          rw [nI_clamp (by omega)] at ev43
          refine lv_iload hx hb dX9_reckon_96 (lv_at hl 0 rfl) ?_
          refine vp_callSl (W.runS (As := [.int v42, .long v43, .int (mx (Mm.1 j_x) (Mm.1 j_y))]) (rest := []) ⟨hx, hb, hml, hown, hts⟩ (c9_turned l v42 (mx (Mm.1 j_x) (Mm.1 j_y)) v43 (by rw [ev42, ev43]; exact (hVM j_x hj_x))) (va_cwS 3 hts gX9_reckon_X9_turned rfl rfl rfl (by decide +kernel) ⟨Nat.le_of_ble_eq_true rfl, Nat.le_of_ble_eq_true rfl⟩) (preS_of okT (trivial)) rfl rfl hl.1 rfl (lv_room (Nat.le_of_ble_eq_true rfl)) dX9_reckon_98 ⟨Nat.le_of_ble_eq_true rfl, Nat.le_of_ble_eq_true rfl⟩) (fun r44 hr44 => ?_)
          refine lv_lstore (lv' := [(6, .long r44), (5, .int (mx (Mm.1 j_x) (Mm.1 j_y))), (0, .ref o), (1, .int 1), (2, .int (nI j_x)), (3, .int (nI j_y)), (4, .int (nI j_into))]) hx hb dX9_reckon_101 hl (by decide) rfl (fun ls hl => ?_)
          refine lv_aload_n hx hb dX9_reckon_103 rfl (lv_at hl 2 rfl) ?_
          refine pg_get (ci := 8) (C := RX9) (T := TX9) (N := 20) hx hb hts hinX9 hown hK hP hmo hFo_40 rfl 1 (by decide) (hts (.fieldLink RX9 7 "RopeDrumsModel" "laneOf" "[I") (by decide +kernel)) (fun _ h9 => h9) rfl dX9_reckon_104 ?_
          refine lv_iload_n hx hb dX9_reckon_107 rfl (lv_at hl 5 rfl) ?_
          refine pg_iald hx hb hK hP 1 hm0 hFqm0_40 rfl (vp_in_nI (by omega) (by decide)) dX9_reckon_108 ?_
          refine lv_topi (fun v45 ev45 => ?_)
          rw [nI_clamp (by omega)] at ev45
          refine lv_aload_n hx hb dX9_reckon_109 rfl (lv_at hl 2 rfl) ?_
          refine pg_get (ci := 8) (C := RX9) (T := TX9) (N := 20) hx hb hts hinX9 hown hK hP hmo hFo_40 rfl 2 (by decide) (hts (.fieldLink RX9 13 "RopeDrumsModel" "held" "[J") (by decide +kernel)) (fun _ h9 => h9) rfl dX9_reckon_110 ?_
          refine lv_iload_n hx hb dX9_reckon_113 rfl (lv_at hl 5 rfl) ?_
          refine pg_lald hx hb hK hP 2 hm1 hFqm1_40 rfl (vp_in_nI (by omega) (by decide)) dX9_reckon_114 ?_
          refine lv_topl (fun v46 ev46 => ?_)
          rw [nI_clamp (by omega)] at ev46
          refine lv_iload hx hb dX9_reckon_115 (lv_at hl 1 rfl) ?_
          refine vp_callSl (W.runS (As := [.int v45, .long v46, .int (mx (Mm.1 j_x) (Mm.1 j_y))]) (rest := []) ⟨hx, hb, hml, hown, hts⟩ (c9_turned l v45 (mx (Mm.1 j_x) (Mm.1 j_y)) v46 (by rw [ev45, ev46]; exact (hVM j_y hj_y))) (va_cwS 3 hts gX9_reckon_X9_turned rfl rfl rfl (by decide +kernel) ⟨Nat.le_of_ble_eq_true rfl, Nat.le_of_ble_eq_true rfl⟩) (preS_of okT (trivial)) rfl rfl hl.1 rfl (lv_room (Nat.le_of_ble_eq_true rfl)) dX9_reckon_117 ⟨Nat.le_of_ble_eq_true rfl, Nat.le_of_ble_eq_true rfl⟩) (fun r47 hr47 => ?_)
          refine lv_lstore (lv' := [(8, .long r47), (6, .long r44), (5, .int (mx (Mm.1 j_x) (Mm.1 j_y))), (0, .ref o), (1, .int 1), (2, .int (nI j_x)), (3, .int (nI j_y)), (4, .int (nI j_into))]) hx hb dX9_reckon_120 hl (by decide) rfl (fun ls hl => ?_)
          have hmx := mx_v (hVM j_x hj_x).lane (hVM j_y hj_y).lane
          by_cases h1l : (1 : Int32) < mx (Mm.1 j_x) (Mm.1 j_y)
          · rcases (hmx.2 h1l).1 with hmxl | hmxl
            · by_cases hnan0 : FP.Core.fIsNaN (rkF 1 (fl (tn (Mm.1 j_x) (Mm.2 j_x) 2)) (fl (tn (Mm.1 j_y) (Mm.2 j_y) 2))) = true
              · refine lv_iload hx hb dX9_reckon_122 (lv_at hl 2 rfl) ?_
                refine lv_iconst (v := 2) hx hb dX9_reckon_124 (by decide) ?_
                refine lv_icmp_ge (tgt := 162) hx hb dX9_reckon_125 (by decide) (fun c48 => ?_) (fun c48 => absurd (by rw [hmxl]; decide) c48)
                refine lv_iload hx hb dX9_reckon_162 (lv_at hl 2 rfl) ?_
                refine lv_iconst (v := 2) hx hb dX9_reckon_164 (by decide) ?_
                refine lv_icmp_ne (tgt := 186) hx hb dX9_reckon_165 (by decide) (fun c49 => absurd (hmxl) c49) (fun c49 => ?_)
                refine lv_aload_n hx hb dX9_reckon_168 rfl (lv_at hl 3 rfl) ?_
                refine lv_iload_n hx hb dX9_reckon_169 rfl (lv_at hl 4 rfl) ?_
                refine lv_lload hx hb dX9_reckon_170 (lv_at hl 1 rfl) ?_
                refine vp_callSf (W.runS (As := [.long r44]) (rest := [.int 1, .ref o]) ⟨hx, hb, hml, hown, hts⟩ (c9_floatOf l r44 (by rw [hr44, ev42, ev43]; exact (by rw [hmxl]; exact tn2_ok (hVM j_x hj_x)))) (va_cwS 1 hts gX9_reckon_X9_floatOf rfl rfl rfl (by decide +kernel) ⟨Nat.le_of_ble_eq_true rfl, Nat.le_of_ble_eq_true rfl⟩) (preS_of okT (trivial)) rfl rfl hl.1 rfl (lv_room (Nat.le_of_ble_eq_true rfl)) dX9_reckon_172 ⟨Nat.le_of_ble_eq_true rfl, Nat.le_of_ble_eq_true rfl⟩) (fun r50 hr50 => ?_)
                refine lv_lload hx hb dX9_reckon_175 (lv_at hl 0 rfl) ?_
                refine vp_callSf (W.runS (As := [.long r47]) (rest := [.float r50, .int 1, .ref o]) ⟨hx, hb, hml, hown, hts⟩ (c9_floatOf l r47 (by rw [hr47, ev45, ev46]; exact (by rw [hmxl]; exact tn2_ok (hVM j_y hj_y)))) (va_cwS 1 hts gX9_reckon_X9_floatOf rfl rfl rfl (by decide +kernel) ⟨Nat.le_of_ble_eq_true rfl, Nat.le_of_ble_eq_true rfl⟩) (preS_of okT (trivial)) rfl rfl hl.1 rfl (lv_room (Nat.le_of_ble_eq_true rfl)) dX9_reckon_177 ⟨Nat.le_of_ble_eq_true rfl, Nat.le_of_ble_eq_true rfl⟩) (fun r51 hr51 => ?_)
                refine va_callv (va_runV (As := [.int 1, .float r50, .float r51]) (rest := []) ⟨hx, hb, hml, hown, hts⟩ (c9_rF_1_no l G cy L F40 H.size o qm 0 Pp.1 0 oc hmo hFo_40 r50 r51 (by rw [hr50, hr44, ev42, ev43, hmxl]; exact tn2_ok (hVM j_x hj_x)) (by rw [hr51, hr47, ev45, ev46, hmxl]; exact tn2_ok (hVM j_y hj_y)) (by rw [hr50, hr44, ev42, ev43, hr51, hr47, ev45, ev46, hmxl]; exact hnan0)) (cwV 3 hts gX9_reckon_X9_reckonFloats rfl rfl rfl (by decide +kernel) ⟨Nat.le_of_ble_eq_true rfl, Nat.le_of_ble_eq_true rfl⟩) (preV_of okQ (⟨rfl, hP, hK, hD.top⟩) (pl_recv hK hP (ci := 8) rfl hmo hFo_40)) rfl rfl hl.1 rfl (lv_room (Nat.le_of_ble_eq_true rfl)) dX9_reckon_180 ⟨Nat.le_of_ble_eq_true rfl, Nat.le_of_ble_eq_true rfl⟩) hS (fun q _ h => pl_free hD hS hA q h) (pl_free hD hS hA) (fun F52 t H1 locs ht hvm hw hP1 hz1 hk1 hS => ?_)
                have hP1 : va_P G vwCl (va_pl L F52) t.heap := hP1
                rw [ht] at hP1
                have hP := hP1
                generalize H1 = H at hP hS ⊢
                have eF52 : F52 = va_up F40 o (.inr (8, [.int 0, .ref (qm 0), .ref (qm 1), .ref (qm 2), .ref (qm 3), .ref (qm 4), .ref (qm 5), .ref (qm 6), .ref (qm 7), .int Pp.1, .ref (qm 8), .ref (qm 9), .ref (qm 10), .ref (qm 11), .ref (qm 12), .ref (qm 13), .ref (qm 14), .int 5, .ref (qm 15), .long oc])) := hw
                have hFo_52 : F52 o = .inr (8, [.int 0, .ref (qm 0), .ref (qm 1), .ref (qm 2), .ref (qm 3), .ref (qm 4), .ref (qm 5), .ref (qm 6), .ref (qm 7), .int Pp.1, .ref (qm 8), .ref (qm 9), .ref (qm 10), .ref (qm 11), .ref (qm 12), .ref (qm 13), .ref (qm 14), .int 5, .ref (qm 15), .long oc]) := by rw [eF52]; exact va_up_self _ _ _
                have hFqm0_52 : F52 (qm 0) = cI (cy 1) 10 Mm.1 := by rw [eF52, va_up_ne _ _ (pl_ne hFqm0_40 hFo_40 rfl)]; exact hFqm0_40
                have hFqm1_52 : F52 (qm 1) = cJ (cy 2) 10 Mm.2 := by rw [eF52, va_up_ne _ _ (pl_ne hFqm1_40 hFo_40 rfl)]; exact hFqm1_40
                have hFqm2_52 : F52 (qm 2) = cD (cy 0) 6 Dd.1 := by rw [eF52, va_up_ne _ _ (pl_ne hFqm2_40 hFo_40 rfl)]; exact hFqm2_40
                have hFqm3_52 : F52 (qm 3) = cD (cy 0) 6 Dd.2.1 := by rw [eF52, va_up_ne _ _ (pl_ne hFqm3_40 hFo_40 rfl)]; exact hFqm3_40
                have hFqm4_52 : F52 (qm 4) = cD (cy 0) 6 Dd.2.2.1 := by rw [eF52, va_up_ne _ _ (pl_ne hFqm4_40 hFo_40 rfl)]; exact hFqm4_40
                have hFqm5_52 : F52 (qm 5) = cJ (cy 2) 6 Dd.2.2.2 := by rw [eF52, va_up_ne _ _ (pl_ne hFqm5_40 hFo_40 rfl)]; exact hFqm5_40
                have hFqm6_52 : F52 (qm 6) = cI (cy 1) 8 Sl.1 := by rw [eF52, va_up_ne _ _ (pl_ne hFqm6_40 hFo_40 rfl)]; exact hFqm6_40
                have hFqm7_52 : F52 (qm 7) = cJ (cy 2) 128 Sl.2 := by rw [eF52, va_up_ne _ _ (pl_ne hFqm7_40 hFo_40 rfl)]; exact hFqm7_40
                have hFqm8_52 : F52 (qm 8) = cI (cy 1) 30 Pp.2.1 := by rw [eF52, va_up_ne _ _ (pl_ne hFqm8_40 hFo_40 rfl)]; exact hFqm8_40
                have hFqm9_52 : F52 (qm 9) = cI (cy 3) 30 Pp.2.2 := by rw [eF52, va_up_ne _ _ (pl_ne hFqm9_40 hFo_40 rfl)]; exact hFqm9_40
                have hFqm10_52 : F52 (qm 10) = cI (cy 1) 5 Kr.1 := by rw [eF52, va_up_ne _ _ (pl_ne hFqm10_40 hFo_40 rfl)]; exact hFqm10_40
                have hFqm11_52 : F52 (qm 11) = cI (cy 3) 5 Kr.2.1 := by rw [eF52, va_up_ne _ _ (pl_ne hFqm11_40 hFo_40 rfl)]; exact hFqm11_40
                have hFqm12_52 : F52 (qm 12) = cI (cy 1) 60 Kr.2.2 := by rw [eF52, va_up_ne _ _ (pl_ne hFqm12_40 hFo_40 rfl)]; exact hFqm12_40
                have hFqm13_52 : F52 (qm 13) = cI (cy 1) 4 Bk.1 := by rw [eF52, va_up_ne _ _ (pl_ne hFqm13_40 hFo_40 rfl)]; exact hFqm13_40
                have hFqm14_52 : F52 (qm 14) = cD (cy 0) 4 Bk.2 := by rw [eF52, va_up_ne _ _ (pl_ne hFqm14_40 hFo_40 rfl)]; exact hFqm14_40
                have hFqm15_52 : F52 (qm 15) = cI (cy 1) 6 Xx.2 := by rw [eF52, va_up_ne _ _ (pl_ne hFqm15_40 hFo_40 rfl)]; exact hFqm15_40
                refine lv_goto (tgt := 201) hx hb dX9_reckon_183 (by decide) ?_
                refine lv_aload_n hx hb dX9_reckon_201 rfl (lv_at hl 3 rfl) ?_
                refine pg_get (ci := 8) (C := RX9) (T := TX9) (N := 20) hx hb hts hinX9 hown hK hP hmo hFo_52 rfl 17 (by decide) (hts (.fieldLink RX9 65 "RopeDrumsModel" "failed" "I") (by decide +kernel)) (fun _ h9 => h9) rfl dX9_reckon_202 ?_
                refine lv_if_ne (tgt := 228) hx hb dX9_reckon_205 (by decide) (fun c53 => ?_) (fun c53 => absurd c53 (by decide))
                refine lv_aload_n hx hb dX9_reckon_228 rfl (lv_at hl 3 rfl) ?_
                refine lv_iload hx hb dX9_reckon_229 (lv_at hl 2 rfl) ?_
                refine va_calli (va_runV (As := [.int (mx (Mm.1 j_x) (Mm.1 j_y))]) (rest := []) ⟨hx, hb, hml, hown, hts⟩ (c9_answers_5 l G cy L F52 H.size o qm 0 Pp.1 oc hmo hFo_52 Xx.2 hm15 hFqm15_52 (mx (Mm.1 j_x) (Mm.1 j_y))) (cwV 1 hts gX9_reckon_X9_answers rfl rfl rfl (by decide +kernel) ⟨Nat.le_of_ble_eq_true rfl, Nat.le_of_ble_eq_true rfl⟩) (preV_of okQ (⟨rfl, hP, hK, hD.top⟩) (pl_recv hK hP (ci := 8) rfl hmo hFo_52)) rfl rfl hl.1 rfl (lv_room (Nat.le_of_ble_eq_true rfl)) dX9_reckon_231 ⟨Nat.le_of_ble_eq_true rfl, Nat.le_of_ble_eq_true rfl⟩) hS (fun q _ h => pl_free hD hS hA q h) (pl_free hD hS hA) (fun r55 F54 t H1 locs ht hvm hw hP1 hz1 hk1 hS => ?_)
                have hP1 : va_P G vwCl (va_pl L F54) t.heap := hP1
                rw [ht] at hP1
                have hP := hP1
                generalize H1 = H at hP hS ⊢
                obtain ⟨hqr55, eF54⟩ := hw
                have eF54 : F54 = va_up F52 (qm 15) (cI (cy 1) 6 (upd Xx.2 5 (Xx.2 5 + 1))) := eF54
                have hFo_55 : F54 o = .inr (8, [.int 0, .ref (qm 0), .ref (qm 1), .ref (qm 2), .ref (qm 3), .ref (qm 4), .ref (qm 5), .ref (qm 6), .ref (qm 7), .int Pp.1, .ref (qm 8), .ref (qm 9), .ref (qm 10), .ref (qm 11), .ref (qm 12), .ref (qm 13), .ref (qm 14), .int 5, .ref (qm 15), .long oc]) := by rw [eF54, va_up_ne _ _ (pl_ne hFo_52 hFqm15_52 rfl)]; exact hFo_52
                have hFqm0_55 : F54 (qm 0) = cI (cy 1) 10 Mm.1 := by rw [eF54, va_up_ne _ _ (pl_ne hFqm0_52 hFqm15_52 rfl)]; exact hFqm0_52
                have hFqm1_55 : F54 (qm 1) = cJ (cy 2) 10 Mm.2 := by rw [eF54, va_up_ne _ _ (pl_ne hFqm1_52 hFqm15_52 rfl)]; exact hFqm1_52
                have hFqm2_55 : F54 (qm 2) = cD (cy 0) 6 Dd.1 := by rw [eF54, va_up_ne _ _ (pl_ne hFqm2_52 hFqm15_52 rfl)]; exact hFqm2_52
                have hFqm3_55 : F54 (qm 3) = cD (cy 0) 6 Dd.2.1 := by rw [eF54, va_up_ne _ _ (pl_ne hFqm3_52 hFqm15_52 rfl)]; exact hFqm3_52
                have hFqm4_55 : F54 (qm 4) = cD (cy 0) 6 Dd.2.2.1 := by rw [eF54, va_up_ne _ _ (pl_ne hFqm4_52 hFqm15_52 rfl)]; exact hFqm4_52
                have hFqm5_55 : F54 (qm 5) = cJ (cy 2) 6 Dd.2.2.2 := by rw [eF54, va_up_ne _ _ (pl_ne hFqm5_52 hFqm15_52 rfl)]; exact hFqm5_52
                have hFqm6_55 : F54 (qm 6) = cI (cy 1) 8 Sl.1 := by rw [eF54, va_up_ne _ _ (pl_ne hFqm6_52 hFqm15_52 rfl)]; exact hFqm6_52
                have hFqm7_55 : F54 (qm 7) = cJ (cy 2) 128 Sl.2 := by rw [eF54, va_up_ne _ _ (pl_ne hFqm7_52 hFqm15_52 rfl)]; exact hFqm7_52
                have hFqm8_55 : F54 (qm 8) = cI (cy 1) 30 Pp.2.1 := by rw [eF54, va_up_ne _ _ (pl_ne hFqm8_52 hFqm15_52 rfl)]; exact hFqm8_52
                have hFqm9_55 : F54 (qm 9) = cI (cy 3) 30 Pp.2.2 := by rw [eF54, va_up_ne _ _ (pl_ne hFqm9_52 hFqm15_52 rfl)]; exact hFqm9_52
                have hFqm10_55 : F54 (qm 10) = cI (cy 1) 5 Kr.1 := by rw [eF54, va_up_ne _ _ (pl_ne hFqm10_52 hFqm15_52 rfl)]; exact hFqm10_52
                have hFqm11_55 : F54 (qm 11) = cI (cy 3) 5 Kr.2.1 := by rw [eF54, va_up_ne _ _ (pl_ne hFqm11_52 hFqm15_52 rfl)]; exact hFqm11_52
                have hFqm12_55 : F54 (qm 12) = cI (cy 1) 60 Kr.2.2 := by rw [eF54, va_up_ne _ _ (pl_ne hFqm12_52 hFqm15_52 rfl)]; exact hFqm12_52
                have hFqm13_55 : F54 (qm 13) = cI (cy 1) 4 Bk.1 := by rw [eF54, va_up_ne _ _ (pl_ne hFqm13_52 hFqm15_52 rfl)]; exact hFqm13_52
                have hFqm14_55 : F54 (qm 14) = cD (cy 0) 4 Bk.2 := by rw [eF54, va_up_ne _ _ (pl_ne hFqm14_52 hFqm15_52 rfl)]; exact hFqm14_52
                have hFqm15_55 : F54 (qm 15) = cI (cy 1) 6 (upd Xx.2 5 (Xx.2 5 + 1)) := by rw [eF54]; exact va_up_self _ _ _
                have hr55 := hqr55
                exact W.iret (v := r55) hx hb hr (fun t ht hW => ⟨⟨r55, F54, rfl, (by subst hr55 hr51 hr50 hr47 ev46 ev45 hr44 ev43 ev42 ev37; have hsp : sp_reckon Mm Xx 1 (nI j_x) (nI j_y) (nI j_into) = (-15, Mm, failX Xx 5) := (by unfold sp_reckon; rw [hi_x, hi_y, hi_into, ixk.2.1]; show rk Mm Xx 1 j_x j_y j_into = _; unfold rk; rw [if_neg (hmx.2 h1l).2, if_pos hmxl]; exact if_pos hnan0); rw [hsp]; exact ⟨rfl, (by exact ⟨⟨_, _, hmo, hFo_55⟩, ⟨hm0, hFqm0_55⟩, ⟨hm1, hFqm1_55⟩, ⟨hm2, hFqm2_55⟩, ⟨hm3, hFqm3_55⟩, ⟨hm4, hFqm4_55⟩, ⟨hm5, hFqm5_55⟩, ⟨hm6, hFqm6_55⟩, ⟨hm7, hFqm7_55⟩, ⟨hm8, hFqm8_55⟩, ⟨hm9, hFqm9_55⟩, ⟨hm10, hFqm10_55⟩, ⟨hm11, hFqm11_55⟩, ⟨hm12, hFqm12_55⟩, ⟨hm13, hFqm13_55⟩, ⟨hm14, hFqm14_55⟩, ⟨hm15, hFqm15_55⟩, hne⟩)⟩), (by show va_P _ _ _ t.heap; rw [ht]; exact hP)⟩, hS.F ht⟩) hS.2.2 dX9_reckon_234
              · have hnan : FP.Core.fIsNaN (rkF 1 (fl (tn (Mm.1 j_x) (Mm.2 j_x) 2)) (fl (tn (Mm.1 j_y) (Mm.2 j_y) 2))) = false := Bool.eq_false_iff.mpr hnan0
                refine lv_iload hx hb dX9_reckon_122 (lv_at hl 2 rfl) ?_
                refine lv_iconst (v := 2) hx hb dX9_reckon_124 (by decide) ?_
                refine lv_icmp_ge (tgt := 162) hx hb dX9_reckon_125 (by decide) (fun c56 => ?_) (fun c56 => absurd (by rw [hmxl]; decide) c56)
                refine lv_iload hx hb dX9_reckon_162 (lv_at hl 2 rfl) ?_
                refine lv_iconst (v := 2) hx hb dX9_reckon_164 (by decide) ?_
                refine lv_icmp_ne (tgt := 186) hx hb dX9_reckon_165 (by decide) (fun c57 => absurd (hmxl) c57) (fun c57 => ?_)
                refine lv_aload_n hx hb dX9_reckon_168 rfl (lv_at hl 3 rfl) ?_
                refine lv_iload_n hx hb dX9_reckon_169 rfl (lv_at hl 4 rfl) ?_
                refine lv_lload hx hb dX9_reckon_170 (lv_at hl 1 rfl) ?_
                refine vp_callSf (W.runS (As := [.long r44]) (rest := [.int 1, .ref o]) ⟨hx, hb, hml, hown, hts⟩ (c9_floatOf l r44 (by rw [hr44, ev42, ev43]; exact (by rw [hmxl]; exact tn2_ok (hVM j_x hj_x)))) (va_cwS 1 hts gX9_reckon_X9_floatOf rfl rfl rfl (by decide +kernel) ⟨Nat.le_of_ble_eq_true rfl, Nat.le_of_ble_eq_true rfl⟩) (preS_of okT (trivial)) rfl rfl hl.1 rfl (lv_room (Nat.le_of_ble_eq_true rfl)) dX9_reckon_172 ⟨Nat.le_of_ble_eq_true rfl, Nat.le_of_ble_eq_true rfl⟩) (fun r58 hr58 => ?_)
                refine lv_lload hx hb dX9_reckon_175 (lv_at hl 0 rfl) ?_
                refine vp_callSf (W.runS (As := [.long r47]) (rest := [.float r58, .int 1, .ref o]) ⟨hx, hb, hml, hown, hts⟩ (c9_floatOf l r47 (by rw [hr47, ev45, ev46]; exact (by rw [hmxl]; exact tn2_ok (hVM j_y hj_y)))) (va_cwS 1 hts gX9_reckon_X9_floatOf rfl rfl rfl (by decide +kernel) ⟨Nat.le_of_ble_eq_true rfl, Nat.le_of_ble_eq_true rfl⟩) (preS_of okT (trivial)) rfl rfl hl.1 rfl (lv_room (Nat.le_of_ble_eq_true rfl)) dX9_reckon_177 ⟨Nat.le_of_ble_eq_true rfl, Nat.le_of_ble_eq_true rfl⟩) (fun r59 hr59 => ?_)
                refine va_callv (va_runV (As := [.int 1, .float r58, .float r59]) (rest := []) ⟨hx, hb, hml, hown, hts⟩ (c9_rF_1 l G cy L F40 H.size o qm 0 Pp.1 0 oc hmo hFo_40 r58 r59 (by rw [hr58, hr44, ev42, ev43, hmxl]; exact tn2_ok (hVM j_x hj_x)) (by rw [hr59, hr47, ev45, ev46, hmxl]; exact tn2_ok (hVM j_y hj_y)) (by rw [hr58, hr44, ev42, ev43, hr59, hr47, ev45, ev46, hmxl]; exact hnan)) (cwV 3 hts gX9_reckon_X9_reckonFloats rfl rfl rfl (by decide +kernel) ⟨Nat.le_of_ble_eq_true rfl, Nat.le_of_ble_eq_true rfl⟩) (preV_of okQ (⟨rfl, hP, hK, hD.top⟩) (pl_recv hK hP (ci := 8) rfl hmo hFo_40)) rfl rfl hl.1 rfl (lv_room (Nat.le_of_ble_eq_true rfl)) dX9_reckon_180 ⟨Nat.le_of_ble_eq_true rfl, Nat.le_of_ble_eq_true rfl⟩) hS (fun q _ h => pl_free hD hS hA q h) (pl_free hD hS hA) (fun F60 t H1 locs ht hvm hw hP1 hz1 hk1 hS => ?_)
                have hP1 : va_P G vwCl (va_pl L F60) t.heap := hP1
                rw [ht] at hP1
                have hP := hP1
                generalize H1 = H at hP hS ⊢
                have eF60 : F60 = va_up F40 o (.inr (8, [.int 0, .ref (qm 0), .ref (qm 1), .ref (qm 2), .ref (qm 3), .ref (qm 4), .ref (qm 5), .ref (qm 6), .ref (qm 7), .int Pp.1, .ref (qm 8), .ref (qm 9), .ref (qm 10), .ref (qm 11), .ref (qm 12), .ref (qm 13), .ref (qm 14), .int 0, .ref (qm 15), .long ((FP.fsub r58 r59).toInt32.toInt64)])) := hw
                have hFo_60 : F60 o = .inr (8, [.int 0, .ref (qm 0), .ref (qm 1), .ref (qm 2), .ref (qm 3), .ref (qm 4), .ref (qm 5), .ref (qm 6), .ref (qm 7), .int Pp.1, .ref (qm 8), .ref (qm 9), .ref (qm 10), .ref (qm 11), .ref (qm 12), .ref (qm 13), .ref (qm 14), .int 0, .ref (qm 15), .long ((FP.fsub r58 r59).toInt32.toInt64)]) := by rw [eF60]; exact va_up_self _ _ _
                have hFqm0_60 : F60 (qm 0) = cI (cy 1) 10 Mm.1 := by rw [eF60, va_up_ne _ _ (pl_ne hFqm0_40 hFo_40 rfl)]; exact hFqm0_40
                have hFqm1_60 : F60 (qm 1) = cJ (cy 2) 10 Mm.2 := by rw [eF60, va_up_ne _ _ (pl_ne hFqm1_40 hFo_40 rfl)]; exact hFqm1_40
                have hFqm2_60 : F60 (qm 2) = cD (cy 0) 6 Dd.1 := by rw [eF60, va_up_ne _ _ (pl_ne hFqm2_40 hFo_40 rfl)]; exact hFqm2_40
                have hFqm3_60 : F60 (qm 3) = cD (cy 0) 6 Dd.2.1 := by rw [eF60, va_up_ne _ _ (pl_ne hFqm3_40 hFo_40 rfl)]; exact hFqm3_40
                have hFqm4_60 : F60 (qm 4) = cD (cy 0) 6 Dd.2.2.1 := by rw [eF60, va_up_ne _ _ (pl_ne hFqm4_40 hFo_40 rfl)]; exact hFqm4_40
                have hFqm5_60 : F60 (qm 5) = cJ (cy 2) 6 Dd.2.2.2 := by rw [eF60, va_up_ne _ _ (pl_ne hFqm5_40 hFo_40 rfl)]; exact hFqm5_40
                have hFqm6_60 : F60 (qm 6) = cI (cy 1) 8 Sl.1 := by rw [eF60, va_up_ne _ _ (pl_ne hFqm6_40 hFo_40 rfl)]; exact hFqm6_40
                have hFqm7_60 : F60 (qm 7) = cJ (cy 2) 128 Sl.2 := by rw [eF60, va_up_ne _ _ (pl_ne hFqm7_40 hFo_40 rfl)]; exact hFqm7_40
                have hFqm8_60 : F60 (qm 8) = cI (cy 1) 30 Pp.2.1 := by rw [eF60, va_up_ne _ _ (pl_ne hFqm8_40 hFo_40 rfl)]; exact hFqm8_40
                have hFqm9_60 : F60 (qm 9) = cI (cy 3) 30 Pp.2.2 := by rw [eF60, va_up_ne _ _ (pl_ne hFqm9_40 hFo_40 rfl)]; exact hFqm9_40
                have hFqm10_60 : F60 (qm 10) = cI (cy 1) 5 Kr.1 := by rw [eF60, va_up_ne _ _ (pl_ne hFqm10_40 hFo_40 rfl)]; exact hFqm10_40
                have hFqm11_60 : F60 (qm 11) = cI (cy 3) 5 Kr.2.1 := by rw [eF60, va_up_ne _ _ (pl_ne hFqm11_40 hFo_40 rfl)]; exact hFqm11_40
                have hFqm12_60 : F60 (qm 12) = cI (cy 1) 60 Kr.2.2 := by rw [eF60, va_up_ne _ _ (pl_ne hFqm12_40 hFo_40 rfl)]; exact hFqm12_40
                have hFqm13_60 : F60 (qm 13) = cI (cy 1) 4 Bk.1 := by rw [eF60, va_up_ne _ _ (pl_ne hFqm13_40 hFo_40 rfl)]; exact hFqm13_40
                have hFqm14_60 : F60 (qm 14) = cD (cy 0) 4 Bk.2 := by rw [eF60, va_up_ne _ _ (pl_ne hFqm14_40 hFo_40 rfl)]; exact hFqm14_40
                have hFqm15_60 : F60 (qm 15) = cI (cy 1) 6 Xx.2 := by rw [eF60, va_up_ne _ _ (pl_ne hFqm15_40 hFo_40 rfl)]; exact hFqm15_40
                refine lv_goto (tgt := 201) hx hb dX9_reckon_183 (by decide) ?_
                refine lv_aload_n hx hb dX9_reckon_201 rfl (lv_at hl 3 rfl) ?_
                refine pg_get (ci := 8) (C := RX9) (T := TX9) (N := 20) hx hb hts hinX9 hown hK hP hmo hFo_60 rfl 17 (by decide) (hts (.fieldLink RX9 65 "RopeDrumsModel" "failed" "I") (by decide +kernel)) (fun _ h9 => h9) rfl dX9_reckon_202 ?_
                refine lv_if_ne (tgt := 228) hx hb dX9_reckon_205 (by decide) (fun c61 => absurd (by decide) c61) (fun c61 => ?_)
                refine lv_aload_n hx hb dX9_reckon_208 rfl (lv_at hl 3 rfl) ?_
                refine pg_get (ci := 8) (C := RX9) (T := TX9) (N := 20) hx hb hts hinX9 hown hK hP hmo hFo_60 rfl 1 (by decide) (hts (.fieldLink RX9 7 "RopeDrumsModel" "laneOf" "[I") (by decide +kernel)) (fun _ h9 => h9) rfl dX9_reckon_209 ?_
                refine lv_iload hx hb dX9_reckon_212 (lv_at hl 7 rfl) ?_
                refine lv_iload hx hb dX9_reckon_214 (lv_at hl 2 rfl) ?_
                refine pg_iast hx hb hK hP hD hS 1 hm0 hFqm0_60 rfl (vp_in_nI (by omega) (by decide)) dX9_reckon_216 (fun H locs F62 eF62 hP hS => ?_)
                rw [nI_clamp (by omega)] at eF62
                have hFo_62 : F62 o = .inr (8, [.int 0, .ref (qm 0), .ref (qm 1), .ref (qm 2), .ref (qm 3), .ref (qm 4), .ref (qm 5), .ref (qm 6), .ref (qm 7), .int Pp.1, .ref (qm 8), .ref (qm 9), .ref (qm 10), .ref (qm 11), .ref (qm 12), .ref (qm 13), .ref (qm 14), .int 0, .ref (qm 15), .long ((FP.fsub r58 r59).toInt32.toInt64)]) := by rw [eF62, va_up_ne _ _ (pl_ne hFo_60 hFqm0_60 rfl)]; exact hFo_60
                have hFqm0_62 : F62 (qm 0) = cI (cy 1) 10 (upd Mm.1 j_into (mx (Mm.1 j_x) (Mm.1 j_y))) := by rw [eF62]; exact va_up_self _ _ _
                have hFqm1_62 : F62 (qm 1) = cJ (cy 2) 10 Mm.2 := by rw [eF62, va_up_ne _ _ (pl_ne hFqm1_60 hFqm0_60 rfl)]; exact hFqm1_60
                have hFqm2_62 : F62 (qm 2) = cD (cy 0) 6 Dd.1 := by rw [eF62, va_up_ne _ _ (pl_ne hFqm2_60 hFqm0_60 rfl)]; exact hFqm2_60
                have hFqm3_62 : F62 (qm 3) = cD (cy 0) 6 Dd.2.1 := by rw [eF62, va_up_ne _ _ (pl_ne hFqm3_60 hFqm0_60 rfl)]; exact hFqm3_60
                have hFqm4_62 : F62 (qm 4) = cD (cy 0) 6 Dd.2.2.1 := by rw [eF62, va_up_ne _ _ (pl_ne hFqm4_60 hFqm0_60 rfl)]; exact hFqm4_60
                have hFqm5_62 : F62 (qm 5) = cJ (cy 2) 6 Dd.2.2.2 := by rw [eF62, va_up_ne _ _ (pl_ne hFqm5_60 hFqm0_60 rfl)]; exact hFqm5_60
                have hFqm6_62 : F62 (qm 6) = cI (cy 1) 8 Sl.1 := by rw [eF62, va_up_ne _ _ (pl_ne hFqm6_60 hFqm0_60 rfl)]; exact hFqm6_60
                have hFqm7_62 : F62 (qm 7) = cJ (cy 2) 128 Sl.2 := by rw [eF62, va_up_ne _ _ (pl_ne hFqm7_60 hFqm0_60 rfl)]; exact hFqm7_60
                have hFqm8_62 : F62 (qm 8) = cI (cy 1) 30 Pp.2.1 := by rw [eF62, va_up_ne _ _ (pl_ne hFqm8_60 hFqm0_60 rfl)]; exact hFqm8_60
                have hFqm9_62 : F62 (qm 9) = cI (cy 3) 30 Pp.2.2 := by rw [eF62, va_up_ne _ _ (pl_ne hFqm9_60 hFqm0_60 rfl)]; exact hFqm9_60
                have hFqm10_62 : F62 (qm 10) = cI (cy 1) 5 Kr.1 := by rw [eF62, va_up_ne _ _ (pl_ne hFqm10_60 hFqm0_60 rfl)]; exact hFqm10_60
                have hFqm11_62 : F62 (qm 11) = cI (cy 3) 5 Kr.2.1 := by rw [eF62, va_up_ne _ _ (pl_ne hFqm11_60 hFqm0_60 rfl)]; exact hFqm11_60
                have hFqm12_62 : F62 (qm 12) = cI (cy 1) 60 Kr.2.2 := by rw [eF62, va_up_ne _ _ (pl_ne hFqm12_60 hFqm0_60 rfl)]; exact hFqm12_60
                have hFqm13_62 : F62 (qm 13) = cI (cy 1) 4 Bk.1 := by rw [eF62, va_up_ne _ _ (pl_ne hFqm13_60 hFqm0_60 rfl)]; exact hFqm13_60
                have hFqm14_62 : F62 (qm 14) = cD (cy 0) 4 Bk.2 := by rw [eF62, va_up_ne _ _ (pl_ne hFqm14_60 hFqm0_60 rfl)]; exact hFqm14_60
                have hFqm15_62 : F62 (qm 15) = cI (cy 1) 6 Xx.2 := by rw [eF62, va_up_ne _ _ (pl_ne hFqm15_60 hFqm0_60 rfl)]; exact hFqm15_60
                refine lv_aload_n hx hb dX9_reckon_217 rfl (lv_at hl 3 rfl) ?_
                refine pg_get (ci := 8) (C := RX9) (T := TX9) (N := 20) hx hb hts hinX9 hown hK hP hmo hFo_62 rfl 2 (by decide) (hts (.fieldLink RX9 13 "RopeDrumsModel" "held" "[J") (by decide +kernel)) (fun _ h9 => h9) rfl dX9_reckon_218 ?_
                refine lv_iload hx hb dX9_reckon_221 (lv_at hl 7 rfl) ?_
                refine lv_aload_n hx hb dX9_reckon_223 rfl (lv_at hl 3 rfl) ?_
                refine pg_get (ci := 8) (C := RX9) (T := TX9) (N := 20) hx hb hts hinX9 hown hK hP hmo hFo_62 rfl 19 (by decide) (hts (.fieldLink RX9 131 "RopeDrumsModel" "outcome" "J") (by decide +kernel)) (fun _ h9 => h9) rfl dX9_reckon_224 ?_
                refine pg_last hx hb hK hP hD hS 2 hm1 hFqm1_62 rfl (vp_in_nI (by omega) (by decide)) dX9_reckon_227 (fun H locs F63 eF63 hP hS => ?_)
                rw [nI_clamp (by omega)] at eF63
                have hFo_63 : F63 o = .inr (8, [.int 0, .ref (qm 0), .ref (qm 1), .ref (qm 2), .ref (qm 3), .ref (qm 4), .ref (qm 5), .ref (qm 6), .ref (qm 7), .int Pp.1, .ref (qm 8), .ref (qm 9), .ref (qm 10), .ref (qm 11), .ref (qm 12), .ref (qm 13), .ref (qm 14), .int 0, .ref (qm 15), .long ((FP.fsub r58 r59).toInt32.toInt64)]) := by rw [eF63, va_up_ne _ _ (pl_ne hFo_62 hFqm1_62 rfl)]; exact hFo_62
                have hFqm0_63 : F63 (qm 0) = cI (cy 1) 10 (upd Mm.1 j_into (mx (Mm.1 j_x) (Mm.1 j_y))) := by rw [eF63, va_up_ne _ _ (pl_ne hFqm0_62 hFqm1_62 rfl)]; exact hFqm0_62
                have hFqm1_63 : F63 (qm 1) = cJ (cy 2) 10 (vp_updL Mm.2 j_into ((FP.fsub r58 r59).toInt32.toInt64)) := by rw [eF63]; exact va_up_self _ _ _
                have hFqm2_63 : F63 (qm 2) = cD (cy 0) 6 Dd.1 := by rw [eF63, va_up_ne _ _ (pl_ne hFqm2_62 hFqm1_62 rfl)]; exact hFqm2_62
                have hFqm3_63 : F63 (qm 3) = cD (cy 0) 6 Dd.2.1 := by rw [eF63, va_up_ne _ _ (pl_ne hFqm3_62 hFqm1_62 rfl)]; exact hFqm3_62
                have hFqm4_63 : F63 (qm 4) = cD (cy 0) 6 Dd.2.2.1 := by rw [eF63, va_up_ne _ _ (pl_ne hFqm4_62 hFqm1_62 rfl)]; exact hFqm4_62
                have hFqm5_63 : F63 (qm 5) = cJ (cy 2) 6 Dd.2.2.2 := by rw [eF63, va_up_ne _ _ (pl_ne hFqm5_62 hFqm1_62 rfl)]; exact hFqm5_62
                have hFqm6_63 : F63 (qm 6) = cI (cy 1) 8 Sl.1 := by rw [eF63, va_up_ne _ _ (pl_ne hFqm6_62 hFqm1_62 rfl)]; exact hFqm6_62
                have hFqm7_63 : F63 (qm 7) = cJ (cy 2) 128 Sl.2 := by rw [eF63, va_up_ne _ _ (pl_ne hFqm7_62 hFqm1_62 rfl)]; exact hFqm7_62
                have hFqm8_63 : F63 (qm 8) = cI (cy 1) 30 Pp.2.1 := by rw [eF63, va_up_ne _ _ (pl_ne hFqm8_62 hFqm1_62 rfl)]; exact hFqm8_62
                have hFqm9_63 : F63 (qm 9) = cI (cy 3) 30 Pp.2.2 := by rw [eF63, va_up_ne _ _ (pl_ne hFqm9_62 hFqm1_62 rfl)]; exact hFqm9_62
                have hFqm10_63 : F63 (qm 10) = cI (cy 1) 5 Kr.1 := by rw [eF63, va_up_ne _ _ (pl_ne hFqm10_62 hFqm1_62 rfl)]; exact hFqm10_62
                have hFqm11_63 : F63 (qm 11) = cI (cy 3) 5 Kr.2.1 := by rw [eF63, va_up_ne _ _ (pl_ne hFqm11_62 hFqm1_62 rfl)]; exact hFqm11_62
                have hFqm12_63 : F63 (qm 12) = cI (cy 1) 60 Kr.2.2 := by rw [eF63, va_up_ne _ _ (pl_ne hFqm12_62 hFqm1_62 rfl)]; exact hFqm12_62
                have hFqm13_63 : F63 (qm 13) = cI (cy 1) 4 Bk.1 := by rw [eF63, va_up_ne _ _ (pl_ne hFqm13_62 hFqm1_62 rfl)]; exact hFqm13_62
                have hFqm14_63 : F63 (qm 14) = cD (cy 0) 4 Bk.2 := by rw [eF63, va_up_ne _ _ (pl_ne hFqm14_62 hFqm1_62 rfl)]; exact hFqm14_62
                have hFqm15_63 : F63 (qm 15) = cI (cy 1) 6 Xx.2 := by rw [eF63, va_up_ne _ _ (pl_ne hFqm15_62 hFqm1_62 rfl)]; exact hFqm15_62
                refine lv_aload_n hx hb dX9_reckon_228 rfl (lv_at hl 3 rfl) ?_
                refine lv_iload hx hb dX9_reckon_229 (lv_at hl 2 rfl) ?_
                refine va_calli (va_runV (As := [.int (mx (Mm.1 j_x) (Mm.1 j_y))]) (rest := []) ⟨hx, hb, hml, hown, hts⟩ (c9_answers_0 l G cy L F63 H.size o qm 0 Pp.1 ((FP.fsub r58 r59).toInt32.toInt64) hmo hFo_63 Xx.2 hm15 hFqm15_63 (mx (Mm.1 j_x) (Mm.1 j_y))) (cwV 1 hts gX9_reckon_X9_answers rfl rfl rfl (by decide +kernel) ⟨Nat.le_of_ble_eq_true rfl, Nat.le_of_ble_eq_true rfl⟩) (preV_of okQ (⟨rfl, hP, hK, hD.top⟩) (pl_recv hK hP (ci := 8) rfl hmo hFo_63)) rfl rfl hl.1 rfl (lv_room (Nat.le_of_ble_eq_true rfl)) dX9_reckon_231 ⟨Nat.le_of_ble_eq_true rfl, Nat.le_of_ble_eq_true rfl⟩) hS (fun q _ h => pl_free hD hS hA q h) (pl_free hD hS hA) (fun r65 F64 t H1 locs ht hvm hw hP1 hz1 hk1 hS => ?_)
                have hP1 : va_P G vwCl (va_pl L F64) t.heap := hP1
                rw [ht] at hP1
                have hP := hP1
                generalize H1 = H at hP hS ⊢
                obtain ⟨hqr65, eF64⟩ := hw
                have hFo_F64 : F64 o = .inr (8, [.int 0, .ref (qm 0), .ref (qm 1), .ref (qm 2), .ref (qm 3), .ref (qm 4), .ref (qm 5), .ref (qm 6), .ref (qm 7), .int Pp.1, .ref (qm 8), .ref (qm 9), .ref (qm 10), .ref (qm 11), .ref (qm 12), .ref (qm 13), .ref (qm 14), .int 0, .ref (qm 15), .long ((FP.fsub r58 r59).toInt32.toInt64)]) := by rw [eF64]; exact hFo_63
                have hFqm0_F64 : F64 (qm 0) = cI (cy 1) 10 (upd Mm.1 j_into (mx (Mm.1 j_x) (Mm.1 j_y))) := by rw [eF64]; exact hFqm0_63
                have hFqm1_F64 : F64 (qm 1) = cJ (cy 2) 10 (vp_updL Mm.2 j_into ((FP.fsub r58 r59).toInt32.toInt64)) := by rw [eF64]; exact hFqm1_63
                have hFqm2_F64 : F64 (qm 2) = cD (cy 0) 6 Dd.1 := by rw [eF64]; exact hFqm2_63
                have hFqm3_F64 : F64 (qm 3) = cD (cy 0) 6 Dd.2.1 := by rw [eF64]; exact hFqm3_63
                have hFqm4_F64 : F64 (qm 4) = cD (cy 0) 6 Dd.2.2.1 := by rw [eF64]; exact hFqm4_63
                have hFqm5_F64 : F64 (qm 5) = cJ (cy 2) 6 Dd.2.2.2 := by rw [eF64]; exact hFqm5_63
                have hFqm6_F64 : F64 (qm 6) = cI (cy 1) 8 Sl.1 := by rw [eF64]; exact hFqm6_63
                have hFqm7_F64 : F64 (qm 7) = cJ (cy 2) 128 Sl.2 := by rw [eF64]; exact hFqm7_63
                have hFqm8_F64 : F64 (qm 8) = cI (cy 1) 30 Pp.2.1 := by rw [eF64]; exact hFqm8_63
                have hFqm9_F64 : F64 (qm 9) = cI (cy 3) 30 Pp.2.2 := by rw [eF64]; exact hFqm9_63
                have hFqm10_F64 : F64 (qm 10) = cI (cy 1) 5 Kr.1 := by rw [eF64]; exact hFqm10_63
                have hFqm11_F64 : F64 (qm 11) = cI (cy 3) 5 Kr.2.1 := by rw [eF64]; exact hFqm11_63
                have hFqm12_F64 : F64 (qm 12) = cI (cy 1) 60 Kr.2.2 := by rw [eF64]; exact hFqm12_63
                have hFqm13_F64 : F64 (qm 13) = cI (cy 1) 4 Bk.1 := by rw [eF64]; exact hFqm13_63
                have hFqm14_F64 : F64 (qm 14) = cD (cy 0) 4 Bk.2 := by rw [eF64]; exact hFqm14_63
                have hFqm15_F64 : F64 (qm 15) = cI (cy 1) 6 Xx.2 := by rw [eF64]; exact hFqm15_63
                have hr65 := hqr65
                exact W.iret (v := r65) hx hb hr (fun t ht hW => ⟨⟨r65, F64, rfl, (by subst hr65 hr59 hr58 hr47 ev46 ev45 hr44 ev43 ev42 ev37; have hsp : sp_reckon Mm Xx 1 (nI j_x) (nI j_y) (nI j_into) = (2, setM Mm j_into 2 (rkF 1 (fl (tn (Mm.1 j_x) (Mm.2 j_x) 2)) (fl (tn (Mm.1 j_y) (Mm.2 j_y) 2))).toInt32.toInt64, goodX Xx) := (by unfold sp_reckon; rw [hi_x, hi_y, hi_into, ixk.2.1]; show rk Mm Xx 1 j_x j_y j_into = _; unfold rk; rw [if_neg (hmx.2 h1l).2, if_pos hmxl]; exact if_neg (by rw [hnan]; decide)); rw [hsp]; have hh := hFqm1_F64; have hh0 := hFqm0_F64; rw [hmxl] at hh hh0; exact ⟨hmxl, ⟨⟨_, _, hmo, hFo_F64⟩, ⟨hm0, hh0⟩, ⟨hm1, hh⟩, ⟨hm2, hFqm2_F64⟩, ⟨hm3, hFqm3_F64⟩, ⟨hm4, hFqm4_F64⟩, ⟨hm5, hFqm5_F64⟩, ⟨hm6, hFqm6_F64⟩, ⟨hm7, hFqm7_F64⟩, ⟨hm8, hFqm8_F64⟩, ⟨hm9, hFqm9_F64⟩, ⟨hm10, hFqm10_F64⟩, ⟨hm11, hFqm11_F64⟩, ⟨hm12, hFqm12_F64⟩, ⟨hm13, hFqm13_F64⟩, ⟨hm14, hFqm14_F64⟩, ⟨hm15, hFqm15_F64⟩, hne⟩⟩), (by show va_P _ _ _ t.heap; rw [ht]; exact hP)⟩, hS.F ht⟩) hS.2.2 dX9_reckon_234
            · by_cases hnan0 : FP.Core.dIsNaN (rkD 1 (db (tn (Mm.1 j_x) (Mm.2 j_x) 3)) (db (tn (Mm.1 j_y) (Mm.2 j_y) 3))) = true
              · refine lv_iload hx hb dX9_reckon_122 (lv_at hl 2 rfl) ?_
                refine lv_iconst (v := 2) hx hb dX9_reckon_124 (by decide) ?_
                refine lv_icmp_ge (tgt := 162) hx hb dX9_reckon_125 (by decide) (fun c66 => ?_) (fun c66 => absurd (by rw [hmxl]; decide) c66)
                refine lv_iload hx hb dX9_reckon_162 (lv_at hl 2 rfl) ?_
                refine lv_iconst (v := 2) hx hb dX9_reckon_164 (by decide) ?_
                refine lv_icmp_ne (tgt := 186) hx hb dX9_reckon_165 (by decide) (fun c67 => ?_) (fun c67 => absurd c67 (by rw [hmxl]; decide))
                refine lv_aload_n hx hb dX9_reckon_186 rfl (lv_at hl 3 rfl) ?_
                refine lv_iload_n hx hb dX9_reckon_187 rfl (lv_at hl 4 rfl) ?_
                refine lv_lload hx hb dX9_reckon_188 (lv_at hl 1 rfl) ?_
                refine vp_callSd (W.runS (As := [.long r44]) (rest := [.int 1, .ref o]) ⟨hx, hb, hml, hown, hts⟩ (c9_doubleOf l r44 (by rw [hr44, ev42, ev43]; exact (by rw [hmxl]; exact tn3_ok (hVM j_x hj_x)))) (va_cwS 1 hts gX9_reckon_X9_doubleOf rfl rfl rfl (by decide +kernel) ⟨Nat.le_of_ble_eq_true rfl, Nat.le_of_ble_eq_true rfl⟩) (preS_of okT (trivial)) rfl rfl hl.1 rfl (lv_room (Nat.le_of_ble_eq_true rfl)) dX9_reckon_190 ⟨Nat.le_of_ble_eq_true rfl, Nat.le_of_ble_eq_true rfl⟩) (fun r68 hr68 => ?_)
                refine lv_lload hx hb dX9_reckon_193 (lv_at hl 0 rfl) ?_
                refine vp_callSd (W.runS (As := [.long r47]) (rest := [.double r68, .int 1, .ref o]) ⟨hx, hb, hml, hown, hts⟩ (c9_doubleOf l r47 (by rw [hr47, ev45, ev46]; exact (by rw [hmxl]; exact tn3_ok (hVM j_y hj_y)))) (va_cwS 1 hts gX9_reckon_X9_doubleOf rfl rfl rfl (by decide +kernel) ⟨Nat.le_of_ble_eq_true rfl, Nat.le_of_ble_eq_true rfl⟩) (preS_of okT (trivial)) rfl rfl hl.1 rfl (lv_room (Nat.le_of_ble_eq_true rfl)) dX9_reckon_195 ⟨Nat.le_of_ble_eq_true rfl, Nat.le_of_ble_eq_true rfl⟩) (fun r69 hr69 => ?_)
                refine va_callv (va_runV (As := [.int 1, .double r68, .double r69]) (rest := []) ⟨hx, hb, hml, hown, hts⟩ (c9_rD_1_no l G cy L F40 H.size o qm 0 Pp.1 0 oc hmo hFo_40 r68 r69 (by rw [hr68, hr44, ev42, ev43, hmxl]; exact tn3_ok (hVM j_x hj_x)) (by rw [hr69, hr47, ev45, ev46, hmxl]; exact tn3_ok (hVM j_y hj_y)) (by rw [hr68, hr44, ev42, ev43, hr69, hr47, ev45, ev46, hmxl]; exact hnan0)) (cwV 3 hts gX9_reckon_X9_reckonDoubles rfl rfl rfl (by decide +kernel) ⟨Nat.le_of_ble_eq_true rfl, Nat.le_of_ble_eq_true rfl⟩) (preV_of okQ (⟨rfl, hP, hK, hD.top⟩) (pl_recv hK hP (ci := 8) rfl hmo hFo_40)) rfl rfl hl.1 rfl (lv_room (Nat.le_of_ble_eq_true rfl)) dX9_reckon_198 ⟨Nat.le_of_ble_eq_true rfl, Nat.le_of_ble_eq_true rfl⟩) hS (fun q _ h => pl_free hD hS hA q h) (pl_free hD hS hA) (fun F70 t H1 locs ht hvm hw hP1 hz1 hk1 hS => ?_)
                have hP1 : va_P G vwCl (va_pl L F70) t.heap := hP1
                rw [ht] at hP1
                have hP := hP1
                generalize H1 = H at hP hS ⊢
                have eF70 : F70 = va_up F40 o (.inr (8, [.int 0, .ref (qm 0), .ref (qm 1), .ref (qm 2), .ref (qm 3), .ref (qm 4), .ref (qm 5), .ref (qm 6), .ref (qm 7), .int Pp.1, .ref (qm 8), .ref (qm 9), .ref (qm 10), .ref (qm 11), .ref (qm 12), .ref (qm 13), .ref (qm 14), .int 5, .ref (qm 15), .long oc])) := hw
                have hFo_70 : F70 o = .inr (8, [.int 0, .ref (qm 0), .ref (qm 1), .ref (qm 2), .ref (qm 3), .ref (qm 4), .ref (qm 5), .ref (qm 6), .ref (qm 7), .int Pp.1, .ref (qm 8), .ref (qm 9), .ref (qm 10), .ref (qm 11), .ref (qm 12), .ref (qm 13), .ref (qm 14), .int 5, .ref (qm 15), .long oc]) := by rw [eF70]; exact va_up_self _ _ _
                have hFqm0_70 : F70 (qm 0) = cI (cy 1) 10 Mm.1 := by rw [eF70, va_up_ne _ _ (pl_ne hFqm0_40 hFo_40 rfl)]; exact hFqm0_40
                have hFqm1_70 : F70 (qm 1) = cJ (cy 2) 10 Mm.2 := by rw [eF70, va_up_ne _ _ (pl_ne hFqm1_40 hFo_40 rfl)]; exact hFqm1_40
                have hFqm2_70 : F70 (qm 2) = cD (cy 0) 6 Dd.1 := by rw [eF70, va_up_ne _ _ (pl_ne hFqm2_40 hFo_40 rfl)]; exact hFqm2_40
                have hFqm3_70 : F70 (qm 3) = cD (cy 0) 6 Dd.2.1 := by rw [eF70, va_up_ne _ _ (pl_ne hFqm3_40 hFo_40 rfl)]; exact hFqm3_40
                have hFqm4_70 : F70 (qm 4) = cD (cy 0) 6 Dd.2.2.1 := by rw [eF70, va_up_ne _ _ (pl_ne hFqm4_40 hFo_40 rfl)]; exact hFqm4_40
                have hFqm5_70 : F70 (qm 5) = cJ (cy 2) 6 Dd.2.2.2 := by rw [eF70, va_up_ne _ _ (pl_ne hFqm5_40 hFo_40 rfl)]; exact hFqm5_40
                have hFqm6_70 : F70 (qm 6) = cI (cy 1) 8 Sl.1 := by rw [eF70, va_up_ne _ _ (pl_ne hFqm6_40 hFo_40 rfl)]; exact hFqm6_40
                have hFqm7_70 : F70 (qm 7) = cJ (cy 2) 128 Sl.2 := by rw [eF70, va_up_ne _ _ (pl_ne hFqm7_40 hFo_40 rfl)]; exact hFqm7_40
                have hFqm8_70 : F70 (qm 8) = cI (cy 1) 30 Pp.2.1 := by rw [eF70, va_up_ne _ _ (pl_ne hFqm8_40 hFo_40 rfl)]; exact hFqm8_40
                have hFqm9_70 : F70 (qm 9) = cI (cy 3) 30 Pp.2.2 := by rw [eF70, va_up_ne _ _ (pl_ne hFqm9_40 hFo_40 rfl)]; exact hFqm9_40
                have hFqm10_70 : F70 (qm 10) = cI (cy 1) 5 Kr.1 := by rw [eF70, va_up_ne _ _ (pl_ne hFqm10_40 hFo_40 rfl)]; exact hFqm10_40
                have hFqm11_70 : F70 (qm 11) = cI (cy 3) 5 Kr.2.1 := by rw [eF70, va_up_ne _ _ (pl_ne hFqm11_40 hFo_40 rfl)]; exact hFqm11_40
                have hFqm12_70 : F70 (qm 12) = cI (cy 1) 60 Kr.2.2 := by rw [eF70, va_up_ne _ _ (pl_ne hFqm12_40 hFo_40 rfl)]; exact hFqm12_40
                have hFqm13_70 : F70 (qm 13) = cI (cy 1) 4 Bk.1 := by rw [eF70, va_up_ne _ _ (pl_ne hFqm13_40 hFo_40 rfl)]; exact hFqm13_40
                have hFqm14_70 : F70 (qm 14) = cD (cy 0) 4 Bk.2 := by rw [eF70, va_up_ne _ _ (pl_ne hFqm14_40 hFo_40 rfl)]; exact hFqm14_40
                have hFqm15_70 : F70 (qm 15) = cI (cy 1) 6 Xx.2 := by rw [eF70, va_up_ne _ _ (pl_ne hFqm15_40 hFo_40 rfl)]; exact hFqm15_40
                refine lv_aload_n hx hb dX9_reckon_201 rfl (lv_at hl 3 rfl) ?_
                refine pg_get (ci := 8) (C := RX9) (T := TX9) (N := 20) hx hb hts hinX9 hown hK hP hmo hFo_70 rfl 17 (by decide) (hts (.fieldLink RX9 65 "RopeDrumsModel" "failed" "I") (by decide +kernel)) (fun _ h9 => h9) rfl dX9_reckon_202 ?_
                refine lv_if_ne (tgt := 228) hx hb dX9_reckon_205 (by decide) (fun c71 => ?_) (fun c71 => absurd c71 (by decide))
                refine lv_aload_n hx hb dX9_reckon_228 rfl (lv_at hl 3 rfl) ?_
                refine lv_iload hx hb dX9_reckon_229 (lv_at hl 2 rfl) ?_
                refine va_calli (va_runV (As := [.int (mx (Mm.1 j_x) (Mm.1 j_y))]) (rest := []) ⟨hx, hb, hml, hown, hts⟩ (c9_answers_5 l G cy L F70 H.size o qm 0 Pp.1 oc hmo hFo_70 Xx.2 hm15 hFqm15_70 (mx (Mm.1 j_x) (Mm.1 j_y))) (cwV 1 hts gX9_reckon_X9_answers rfl rfl rfl (by decide +kernel) ⟨Nat.le_of_ble_eq_true rfl, Nat.le_of_ble_eq_true rfl⟩) (preV_of okQ (⟨rfl, hP, hK, hD.top⟩) (pl_recv hK hP (ci := 8) rfl hmo hFo_70)) rfl rfl hl.1 rfl (lv_room (Nat.le_of_ble_eq_true rfl)) dX9_reckon_231 ⟨Nat.le_of_ble_eq_true rfl, Nat.le_of_ble_eq_true rfl⟩) hS (fun q _ h => pl_free hD hS hA q h) (pl_free hD hS hA) (fun r73 F72 t H1 locs ht hvm hw hP1 hz1 hk1 hS => ?_)
                have hP1 : va_P G vwCl (va_pl L F72) t.heap := hP1
                rw [ht] at hP1
                have hP := hP1
                generalize H1 = H at hP hS ⊢
                obtain ⟨hqr73, eF72⟩ := hw
                have eF72 : F72 = va_up F70 (qm 15) (cI (cy 1) 6 (upd Xx.2 5 (Xx.2 5 + 1))) := eF72
                have hFo_73 : F72 o = .inr (8, [.int 0, .ref (qm 0), .ref (qm 1), .ref (qm 2), .ref (qm 3), .ref (qm 4), .ref (qm 5), .ref (qm 6), .ref (qm 7), .int Pp.1, .ref (qm 8), .ref (qm 9), .ref (qm 10), .ref (qm 11), .ref (qm 12), .ref (qm 13), .ref (qm 14), .int 5, .ref (qm 15), .long oc]) := by rw [eF72, va_up_ne _ _ (pl_ne hFo_70 hFqm15_70 rfl)]; exact hFo_70
                have hFqm0_73 : F72 (qm 0) = cI (cy 1) 10 Mm.1 := by rw [eF72, va_up_ne _ _ (pl_ne hFqm0_70 hFqm15_70 rfl)]; exact hFqm0_70
                have hFqm1_73 : F72 (qm 1) = cJ (cy 2) 10 Mm.2 := by rw [eF72, va_up_ne _ _ (pl_ne hFqm1_70 hFqm15_70 rfl)]; exact hFqm1_70
                have hFqm2_73 : F72 (qm 2) = cD (cy 0) 6 Dd.1 := by rw [eF72, va_up_ne _ _ (pl_ne hFqm2_70 hFqm15_70 rfl)]; exact hFqm2_70
                have hFqm3_73 : F72 (qm 3) = cD (cy 0) 6 Dd.2.1 := by rw [eF72, va_up_ne _ _ (pl_ne hFqm3_70 hFqm15_70 rfl)]; exact hFqm3_70
                have hFqm4_73 : F72 (qm 4) = cD (cy 0) 6 Dd.2.2.1 := by rw [eF72, va_up_ne _ _ (pl_ne hFqm4_70 hFqm15_70 rfl)]; exact hFqm4_70
                have hFqm5_73 : F72 (qm 5) = cJ (cy 2) 6 Dd.2.2.2 := by rw [eF72, va_up_ne _ _ (pl_ne hFqm5_70 hFqm15_70 rfl)]; exact hFqm5_70
                have hFqm6_73 : F72 (qm 6) = cI (cy 1) 8 Sl.1 := by rw [eF72, va_up_ne _ _ (pl_ne hFqm6_70 hFqm15_70 rfl)]; exact hFqm6_70
                have hFqm7_73 : F72 (qm 7) = cJ (cy 2) 128 Sl.2 := by rw [eF72, va_up_ne _ _ (pl_ne hFqm7_70 hFqm15_70 rfl)]; exact hFqm7_70
                have hFqm8_73 : F72 (qm 8) = cI (cy 1) 30 Pp.2.1 := by rw [eF72, va_up_ne _ _ (pl_ne hFqm8_70 hFqm15_70 rfl)]; exact hFqm8_70
                have hFqm9_73 : F72 (qm 9) = cI (cy 3) 30 Pp.2.2 := by rw [eF72, va_up_ne _ _ (pl_ne hFqm9_70 hFqm15_70 rfl)]; exact hFqm9_70
                have hFqm10_73 : F72 (qm 10) = cI (cy 1) 5 Kr.1 := by rw [eF72, va_up_ne _ _ (pl_ne hFqm10_70 hFqm15_70 rfl)]; exact hFqm10_70
                have hFqm11_73 : F72 (qm 11) = cI (cy 3) 5 Kr.2.1 := by rw [eF72, va_up_ne _ _ (pl_ne hFqm11_70 hFqm15_70 rfl)]; exact hFqm11_70
                have hFqm12_73 : F72 (qm 12) = cI (cy 1) 60 Kr.2.2 := by rw [eF72, va_up_ne _ _ (pl_ne hFqm12_70 hFqm15_70 rfl)]; exact hFqm12_70
                have hFqm13_73 : F72 (qm 13) = cI (cy 1) 4 Bk.1 := by rw [eF72, va_up_ne _ _ (pl_ne hFqm13_70 hFqm15_70 rfl)]; exact hFqm13_70
                have hFqm14_73 : F72 (qm 14) = cD (cy 0) 4 Bk.2 := by rw [eF72, va_up_ne _ _ (pl_ne hFqm14_70 hFqm15_70 rfl)]; exact hFqm14_70
                have hFqm15_73 : F72 (qm 15) = cI (cy 1) 6 (upd Xx.2 5 (Xx.2 5 + 1)) := by rw [eF72]; exact va_up_self _ _ _
                have hr73 := hqr73
                exact W.iret (v := r73) hx hb hr (fun t ht hW => ⟨⟨r73, F72, rfl, (by subst hr73 hr69 hr68 hr47 ev46 ev45 hr44 ev43 ev42 ev37; have hsp : sp_reckon Mm Xx 1 (nI j_x) (nI j_y) (nI j_into) = (-15, Mm, failX Xx 5) := (by unfold sp_reckon; rw [hi_x, hi_y, hi_into, ixk.2.1]; show rk Mm Xx 1 j_x j_y j_into = _; unfold rk; rw [if_neg (hmx.2 h1l).2, if_neg (by rw [hmxl]; decide)]; exact if_pos hnan0); rw [hsp]; exact ⟨rfl, (by exact ⟨⟨_, _, hmo, hFo_73⟩, ⟨hm0, hFqm0_73⟩, ⟨hm1, hFqm1_73⟩, ⟨hm2, hFqm2_73⟩, ⟨hm3, hFqm3_73⟩, ⟨hm4, hFqm4_73⟩, ⟨hm5, hFqm5_73⟩, ⟨hm6, hFqm6_73⟩, ⟨hm7, hFqm7_73⟩, ⟨hm8, hFqm8_73⟩, ⟨hm9, hFqm9_73⟩, ⟨hm10, hFqm10_73⟩, ⟨hm11, hFqm11_73⟩, ⟨hm12, hFqm12_73⟩, ⟨hm13, hFqm13_73⟩, ⟨hm14, hFqm14_73⟩, ⟨hm15, hFqm15_73⟩, hne⟩)⟩), (by show va_P _ _ _ t.heap; rw [ht]; exact hP)⟩, hS.F ht⟩) hS.2.2 dX9_reckon_234
              · have hnan : FP.Core.dIsNaN (rkD 1 (db (tn (Mm.1 j_x) (Mm.2 j_x) 3)) (db (tn (Mm.1 j_y) (Mm.2 j_y) 3))) = false := Bool.eq_false_iff.mpr hnan0
                refine lv_iload hx hb dX9_reckon_122 (lv_at hl 2 rfl) ?_
                refine lv_iconst (v := 2) hx hb dX9_reckon_124 (by decide) ?_
                refine lv_icmp_ge (tgt := 162) hx hb dX9_reckon_125 (by decide) (fun c74 => ?_) (fun c74 => absurd (by rw [hmxl]; decide) c74)
                refine lv_iload hx hb dX9_reckon_162 (lv_at hl 2 rfl) ?_
                refine lv_iconst (v := 2) hx hb dX9_reckon_164 (by decide) ?_
                refine lv_icmp_ne (tgt := 186) hx hb dX9_reckon_165 (by decide) (fun c75 => ?_) (fun c75 => absurd c75 (by rw [hmxl]; decide))
                refine lv_aload_n hx hb dX9_reckon_186 rfl (lv_at hl 3 rfl) ?_
                refine lv_iload_n hx hb dX9_reckon_187 rfl (lv_at hl 4 rfl) ?_
                refine lv_lload hx hb dX9_reckon_188 (lv_at hl 1 rfl) ?_
                refine vp_callSd (W.runS (As := [.long r44]) (rest := [.int 1, .ref o]) ⟨hx, hb, hml, hown, hts⟩ (c9_doubleOf l r44 (by rw [hr44, ev42, ev43]; exact (by rw [hmxl]; exact tn3_ok (hVM j_x hj_x)))) (va_cwS 1 hts gX9_reckon_X9_doubleOf rfl rfl rfl (by decide +kernel) ⟨Nat.le_of_ble_eq_true rfl, Nat.le_of_ble_eq_true rfl⟩) (preS_of okT (trivial)) rfl rfl hl.1 rfl (lv_room (Nat.le_of_ble_eq_true rfl)) dX9_reckon_190 ⟨Nat.le_of_ble_eq_true rfl, Nat.le_of_ble_eq_true rfl⟩) (fun r76 hr76 => ?_)
                refine lv_lload hx hb dX9_reckon_193 (lv_at hl 0 rfl) ?_
                refine vp_callSd (W.runS (As := [.long r47]) (rest := [.double r76, .int 1, .ref o]) ⟨hx, hb, hml, hown, hts⟩ (c9_doubleOf l r47 (by rw [hr47, ev45, ev46]; exact (by rw [hmxl]; exact tn3_ok (hVM j_y hj_y)))) (va_cwS 1 hts gX9_reckon_X9_doubleOf rfl rfl rfl (by decide +kernel) ⟨Nat.le_of_ble_eq_true rfl, Nat.le_of_ble_eq_true rfl⟩) (preS_of okT (trivial)) rfl rfl hl.1 rfl (lv_room (Nat.le_of_ble_eq_true rfl)) dX9_reckon_195 ⟨Nat.le_of_ble_eq_true rfl, Nat.le_of_ble_eq_true rfl⟩) (fun r77 hr77 => ?_)
                refine va_callv (va_runV (As := [.int 1, .double r76, .double r77]) (rest := []) ⟨hx, hb, hml, hown, hts⟩ (c9_rD_1 l G cy L F40 H.size o qm 0 Pp.1 0 oc hmo hFo_40 r76 r77 (by rw [hr76, hr44, ev42, ev43, hmxl]; exact tn3_ok (hVM j_x hj_x)) (by rw [hr77, hr47, ev45, ev46, hmxl]; exact tn3_ok (hVM j_y hj_y)) (by rw [hr76, hr44, ev42, ev43, hr77, hr47, ev45, ev46, hmxl]; exact hnan)) (cwV 3 hts gX9_reckon_X9_reckonDoubles rfl rfl rfl (by decide +kernel) ⟨Nat.le_of_ble_eq_true rfl, Nat.le_of_ble_eq_true rfl⟩) (preV_of okQ (⟨rfl, hP, hK, hD.top⟩) (pl_recv hK hP (ci := 8) rfl hmo hFo_40)) rfl rfl hl.1 rfl (lv_room (Nat.le_of_ble_eq_true rfl)) dX9_reckon_198 ⟨Nat.le_of_ble_eq_true rfl, Nat.le_of_ble_eq_true rfl⟩) hS (fun q _ h => pl_free hD hS hA q h) (pl_free hD hS hA) (fun F78 t H1 locs ht hvm hw hP1 hz1 hk1 hS => ?_)
                have hP1 : va_P G vwCl (va_pl L F78) t.heap := hP1
                rw [ht] at hP1
                have hP := hP1
                generalize H1 = H at hP hS ⊢
                have eF78 : F78 = va_up F40 o (.inr (8, [.int 0, .ref (qm 0), .ref (qm 1), .ref (qm 2), .ref (qm 3), .ref (qm 4), .ref (qm 5), .ref (qm 6), .ref (qm 7), .int Pp.1, .ref (qm 8), .ref (qm 9), .ref (qm 10), .ref (qm 11), .ref (qm 12), .ref (qm 13), .ref (qm 14), .int 0, .ref (qm 15), .long ((FP.dsub r76 r77).toInt64)])) := hw
                have hFo_78 : F78 o = .inr (8, [.int 0, .ref (qm 0), .ref (qm 1), .ref (qm 2), .ref (qm 3), .ref (qm 4), .ref (qm 5), .ref (qm 6), .ref (qm 7), .int Pp.1, .ref (qm 8), .ref (qm 9), .ref (qm 10), .ref (qm 11), .ref (qm 12), .ref (qm 13), .ref (qm 14), .int 0, .ref (qm 15), .long ((FP.dsub r76 r77).toInt64)]) := by rw [eF78]; exact va_up_self _ _ _
                have hFqm0_78 : F78 (qm 0) = cI (cy 1) 10 Mm.1 := by rw [eF78, va_up_ne _ _ (pl_ne hFqm0_40 hFo_40 rfl)]; exact hFqm0_40
                have hFqm1_78 : F78 (qm 1) = cJ (cy 2) 10 Mm.2 := by rw [eF78, va_up_ne _ _ (pl_ne hFqm1_40 hFo_40 rfl)]; exact hFqm1_40
                have hFqm2_78 : F78 (qm 2) = cD (cy 0) 6 Dd.1 := by rw [eF78, va_up_ne _ _ (pl_ne hFqm2_40 hFo_40 rfl)]; exact hFqm2_40
                have hFqm3_78 : F78 (qm 3) = cD (cy 0) 6 Dd.2.1 := by rw [eF78, va_up_ne _ _ (pl_ne hFqm3_40 hFo_40 rfl)]; exact hFqm3_40
                have hFqm4_78 : F78 (qm 4) = cD (cy 0) 6 Dd.2.2.1 := by rw [eF78, va_up_ne _ _ (pl_ne hFqm4_40 hFo_40 rfl)]; exact hFqm4_40
                have hFqm5_78 : F78 (qm 5) = cJ (cy 2) 6 Dd.2.2.2 := by rw [eF78, va_up_ne _ _ (pl_ne hFqm5_40 hFo_40 rfl)]; exact hFqm5_40
                have hFqm6_78 : F78 (qm 6) = cI (cy 1) 8 Sl.1 := by rw [eF78, va_up_ne _ _ (pl_ne hFqm6_40 hFo_40 rfl)]; exact hFqm6_40
                have hFqm7_78 : F78 (qm 7) = cJ (cy 2) 128 Sl.2 := by rw [eF78, va_up_ne _ _ (pl_ne hFqm7_40 hFo_40 rfl)]; exact hFqm7_40
                have hFqm8_78 : F78 (qm 8) = cI (cy 1) 30 Pp.2.1 := by rw [eF78, va_up_ne _ _ (pl_ne hFqm8_40 hFo_40 rfl)]; exact hFqm8_40
                have hFqm9_78 : F78 (qm 9) = cI (cy 3) 30 Pp.2.2 := by rw [eF78, va_up_ne _ _ (pl_ne hFqm9_40 hFo_40 rfl)]; exact hFqm9_40
                have hFqm10_78 : F78 (qm 10) = cI (cy 1) 5 Kr.1 := by rw [eF78, va_up_ne _ _ (pl_ne hFqm10_40 hFo_40 rfl)]; exact hFqm10_40
                have hFqm11_78 : F78 (qm 11) = cI (cy 3) 5 Kr.2.1 := by rw [eF78, va_up_ne _ _ (pl_ne hFqm11_40 hFo_40 rfl)]; exact hFqm11_40
                have hFqm12_78 : F78 (qm 12) = cI (cy 1) 60 Kr.2.2 := by rw [eF78, va_up_ne _ _ (pl_ne hFqm12_40 hFo_40 rfl)]; exact hFqm12_40
                have hFqm13_78 : F78 (qm 13) = cI (cy 1) 4 Bk.1 := by rw [eF78, va_up_ne _ _ (pl_ne hFqm13_40 hFo_40 rfl)]; exact hFqm13_40
                have hFqm14_78 : F78 (qm 14) = cD (cy 0) 4 Bk.2 := by rw [eF78, va_up_ne _ _ (pl_ne hFqm14_40 hFo_40 rfl)]; exact hFqm14_40
                have hFqm15_78 : F78 (qm 15) = cI (cy 1) 6 Xx.2 := by rw [eF78, va_up_ne _ _ (pl_ne hFqm15_40 hFo_40 rfl)]; exact hFqm15_40
                refine lv_aload_n hx hb dX9_reckon_201 rfl (lv_at hl 3 rfl) ?_
                refine pg_get (ci := 8) (C := RX9) (T := TX9) (N := 20) hx hb hts hinX9 hown hK hP hmo hFo_78 rfl 17 (by decide) (hts (.fieldLink RX9 65 "RopeDrumsModel" "failed" "I") (by decide +kernel)) (fun _ h9 => h9) rfl dX9_reckon_202 ?_
                refine lv_if_ne (tgt := 228) hx hb dX9_reckon_205 (by decide) (fun c79 => absurd (by decide) c79) (fun c79 => ?_)
                refine lv_aload_n hx hb dX9_reckon_208 rfl (lv_at hl 3 rfl) ?_
                refine pg_get (ci := 8) (C := RX9) (T := TX9) (N := 20) hx hb hts hinX9 hown hK hP hmo hFo_78 rfl 1 (by decide) (hts (.fieldLink RX9 7 "RopeDrumsModel" "laneOf" "[I") (by decide +kernel)) (fun _ h9 => h9) rfl dX9_reckon_209 ?_
                refine lv_iload hx hb dX9_reckon_212 (lv_at hl 7 rfl) ?_
                refine lv_iload hx hb dX9_reckon_214 (lv_at hl 2 rfl) ?_
                refine pg_iast hx hb hK hP hD hS 1 hm0 hFqm0_78 rfl (vp_in_nI (by omega) (by decide)) dX9_reckon_216 (fun H locs F80 eF80 hP hS => ?_)
                rw [nI_clamp (by omega)] at eF80
                have hFo_80 : F80 o = .inr (8, [.int 0, .ref (qm 0), .ref (qm 1), .ref (qm 2), .ref (qm 3), .ref (qm 4), .ref (qm 5), .ref (qm 6), .ref (qm 7), .int Pp.1, .ref (qm 8), .ref (qm 9), .ref (qm 10), .ref (qm 11), .ref (qm 12), .ref (qm 13), .ref (qm 14), .int 0, .ref (qm 15), .long ((FP.dsub r76 r77).toInt64)]) := by rw [eF80, va_up_ne _ _ (pl_ne hFo_78 hFqm0_78 rfl)]; exact hFo_78
                have hFqm0_80 : F80 (qm 0) = cI (cy 1) 10 (upd Mm.1 j_into (mx (Mm.1 j_x) (Mm.1 j_y))) := by rw [eF80]; exact va_up_self _ _ _
                have hFqm1_80 : F80 (qm 1) = cJ (cy 2) 10 Mm.2 := by rw [eF80, va_up_ne _ _ (pl_ne hFqm1_78 hFqm0_78 rfl)]; exact hFqm1_78
                have hFqm2_80 : F80 (qm 2) = cD (cy 0) 6 Dd.1 := by rw [eF80, va_up_ne _ _ (pl_ne hFqm2_78 hFqm0_78 rfl)]; exact hFqm2_78
                have hFqm3_80 : F80 (qm 3) = cD (cy 0) 6 Dd.2.1 := by rw [eF80, va_up_ne _ _ (pl_ne hFqm3_78 hFqm0_78 rfl)]; exact hFqm3_78
                have hFqm4_80 : F80 (qm 4) = cD (cy 0) 6 Dd.2.2.1 := by rw [eF80, va_up_ne _ _ (pl_ne hFqm4_78 hFqm0_78 rfl)]; exact hFqm4_78
                have hFqm5_80 : F80 (qm 5) = cJ (cy 2) 6 Dd.2.2.2 := by rw [eF80, va_up_ne _ _ (pl_ne hFqm5_78 hFqm0_78 rfl)]; exact hFqm5_78
                have hFqm6_80 : F80 (qm 6) = cI (cy 1) 8 Sl.1 := by rw [eF80, va_up_ne _ _ (pl_ne hFqm6_78 hFqm0_78 rfl)]; exact hFqm6_78
                have hFqm7_80 : F80 (qm 7) = cJ (cy 2) 128 Sl.2 := by rw [eF80, va_up_ne _ _ (pl_ne hFqm7_78 hFqm0_78 rfl)]; exact hFqm7_78
                have hFqm8_80 : F80 (qm 8) = cI (cy 1) 30 Pp.2.1 := by rw [eF80, va_up_ne _ _ (pl_ne hFqm8_78 hFqm0_78 rfl)]; exact hFqm8_78
                have hFqm9_80 : F80 (qm 9) = cI (cy 3) 30 Pp.2.2 := by rw [eF80, va_up_ne _ _ (pl_ne hFqm9_78 hFqm0_78 rfl)]; exact hFqm9_78
                have hFqm10_80 : F80 (qm 10) = cI (cy 1) 5 Kr.1 := by rw [eF80, va_up_ne _ _ (pl_ne hFqm10_78 hFqm0_78 rfl)]; exact hFqm10_78
                have hFqm11_80 : F80 (qm 11) = cI (cy 3) 5 Kr.2.1 := by rw [eF80, va_up_ne _ _ (pl_ne hFqm11_78 hFqm0_78 rfl)]; exact hFqm11_78
                have hFqm12_80 : F80 (qm 12) = cI (cy 1) 60 Kr.2.2 := by rw [eF80, va_up_ne _ _ (pl_ne hFqm12_78 hFqm0_78 rfl)]; exact hFqm12_78
                have hFqm13_80 : F80 (qm 13) = cI (cy 1) 4 Bk.1 := by rw [eF80, va_up_ne _ _ (pl_ne hFqm13_78 hFqm0_78 rfl)]; exact hFqm13_78
                have hFqm14_80 : F80 (qm 14) = cD (cy 0) 4 Bk.2 := by rw [eF80, va_up_ne _ _ (pl_ne hFqm14_78 hFqm0_78 rfl)]; exact hFqm14_78
                have hFqm15_80 : F80 (qm 15) = cI (cy 1) 6 Xx.2 := by rw [eF80, va_up_ne _ _ (pl_ne hFqm15_78 hFqm0_78 rfl)]; exact hFqm15_78
                refine lv_aload_n hx hb dX9_reckon_217 rfl (lv_at hl 3 rfl) ?_
                refine pg_get (ci := 8) (C := RX9) (T := TX9) (N := 20) hx hb hts hinX9 hown hK hP hmo hFo_80 rfl 2 (by decide) (hts (.fieldLink RX9 13 "RopeDrumsModel" "held" "[J") (by decide +kernel)) (fun _ h9 => h9) rfl dX9_reckon_218 ?_
                refine lv_iload hx hb dX9_reckon_221 (lv_at hl 7 rfl) ?_
                refine lv_aload_n hx hb dX9_reckon_223 rfl (lv_at hl 3 rfl) ?_
                refine pg_get (ci := 8) (C := RX9) (T := TX9) (N := 20) hx hb hts hinX9 hown hK hP hmo hFo_80 rfl 19 (by decide) (hts (.fieldLink RX9 131 "RopeDrumsModel" "outcome" "J") (by decide +kernel)) (fun _ h9 => h9) rfl dX9_reckon_224 ?_
                refine pg_last hx hb hK hP hD hS 2 hm1 hFqm1_80 rfl (vp_in_nI (by omega) (by decide)) dX9_reckon_227 (fun H locs F81 eF81 hP hS => ?_)
                rw [nI_clamp (by omega)] at eF81
                have hFo_81 : F81 o = .inr (8, [.int 0, .ref (qm 0), .ref (qm 1), .ref (qm 2), .ref (qm 3), .ref (qm 4), .ref (qm 5), .ref (qm 6), .ref (qm 7), .int Pp.1, .ref (qm 8), .ref (qm 9), .ref (qm 10), .ref (qm 11), .ref (qm 12), .ref (qm 13), .ref (qm 14), .int 0, .ref (qm 15), .long ((FP.dsub r76 r77).toInt64)]) := by rw [eF81, va_up_ne _ _ (pl_ne hFo_80 hFqm1_80 rfl)]; exact hFo_80
                have hFqm0_81 : F81 (qm 0) = cI (cy 1) 10 (upd Mm.1 j_into (mx (Mm.1 j_x) (Mm.1 j_y))) := by rw [eF81, va_up_ne _ _ (pl_ne hFqm0_80 hFqm1_80 rfl)]; exact hFqm0_80
                have hFqm1_81 : F81 (qm 1) = cJ (cy 2) 10 (vp_updL Mm.2 j_into ((FP.dsub r76 r77).toInt64)) := by rw [eF81]; exact va_up_self _ _ _
                have hFqm2_81 : F81 (qm 2) = cD (cy 0) 6 Dd.1 := by rw [eF81, va_up_ne _ _ (pl_ne hFqm2_80 hFqm1_80 rfl)]; exact hFqm2_80
                have hFqm3_81 : F81 (qm 3) = cD (cy 0) 6 Dd.2.1 := by rw [eF81, va_up_ne _ _ (pl_ne hFqm3_80 hFqm1_80 rfl)]; exact hFqm3_80
                have hFqm4_81 : F81 (qm 4) = cD (cy 0) 6 Dd.2.2.1 := by rw [eF81, va_up_ne _ _ (pl_ne hFqm4_80 hFqm1_80 rfl)]; exact hFqm4_80
                have hFqm5_81 : F81 (qm 5) = cJ (cy 2) 6 Dd.2.2.2 := by rw [eF81, va_up_ne _ _ (pl_ne hFqm5_80 hFqm1_80 rfl)]; exact hFqm5_80
                have hFqm6_81 : F81 (qm 6) = cI (cy 1) 8 Sl.1 := by rw [eF81, va_up_ne _ _ (pl_ne hFqm6_80 hFqm1_80 rfl)]; exact hFqm6_80
                have hFqm7_81 : F81 (qm 7) = cJ (cy 2) 128 Sl.2 := by rw [eF81, va_up_ne _ _ (pl_ne hFqm7_80 hFqm1_80 rfl)]; exact hFqm7_80
                have hFqm8_81 : F81 (qm 8) = cI (cy 1) 30 Pp.2.1 := by rw [eF81, va_up_ne _ _ (pl_ne hFqm8_80 hFqm1_80 rfl)]; exact hFqm8_80
                have hFqm9_81 : F81 (qm 9) = cI (cy 3) 30 Pp.2.2 := by rw [eF81, va_up_ne _ _ (pl_ne hFqm9_80 hFqm1_80 rfl)]; exact hFqm9_80
                have hFqm10_81 : F81 (qm 10) = cI (cy 1) 5 Kr.1 := by rw [eF81, va_up_ne _ _ (pl_ne hFqm10_80 hFqm1_80 rfl)]; exact hFqm10_80
                have hFqm11_81 : F81 (qm 11) = cI (cy 3) 5 Kr.2.1 := by rw [eF81, va_up_ne _ _ (pl_ne hFqm11_80 hFqm1_80 rfl)]; exact hFqm11_80
                have hFqm12_81 : F81 (qm 12) = cI (cy 1) 60 Kr.2.2 := by rw [eF81, va_up_ne _ _ (pl_ne hFqm12_80 hFqm1_80 rfl)]; exact hFqm12_80
                have hFqm13_81 : F81 (qm 13) = cI (cy 1) 4 Bk.1 := by rw [eF81, va_up_ne _ _ (pl_ne hFqm13_80 hFqm1_80 rfl)]; exact hFqm13_80
                have hFqm14_81 : F81 (qm 14) = cD (cy 0) 4 Bk.2 := by rw [eF81, va_up_ne _ _ (pl_ne hFqm14_80 hFqm1_80 rfl)]; exact hFqm14_80
                have hFqm15_81 : F81 (qm 15) = cI (cy 1) 6 Xx.2 := by rw [eF81, va_up_ne _ _ (pl_ne hFqm15_80 hFqm1_80 rfl)]; exact hFqm15_80
                refine lv_aload_n hx hb dX9_reckon_228 rfl (lv_at hl 3 rfl) ?_
                refine lv_iload hx hb dX9_reckon_229 (lv_at hl 2 rfl) ?_
                refine va_calli (va_runV (As := [.int (mx (Mm.1 j_x) (Mm.1 j_y))]) (rest := []) ⟨hx, hb, hml, hown, hts⟩ (c9_answers_0 l G cy L F81 H.size o qm 0 Pp.1 ((FP.dsub r76 r77).toInt64) hmo hFo_81 Xx.2 hm15 hFqm15_81 (mx (Mm.1 j_x) (Mm.1 j_y))) (cwV 1 hts gX9_reckon_X9_answers rfl rfl rfl (by decide +kernel) ⟨Nat.le_of_ble_eq_true rfl, Nat.le_of_ble_eq_true rfl⟩) (preV_of okQ (⟨rfl, hP, hK, hD.top⟩) (pl_recv hK hP (ci := 8) rfl hmo hFo_81)) rfl rfl hl.1 rfl (lv_room (Nat.le_of_ble_eq_true rfl)) dX9_reckon_231 ⟨Nat.le_of_ble_eq_true rfl, Nat.le_of_ble_eq_true rfl⟩) hS (fun q _ h => pl_free hD hS hA q h) (pl_free hD hS hA) (fun r83 F82 t H1 locs ht hvm hw hP1 hz1 hk1 hS => ?_)
                have hP1 : va_P G vwCl (va_pl L F82) t.heap := hP1
                rw [ht] at hP1
                have hP := hP1
                generalize H1 = H at hP hS ⊢
                obtain ⟨hqr83, eF82⟩ := hw
                have hFo_F82 : F82 o = .inr (8, [.int 0, .ref (qm 0), .ref (qm 1), .ref (qm 2), .ref (qm 3), .ref (qm 4), .ref (qm 5), .ref (qm 6), .ref (qm 7), .int Pp.1, .ref (qm 8), .ref (qm 9), .ref (qm 10), .ref (qm 11), .ref (qm 12), .ref (qm 13), .ref (qm 14), .int 0, .ref (qm 15), .long ((FP.dsub r76 r77).toInt64)]) := by rw [eF82]; exact hFo_81
                have hFqm0_F82 : F82 (qm 0) = cI (cy 1) 10 (upd Mm.1 j_into (mx (Mm.1 j_x) (Mm.1 j_y))) := by rw [eF82]; exact hFqm0_81
                have hFqm1_F82 : F82 (qm 1) = cJ (cy 2) 10 (vp_updL Mm.2 j_into ((FP.dsub r76 r77).toInt64)) := by rw [eF82]; exact hFqm1_81
                have hFqm2_F82 : F82 (qm 2) = cD (cy 0) 6 Dd.1 := by rw [eF82]; exact hFqm2_81
                have hFqm3_F82 : F82 (qm 3) = cD (cy 0) 6 Dd.2.1 := by rw [eF82]; exact hFqm3_81
                have hFqm4_F82 : F82 (qm 4) = cD (cy 0) 6 Dd.2.2.1 := by rw [eF82]; exact hFqm4_81
                have hFqm5_F82 : F82 (qm 5) = cJ (cy 2) 6 Dd.2.2.2 := by rw [eF82]; exact hFqm5_81
                have hFqm6_F82 : F82 (qm 6) = cI (cy 1) 8 Sl.1 := by rw [eF82]; exact hFqm6_81
                have hFqm7_F82 : F82 (qm 7) = cJ (cy 2) 128 Sl.2 := by rw [eF82]; exact hFqm7_81
                have hFqm8_F82 : F82 (qm 8) = cI (cy 1) 30 Pp.2.1 := by rw [eF82]; exact hFqm8_81
                have hFqm9_F82 : F82 (qm 9) = cI (cy 3) 30 Pp.2.2 := by rw [eF82]; exact hFqm9_81
                have hFqm10_F82 : F82 (qm 10) = cI (cy 1) 5 Kr.1 := by rw [eF82]; exact hFqm10_81
                have hFqm11_F82 : F82 (qm 11) = cI (cy 3) 5 Kr.2.1 := by rw [eF82]; exact hFqm11_81
                have hFqm12_F82 : F82 (qm 12) = cI (cy 1) 60 Kr.2.2 := by rw [eF82]; exact hFqm12_81
                have hFqm13_F82 : F82 (qm 13) = cI (cy 1) 4 Bk.1 := by rw [eF82]; exact hFqm13_81
                have hFqm14_F82 : F82 (qm 14) = cD (cy 0) 4 Bk.2 := by rw [eF82]; exact hFqm14_81
                have hFqm15_F82 : F82 (qm 15) = cI (cy 1) 6 Xx.2 := by rw [eF82]; exact hFqm15_81
                have hr83 := hqr83
                exact W.iret (v := r83) hx hb hr (fun t ht hW => ⟨⟨r83, F82, rfl, (by subst hr83 hr77 hr76 hr47 ev46 ev45 hr44 ev43 ev42 ev37; have hsp : sp_reckon Mm Xx 1 (nI j_x) (nI j_y) (nI j_into) = (3, setM Mm j_into 3 (rkD 1 (db (tn (Mm.1 j_x) (Mm.2 j_x) 3)) (db (tn (Mm.1 j_y) (Mm.2 j_y) 3))).toInt64, goodX Xx) := (by unfold sp_reckon; rw [hi_x, hi_y, hi_into, ixk.2.1]; show rk Mm Xx 1 j_x j_y j_into = _; unfold rk; rw [if_neg (hmx.2 h1l).2, if_neg (by rw [hmxl]; decide)]; exact if_neg (by rw [hnan]; decide)); rw [hsp]; have hh := hFqm1_F82; have hh0 := hFqm0_F82; rw [hmxl] at hh hh0; exact ⟨hmxl, ⟨⟨_, _, hmo, hFo_F82⟩, ⟨hm0, hh0⟩, ⟨hm1, hh⟩, ⟨hm2, hFqm2_F82⟩, ⟨hm3, hFqm3_F82⟩, ⟨hm4, hFqm4_F82⟩, ⟨hm5, hFqm5_F82⟩, ⟨hm6, hFqm6_F82⟩, ⟨hm7, hFqm7_F82⟩, ⟨hm8, hFqm8_F82⟩, ⟨hm9, hFqm9_F82⟩, ⟨hm10, hFqm10_F82⟩, ⟨hm11, hFqm11_F82⟩, ⟨hm12, hFqm12_F82⟩, ⟨hm13, hFqm13_F82⟩, ⟨hm14, hFqm14_F82⟩, ⟨hm15, hFqm15_F82⟩, hne⟩⟩), (by show va_P _ _ _ t.heap; rw [ht]; exact hP)⟩, hS.F ht⟩) hS.2.2 dX9_reckon_234
          · refine lv_iload hx hb dX9_reckon_122 (lv_at hl 2 rfl) ?_
            refine lv_iconst (v := 2) hx hb dX9_reckon_124 (by decide) ?_
            refine lv_icmp_ge (tgt := 162) hx hb dX9_reckon_125 (by decide) (fun c84 => absurd c84 (Int32.not_le.mpr (hmx.1 h1l).2.1)) (fun c84 => ?_)
            refine lv_aload_n hx hb dX9_reckon_128 rfl (lv_at hl 3 rfl) ?_
            refine lv_iload_n hx hb dX9_reckon_129 rfl (lv_at hl 4 rfl) ?_
            refine lv_lload hx hb dX9_reckon_130 (lv_at hl 1 rfl) ?_
            refine lv_lload hx hb dX9_reckon_132 (lv_at hl 0 rfl) ?_
            refine va_callv (va_runV (As := [.int 1, .long r44, .long r47]) (rest := []) ⟨hx, hb, hml, hown, hts⟩ (c9_rL_1 l G cy L F40 H.size o qm 0 Pp.1 0 oc hmo hFo_40 r44 r47 ) (cwV 3 hts gX9_reckon_X9_reckonLongs rfl rfl rfl (by decide +kernel) ⟨Nat.le_of_ble_eq_true rfl, Nat.le_of_ble_eq_true rfl⟩) (preV_of okQ (⟨rfl, hP, hK, hD.top⟩) (pl_recv hK hP (ci := 8) rfl hmo hFo_40)) rfl rfl hl.1 rfl (lv_room (Nat.le_of_ble_eq_true rfl)) dX9_reckon_134 ⟨Nat.le_of_ble_eq_true rfl, Nat.le_of_ble_eq_true rfl⟩) hS (fun q _ h => pl_free hD hS hA q h) (pl_free hD hS hA) (fun F85 t H1 locs ht hvm hw hP1 hz1 hk1 hS => ?_)
            have hP1 : va_P G vwCl (va_pl L F85) t.heap := hP1
            rw [ht] at hP1
            have hP := hP1
            generalize H1 = H at hP hS ⊢
            have eF85 : F85 = va_up F40 o (.inr (8, [.int 0, .ref (qm 0), .ref (qm 1), .ref (qm 2), .ref (qm 3), .ref (qm 4), .ref (qm 5), .ref (qm 6), .ref (qm 7), .int Pp.1, .ref (qm 8), .ref (qm 9), .ref (qm 10), .ref (qm 11), .ref (qm 12), .ref (qm 13), .ref (qm 14), .int 0, .ref (qm 15), .long (rkL 1 r44 r47)])) := hw
            have hFo_85 : F85 o = .inr (8, [.int 0, .ref (qm 0), .ref (qm 1), .ref (qm 2), .ref (qm 3), .ref (qm 4), .ref (qm 5), .ref (qm 6), .ref (qm 7), .int Pp.1, .ref (qm 8), .ref (qm 9), .ref (qm 10), .ref (qm 11), .ref (qm 12), .ref (qm 13), .ref (qm 14), .int 0, .ref (qm 15), .long (rkL 1 r44 r47)]) := by rw [eF85]; exact va_up_self _ _ _
            have hFqm0_85 : F85 (qm 0) = cI (cy 1) 10 Mm.1 := by rw [eF85, va_up_ne _ _ (pl_ne hFqm0_40 hFo_40 rfl)]; exact hFqm0_40
            have hFqm1_85 : F85 (qm 1) = cJ (cy 2) 10 Mm.2 := by rw [eF85, va_up_ne _ _ (pl_ne hFqm1_40 hFo_40 rfl)]; exact hFqm1_40
            have hFqm2_85 : F85 (qm 2) = cD (cy 0) 6 Dd.1 := by rw [eF85, va_up_ne _ _ (pl_ne hFqm2_40 hFo_40 rfl)]; exact hFqm2_40
            have hFqm3_85 : F85 (qm 3) = cD (cy 0) 6 Dd.2.1 := by rw [eF85, va_up_ne _ _ (pl_ne hFqm3_40 hFo_40 rfl)]; exact hFqm3_40
            have hFqm4_85 : F85 (qm 4) = cD (cy 0) 6 Dd.2.2.1 := by rw [eF85, va_up_ne _ _ (pl_ne hFqm4_40 hFo_40 rfl)]; exact hFqm4_40
            have hFqm5_85 : F85 (qm 5) = cJ (cy 2) 6 Dd.2.2.2 := by rw [eF85, va_up_ne _ _ (pl_ne hFqm5_40 hFo_40 rfl)]; exact hFqm5_40
            have hFqm6_85 : F85 (qm 6) = cI (cy 1) 8 Sl.1 := by rw [eF85, va_up_ne _ _ (pl_ne hFqm6_40 hFo_40 rfl)]; exact hFqm6_40
            have hFqm7_85 : F85 (qm 7) = cJ (cy 2) 128 Sl.2 := by rw [eF85, va_up_ne _ _ (pl_ne hFqm7_40 hFo_40 rfl)]; exact hFqm7_40
            have hFqm8_85 : F85 (qm 8) = cI (cy 1) 30 Pp.2.1 := by rw [eF85, va_up_ne _ _ (pl_ne hFqm8_40 hFo_40 rfl)]; exact hFqm8_40
            have hFqm9_85 : F85 (qm 9) = cI (cy 3) 30 Pp.2.2 := by rw [eF85, va_up_ne _ _ (pl_ne hFqm9_40 hFo_40 rfl)]; exact hFqm9_40
            have hFqm10_85 : F85 (qm 10) = cI (cy 1) 5 Kr.1 := by rw [eF85, va_up_ne _ _ (pl_ne hFqm10_40 hFo_40 rfl)]; exact hFqm10_40
            have hFqm11_85 : F85 (qm 11) = cI (cy 3) 5 Kr.2.1 := by rw [eF85, va_up_ne _ _ (pl_ne hFqm11_40 hFo_40 rfl)]; exact hFqm11_40
            have hFqm12_85 : F85 (qm 12) = cI (cy 1) 60 Kr.2.2 := by rw [eF85, va_up_ne _ _ (pl_ne hFqm12_40 hFo_40 rfl)]; exact hFqm12_40
            have hFqm13_85 : F85 (qm 13) = cI (cy 1) 4 Bk.1 := by rw [eF85, va_up_ne _ _ (pl_ne hFqm13_40 hFo_40 rfl)]; exact hFqm13_40
            have hFqm14_85 : F85 (qm 14) = cD (cy 0) 4 Bk.2 := by rw [eF85, va_up_ne _ _ (pl_ne hFqm14_40 hFo_40 rfl)]; exact hFqm14_40
            have hFqm15_85 : F85 (qm 15) = cI (cy 1) 6 Xx.2 := by rw [eF85, va_up_ne _ _ (pl_ne hFqm15_40 hFo_40 rfl)]; exact hFqm15_40
            refine lv_aload_n hx hb dX9_reckon_137 rfl (lv_at hl 3 rfl) ?_
            refine lv_iload hx hb dX9_reckon_138 (lv_at hl 2 rfl) ?_
            refine lv_if_ne (tgt := 152) hx hb dX9_reckon_140 (by decide) (fun c86 => ?_) (fun c86 => ?_)
            · refine lv_aload_n hx hb dX9_reckon_152 rfl (lv_at hl 3 rfl) ?_
              refine pg_get (ci := 8) (C := RX9) (T := TX9) (N := 20) hx hb hts hinX9 hown hK hP hmo hFo_85 rfl 19 (by decide) (hts (.fieldLink RX9 131 "RopeDrumsModel" "outcome" "J") (by decide +kernel)) (fun _ h9 => h9) rfl dX9_reckon_153 ?_
              refine pg_put (ci := 8) (v := .long (rkL 1 r44 r47)) (ty := .long) (C := RX9) (T := TX9) (N := 20) hx hb hts hinX9 tyX9 tyX9_ok nmX9 hown hK hP hD hS hmo hFo_85 rfl 19 (by decide) (hts (.fieldLink RX9 131 "RopeDrumsModel" "outcome" "J") (by decide +kernel)) (fun _ h9 => h9) rfl (by decide +kernel) (rfl) (rfl) (Nat.le_of_ble_eq_true rfl) dX9_reckon_156 (fun H locs F87 eF87 hP hS => ?_)
              have eF87 : F87 = va_up F85 o (.inr (8, [.int 0, .ref (qm 0), .ref (qm 1), .ref (qm 2), .ref (qm 3), .ref (qm 4), .ref (qm 5), .ref (qm 6), .ref (qm 7), .int Pp.1, .ref (qm 8), .ref (qm 9), .ref (qm 10), .ref (qm 11), .ref (qm 12), .ref (qm 13), .ref (qm 14), .int 0, .ref (qm 15), .long (rkL 1 r44 r47)])) := eF87
              have hFo_87 : F87 o = .inr (8, [.int 0, .ref (qm 0), .ref (qm 1), .ref (qm 2), .ref (qm 3), .ref (qm 4), .ref (qm 5), .ref (qm 6), .ref (qm 7), .int Pp.1, .ref (qm 8), .ref (qm 9), .ref (qm 10), .ref (qm 11), .ref (qm 12), .ref (qm 13), .ref (qm 14), .int 0, .ref (qm 15), .long (rkL 1 r44 r47)]) := by rw [eF87]; exact va_up_self _ _ _
              have hFqm0_87 : F87 (qm 0) = cI (cy 1) 10 Mm.1 := by rw [eF87, va_up_ne _ _ (pl_ne hFqm0_85 hFo_85 rfl)]; exact hFqm0_85
              have hFqm1_87 : F87 (qm 1) = cJ (cy 2) 10 Mm.2 := by rw [eF87, va_up_ne _ _ (pl_ne hFqm1_85 hFo_85 rfl)]; exact hFqm1_85
              have hFqm2_87 : F87 (qm 2) = cD (cy 0) 6 Dd.1 := by rw [eF87, va_up_ne _ _ (pl_ne hFqm2_85 hFo_85 rfl)]; exact hFqm2_85
              have hFqm3_87 : F87 (qm 3) = cD (cy 0) 6 Dd.2.1 := by rw [eF87, va_up_ne _ _ (pl_ne hFqm3_85 hFo_85 rfl)]; exact hFqm3_85
              have hFqm4_87 : F87 (qm 4) = cD (cy 0) 6 Dd.2.2.1 := by rw [eF87, va_up_ne _ _ (pl_ne hFqm4_85 hFo_85 rfl)]; exact hFqm4_85
              have hFqm5_87 : F87 (qm 5) = cJ (cy 2) 6 Dd.2.2.2 := by rw [eF87, va_up_ne _ _ (pl_ne hFqm5_85 hFo_85 rfl)]; exact hFqm5_85
              have hFqm6_87 : F87 (qm 6) = cI (cy 1) 8 Sl.1 := by rw [eF87, va_up_ne _ _ (pl_ne hFqm6_85 hFo_85 rfl)]; exact hFqm6_85
              have hFqm7_87 : F87 (qm 7) = cJ (cy 2) 128 Sl.2 := by rw [eF87, va_up_ne _ _ (pl_ne hFqm7_85 hFo_85 rfl)]; exact hFqm7_85
              have hFqm8_87 : F87 (qm 8) = cI (cy 1) 30 Pp.2.1 := by rw [eF87, va_up_ne _ _ (pl_ne hFqm8_85 hFo_85 rfl)]; exact hFqm8_85
              have hFqm9_87 : F87 (qm 9) = cI (cy 3) 30 Pp.2.2 := by rw [eF87, va_up_ne _ _ (pl_ne hFqm9_85 hFo_85 rfl)]; exact hFqm9_85
              have hFqm10_87 : F87 (qm 10) = cI (cy 1) 5 Kr.1 := by rw [eF87, va_up_ne _ _ (pl_ne hFqm10_85 hFo_85 rfl)]; exact hFqm10_85
              have hFqm11_87 : F87 (qm 11) = cI (cy 3) 5 Kr.2.1 := by rw [eF87, va_up_ne _ _ (pl_ne hFqm11_85 hFo_85 rfl)]; exact hFqm11_85
              have hFqm12_87 : F87 (qm 12) = cI (cy 1) 60 Kr.2.2 := by rw [eF87, va_up_ne _ _ (pl_ne hFqm12_85 hFo_85 rfl)]; exact hFqm12_85
              have hFqm13_87 : F87 (qm 13) = cI (cy 1) 4 Bk.1 := by rw [eF87, va_up_ne _ _ (pl_ne hFqm13_85 hFo_85 rfl)]; exact hFqm13_85
              have hFqm14_87 : F87 (qm 14) = cD (cy 0) 4 Bk.2 := by rw [eF87, va_up_ne _ _ (pl_ne hFqm14_85 hFo_85 rfl)]; exact hFqm14_85
              have hFqm15_87 : F87 (qm 15) = cI (cy 1) 6 Xx.2 := by rw [eF87, va_up_ne _ _ (pl_ne hFqm15_85 hFo_85 rfl)]; exact hFqm15_85
              refine lv_goto (tgt := 201) hx hb dX9_reckon_159 (by decide) ?_
              refine lv_aload_n hx hb dX9_reckon_201 rfl (lv_at hl 3 rfl) ?_
              refine pg_get (ci := 8) (C := RX9) (T := TX9) (N := 20) hx hb hts hinX9 hown hK hP hmo hFo_87 rfl 17 (by decide) (hts (.fieldLink RX9 65 "RopeDrumsModel" "failed" "I") (by decide +kernel)) (fun _ h9 => h9) rfl dX9_reckon_202 ?_
              refine lv_if_ne (tgt := 228) hx hb dX9_reckon_205 (by decide) (fun c88 => absurd (by decide) c88) (fun c88 => ?_)
              refine lv_aload_n hx hb dX9_reckon_208 rfl (lv_at hl 3 rfl) ?_
              refine pg_get (ci := 8) (C := RX9) (T := TX9) (N := 20) hx hb hts hinX9 hown hK hP hmo hFo_87 rfl 1 (by decide) (hts (.fieldLink RX9 7 "RopeDrumsModel" "laneOf" "[I") (by decide +kernel)) (fun _ h9 => h9) rfl dX9_reckon_209 ?_
              refine lv_iload hx hb dX9_reckon_212 (lv_at hl 7 rfl) ?_
              refine lv_iload hx hb dX9_reckon_214 (lv_at hl 2 rfl) ?_
              refine pg_iast hx hb hK hP hD hS 1 hm0 hFqm0_87 rfl (vp_in_nI (by omega) (by decide)) dX9_reckon_216 (fun H locs F89 eF89 hP hS => ?_)
              rw [nI_clamp (by omega)] at eF89
              have hFo_89 : F89 o = .inr (8, [.int 0, .ref (qm 0), .ref (qm 1), .ref (qm 2), .ref (qm 3), .ref (qm 4), .ref (qm 5), .ref (qm 6), .ref (qm 7), .int Pp.1, .ref (qm 8), .ref (qm 9), .ref (qm 10), .ref (qm 11), .ref (qm 12), .ref (qm 13), .ref (qm 14), .int 0, .ref (qm 15), .long (rkL 1 r44 r47)]) := by rw [eF89, va_up_ne _ _ (pl_ne hFo_87 hFqm0_87 rfl)]; exact hFo_87
              have hFqm0_89 : F89 (qm 0) = cI (cy 1) 10 (upd Mm.1 j_into (mx (Mm.1 j_x) (Mm.1 j_y))) := by rw [eF89]; exact va_up_self _ _ _
              have hFqm1_89 : F89 (qm 1) = cJ (cy 2) 10 Mm.2 := by rw [eF89, va_up_ne _ _ (pl_ne hFqm1_87 hFqm0_87 rfl)]; exact hFqm1_87
              have hFqm2_89 : F89 (qm 2) = cD (cy 0) 6 Dd.1 := by rw [eF89, va_up_ne _ _ (pl_ne hFqm2_87 hFqm0_87 rfl)]; exact hFqm2_87
              have hFqm3_89 : F89 (qm 3) = cD (cy 0) 6 Dd.2.1 := by rw [eF89, va_up_ne _ _ (pl_ne hFqm3_87 hFqm0_87 rfl)]; exact hFqm3_87
              have hFqm4_89 : F89 (qm 4) = cD (cy 0) 6 Dd.2.2.1 := by rw [eF89, va_up_ne _ _ (pl_ne hFqm4_87 hFqm0_87 rfl)]; exact hFqm4_87
              have hFqm5_89 : F89 (qm 5) = cJ (cy 2) 6 Dd.2.2.2 := by rw [eF89, va_up_ne _ _ (pl_ne hFqm5_87 hFqm0_87 rfl)]; exact hFqm5_87
              have hFqm6_89 : F89 (qm 6) = cI (cy 1) 8 Sl.1 := by rw [eF89, va_up_ne _ _ (pl_ne hFqm6_87 hFqm0_87 rfl)]; exact hFqm6_87
              have hFqm7_89 : F89 (qm 7) = cJ (cy 2) 128 Sl.2 := by rw [eF89, va_up_ne _ _ (pl_ne hFqm7_87 hFqm0_87 rfl)]; exact hFqm7_87
              have hFqm8_89 : F89 (qm 8) = cI (cy 1) 30 Pp.2.1 := by rw [eF89, va_up_ne _ _ (pl_ne hFqm8_87 hFqm0_87 rfl)]; exact hFqm8_87
              have hFqm9_89 : F89 (qm 9) = cI (cy 3) 30 Pp.2.2 := by rw [eF89, va_up_ne _ _ (pl_ne hFqm9_87 hFqm0_87 rfl)]; exact hFqm9_87
              have hFqm10_89 : F89 (qm 10) = cI (cy 1) 5 Kr.1 := by rw [eF89, va_up_ne _ _ (pl_ne hFqm10_87 hFqm0_87 rfl)]; exact hFqm10_87
              have hFqm11_89 : F89 (qm 11) = cI (cy 3) 5 Kr.2.1 := by rw [eF89, va_up_ne _ _ (pl_ne hFqm11_87 hFqm0_87 rfl)]; exact hFqm11_87
              have hFqm12_89 : F89 (qm 12) = cI (cy 1) 60 Kr.2.2 := by rw [eF89, va_up_ne _ _ (pl_ne hFqm12_87 hFqm0_87 rfl)]; exact hFqm12_87
              have hFqm13_89 : F89 (qm 13) = cI (cy 1) 4 Bk.1 := by rw [eF89, va_up_ne _ _ (pl_ne hFqm13_87 hFqm0_87 rfl)]; exact hFqm13_87
              have hFqm14_89 : F89 (qm 14) = cD (cy 0) 4 Bk.2 := by rw [eF89, va_up_ne _ _ (pl_ne hFqm14_87 hFqm0_87 rfl)]; exact hFqm14_87
              have hFqm15_89 : F89 (qm 15) = cI (cy 1) 6 Xx.2 := by rw [eF89, va_up_ne _ _ (pl_ne hFqm15_87 hFqm0_87 rfl)]; exact hFqm15_87
              refine lv_aload_n hx hb dX9_reckon_217 rfl (lv_at hl 3 rfl) ?_
              refine pg_get (ci := 8) (C := RX9) (T := TX9) (N := 20) hx hb hts hinX9 hown hK hP hmo hFo_89 rfl 2 (by decide) (hts (.fieldLink RX9 13 "RopeDrumsModel" "held" "[J") (by decide +kernel)) (fun _ h9 => h9) rfl dX9_reckon_218 ?_
              refine lv_iload hx hb dX9_reckon_221 (lv_at hl 7 rfl) ?_
              refine lv_aload_n hx hb dX9_reckon_223 rfl (lv_at hl 3 rfl) ?_
              refine pg_get (ci := 8) (C := RX9) (T := TX9) (N := 20) hx hb hts hinX9 hown hK hP hmo hFo_89 rfl 19 (by decide) (hts (.fieldLink RX9 131 "RopeDrumsModel" "outcome" "J") (by decide +kernel)) (fun _ h9 => h9) rfl dX9_reckon_224 ?_
              refine pg_last hx hb hK hP hD hS 2 hm1 hFqm1_89 rfl (vp_in_nI (by omega) (by decide)) dX9_reckon_227 (fun H locs F90 eF90 hP hS => ?_)
              rw [nI_clamp (by omega)] at eF90
              have hFo_90 : F90 o = .inr (8, [.int 0, .ref (qm 0), .ref (qm 1), .ref (qm 2), .ref (qm 3), .ref (qm 4), .ref (qm 5), .ref (qm 6), .ref (qm 7), .int Pp.1, .ref (qm 8), .ref (qm 9), .ref (qm 10), .ref (qm 11), .ref (qm 12), .ref (qm 13), .ref (qm 14), .int 0, .ref (qm 15), .long (rkL 1 r44 r47)]) := by rw [eF90, va_up_ne _ _ (pl_ne hFo_89 hFqm1_89 rfl)]; exact hFo_89
              have hFqm0_90 : F90 (qm 0) = cI (cy 1) 10 (upd Mm.1 j_into (mx (Mm.1 j_x) (Mm.1 j_y))) := by rw [eF90, va_up_ne _ _ (pl_ne hFqm0_89 hFqm1_89 rfl)]; exact hFqm0_89
              have hFqm1_90 : F90 (qm 1) = cJ (cy 2) 10 (vp_updL Mm.2 j_into (rkL 1 r44 r47)) := by rw [eF90]; exact va_up_self _ _ _
              have hFqm2_90 : F90 (qm 2) = cD (cy 0) 6 Dd.1 := by rw [eF90, va_up_ne _ _ (pl_ne hFqm2_89 hFqm1_89 rfl)]; exact hFqm2_89
              have hFqm3_90 : F90 (qm 3) = cD (cy 0) 6 Dd.2.1 := by rw [eF90, va_up_ne _ _ (pl_ne hFqm3_89 hFqm1_89 rfl)]; exact hFqm3_89
              have hFqm4_90 : F90 (qm 4) = cD (cy 0) 6 Dd.2.2.1 := by rw [eF90, va_up_ne _ _ (pl_ne hFqm4_89 hFqm1_89 rfl)]; exact hFqm4_89
              have hFqm5_90 : F90 (qm 5) = cJ (cy 2) 6 Dd.2.2.2 := by rw [eF90, va_up_ne _ _ (pl_ne hFqm5_89 hFqm1_89 rfl)]; exact hFqm5_89
              have hFqm6_90 : F90 (qm 6) = cI (cy 1) 8 Sl.1 := by rw [eF90, va_up_ne _ _ (pl_ne hFqm6_89 hFqm1_89 rfl)]; exact hFqm6_89
              have hFqm7_90 : F90 (qm 7) = cJ (cy 2) 128 Sl.2 := by rw [eF90, va_up_ne _ _ (pl_ne hFqm7_89 hFqm1_89 rfl)]; exact hFqm7_89
              have hFqm8_90 : F90 (qm 8) = cI (cy 1) 30 Pp.2.1 := by rw [eF90, va_up_ne _ _ (pl_ne hFqm8_89 hFqm1_89 rfl)]; exact hFqm8_89
              have hFqm9_90 : F90 (qm 9) = cI (cy 3) 30 Pp.2.2 := by rw [eF90, va_up_ne _ _ (pl_ne hFqm9_89 hFqm1_89 rfl)]; exact hFqm9_89
              have hFqm10_90 : F90 (qm 10) = cI (cy 1) 5 Kr.1 := by rw [eF90, va_up_ne _ _ (pl_ne hFqm10_89 hFqm1_89 rfl)]; exact hFqm10_89
              have hFqm11_90 : F90 (qm 11) = cI (cy 3) 5 Kr.2.1 := by rw [eF90, va_up_ne _ _ (pl_ne hFqm11_89 hFqm1_89 rfl)]; exact hFqm11_89
              have hFqm12_90 : F90 (qm 12) = cI (cy 1) 60 Kr.2.2 := by rw [eF90, va_up_ne _ _ (pl_ne hFqm12_89 hFqm1_89 rfl)]; exact hFqm12_89
              have hFqm13_90 : F90 (qm 13) = cI (cy 1) 4 Bk.1 := by rw [eF90, va_up_ne _ _ (pl_ne hFqm13_89 hFqm1_89 rfl)]; exact hFqm13_89
              have hFqm14_90 : F90 (qm 14) = cD (cy 0) 4 Bk.2 := by rw [eF90, va_up_ne _ _ (pl_ne hFqm14_89 hFqm1_89 rfl)]; exact hFqm14_89
              have hFqm15_90 : F90 (qm 15) = cI (cy 1) 6 Xx.2 := by rw [eF90, va_up_ne _ _ (pl_ne hFqm15_89 hFqm1_89 rfl)]; exact hFqm15_89
              refine lv_aload_n hx hb dX9_reckon_228 rfl (lv_at hl 3 rfl) ?_
              refine lv_iload hx hb dX9_reckon_229 (lv_at hl 2 rfl) ?_
              refine va_calli (va_runV (As := [.int (mx (Mm.1 j_x) (Mm.1 j_y))]) (rest := []) ⟨hx, hb, hml, hown, hts⟩ (c9_answers_0 l G cy L F90 H.size o qm 0 Pp.1 (rkL 1 r44 r47) hmo hFo_90 Xx.2 hm15 hFqm15_90 (mx (Mm.1 j_x) (Mm.1 j_y))) (cwV 1 hts gX9_reckon_X9_answers rfl rfl rfl (by decide +kernel) ⟨Nat.le_of_ble_eq_true rfl, Nat.le_of_ble_eq_true rfl⟩) (preV_of okQ (⟨rfl, hP, hK, hD.top⟩) (pl_recv hK hP (ci := 8) rfl hmo hFo_90)) rfl rfl hl.1 rfl (lv_room (Nat.le_of_ble_eq_true rfl)) dX9_reckon_231 ⟨Nat.le_of_ble_eq_true rfl, Nat.le_of_ble_eq_true rfl⟩) hS (fun q _ h => pl_free hD hS hA q h) (pl_free hD hS hA) (fun r92 F91 t H1 locs ht hvm hw hP1 hz1 hk1 hS => ?_)
              have hP1 : va_P G vwCl (va_pl L F91) t.heap := hP1
              rw [ht] at hP1
              have hP := hP1
              generalize H1 = H at hP hS ⊢
              obtain ⟨hqr92, eF91⟩ := hw
              have hFo_F91 : F91 o = .inr (8, [.int 0, .ref (qm 0), .ref (qm 1), .ref (qm 2), .ref (qm 3), .ref (qm 4), .ref (qm 5), .ref (qm 6), .ref (qm 7), .int Pp.1, .ref (qm 8), .ref (qm 9), .ref (qm 10), .ref (qm 11), .ref (qm 12), .ref (qm 13), .ref (qm 14), .int 0, .ref (qm 15), .long (rkL 1 r44 r47)]) := by rw [eF91]; exact hFo_90
              have hFqm0_F91 : F91 (qm 0) = cI (cy 1) 10 (upd Mm.1 j_into (mx (Mm.1 j_x) (Mm.1 j_y))) := by rw [eF91]; exact hFqm0_90
              have hFqm1_F91 : F91 (qm 1) = cJ (cy 2) 10 (vp_updL Mm.2 j_into (rkL 1 r44 r47)) := by rw [eF91]; exact hFqm1_90
              have hFqm2_F91 : F91 (qm 2) = cD (cy 0) 6 Dd.1 := by rw [eF91]; exact hFqm2_90
              have hFqm3_F91 : F91 (qm 3) = cD (cy 0) 6 Dd.2.1 := by rw [eF91]; exact hFqm3_90
              have hFqm4_F91 : F91 (qm 4) = cD (cy 0) 6 Dd.2.2.1 := by rw [eF91]; exact hFqm4_90
              have hFqm5_F91 : F91 (qm 5) = cJ (cy 2) 6 Dd.2.2.2 := by rw [eF91]; exact hFqm5_90
              have hFqm6_F91 : F91 (qm 6) = cI (cy 1) 8 Sl.1 := by rw [eF91]; exact hFqm6_90
              have hFqm7_F91 : F91 (qm 7) = cJ (cy 2) 128 Sl.2 := by rw [eF91]; exact hFqm7_90
              have hFqm8_F91 : F91 (qm 8) = cI (cy 1) 30 Pp.2.1 := by rw [eF91]; exact hFqm8_90
              have hFqm9_F91 : F91 (qm 9) = cI (cy 3) 30 Pp.2.2 := by rw [eF91]; exact hFqm9_90
              have hFqm10_F91 : F91 (qm 10) = cI (cy 1) 5 Kr.1 := by rw [eF91]; exact hFqm10_90
              have hFqm11_F91 : F91 (qm 11) = cI (cy 3) 5 Kr.2.1 := by rw [eF91]; exact hFqm11_90
              have hFqm12_F91 : F91 (qm 12) = cI (cy 1) 60 Kr.2.2 := by rw [eF91]; exact hFqm12_90
              have hFqm13_F91 : F91 (qm 13) = cI (cy 1) 4 Bk.1 := by rw [eF91]; exact hFqm13_90
              have hFqm14_F91 : F91 (qm 14) = cD (cy 0) 4 Bk.2 := by rw [eF91]; exact hFqm14_90
              have hFqm15_F91 : F91 (qm 15) = cI (cy 1) 6 Xx.2 := by rw [eF91]; exact hFqm15_90
              have hr92 := hqr92
              exact W.iret (v := r92) hx hb hr (fun t ht hW => ⟨⟨r92, F91, rfl, (by subst hr92 hr47 ev46 ev45 hr44 ev43 ev42 ev37; have hc140 := c86; have hsp : sp_reckon Mm Xx 1 (nI j_x) (nI j_y) (nI j_into) = (mx (Mm.1 j_x) (Mm.1 j_y), setM Mm j_into (mx (Mm.1 j_x) (Mm.1 j_y)) (rkL 1 (tn (Mm.1 j_x) (Mm.2 j_x) (mx (Mm.1 j_x) (Mm.1 j_y))) (tn (Mm.1 j_y) (Mm.2 j_y) (mx (Mm.1 j_x) (Mm.1 j_y)))), goodX Xx) := (by unfold sp_reckon; rw [hi_x, hi_y, hi_into, ixk.2.1]; show rk Mm Xx 1 j_x j_y j_into = _; unfold rk; rw [if_pos (hmx.1 h1l).2.1]; rw [if_neg (fun q => absurd q.1 (by decide)), if_neg hc140]); rw [hsp]; exact ⟨rfl, (by exact ⟨⟨_, _, hmo, hFo_F91⟩, ⟨hm0, hFqm0_F91⟩, ⟨hm1, hFqm1_F91⟩, ⟨hm2, hFqm2_F91⟩, ⟨hm3, hFqm3_F91⟩, ⟨hm4, hFqm4_F91⟩, ⟨hm5, hFqm5_F91⟩, ⟨hm6, hFqm6_F91⟩, ⟨hm7, hFqm7_F91⟩, ⟨hm8, hFqm8_F91⟩, ⟨hm9, hFqm9_F91⟩, ⟨hm10, hFqm10_F91⟩, ⟨hm11, hFqm11_F91⟩, ⟨hm12, hFqm12_F91⟩, ⟨hm13, hFqm13_F91⟩, ⟨hm14, hFqm14_F91⟩, ⟨hm15, hFqm15_F91⟩, hne⟩)⟩), (by show va_P _ _ _ t.heap; rw [ht]; exact hP)⟩, hS.F ht⟩) hS.2.2 dX9_reckon_234
            · refine lv_aload_n hx hb dX9_reckon_143 rfl (lv_at hl 3 rfl) ?_
              refine pg_get (ci := 8) (C := RX9) (T := TX9) (N := 20) hx hb hts hinX9 hown hK hP hmo hFo_85 rfl 19 (by decide) (hts (.fieldLink RX9 131 "RopeDrumsModel" "outcome" "J") (by decide +kernel)) (fun _ h9 => h9) rfl dX9_reckon_144 ?_
              refine lv_l2i hx hb dX9_reckon_147 rfl ?_
              refine lv_topi (fun v93 ev93 => ?_)
              refine lv_i2l hx hb dX9_reckon_148 rfl ?_
              refine lv_topl (fun v94 ev94 => ?_)
              refine lv_goto (tgt := 156) hx hb dX9_reckon_149 (by decide) ?_
              refine pg_put (ci := 8) (v := .long v94) (ty := .long) (C := RX9) (T := TX9) (N := 20) hx hb hts hinX9 tyX9 tyX9_ok nmX9 hown hK hP hD hS hmo hFo_85 rfl 19 (by decide) (hts (.fieldLink RX9 131 "RopeDrumsModel" "outcome" "J") (by decide +kernel)) (fun _ h9 => h9) rfl (by decide +kernel) (rfl) (rfl) (Nat.le_of_ble_eq_true rfl) dX9_reckon_156 (fun H locs F95 eF95 hP hS => ?_)
              have eF95 : F95 = va_up F85 o (.inr (8, [.int 0, .ref (qm 0), .ref (qm 1), .ref (qm 2), .ref (qm 3), .ref (qm 4), .ref (qm 5), .ref (qm 6), .ref (qm 7), .int Pp.1, .ref (qm 8), .ref (qm 9), .ref (qm 10), .ref (qm 11), .ref (qm 12), .ref (qm 13), .ref (qm 14), .int 0, .ref (qm 15), .long v94])) := eF95
              have hFo_95 : F95 o = .inr (8, [.int 0, .ref (qm 0), .ref (qm 1), .ref (qm 2), .ref (qm 3), .ref (qm 4), .ref (qm 5), .ref (qm 6), .ref (qm 7), .int Pp.1, .ref (qm 8), .ref (qm 9), .ref (qm 10), .ref (qm 11), .ref (qm 12), .ref (qm 13), .ref (qm 14), .int 0, .ref (qm 15), .long v94]) := by rw [eF95]; exact va_up_self _ _ _
              have hFqm0_95 : F95 (qm 0) = cI (cy 1) 10 Mm.1 := by rw [eF95, va_up_ne _ _ (pl_ne hFqm0_85 hFo_85 rfl)]; exact hFqm0_85
              have hFqm1_95 : F95 (qm 1) = cJ (cy 2) 10 Mm.2 := by rw [eF95, va_up_ne _ _ (pl_ne hFqm1_85 hFo_85 rfl)]; exact hFqm1_85
              have hFqm2_95 : F95 (qm 2) = cD (cy 0) 6 Dd.1 := by rw [eF95, va_up_ne _ _ (pl_ne hFqm2_85 hFo_85 rfl)]; exact hFqm2_85
              have hFqm3_95 : F95 (qm 3) = cD (cy 0) 6 Dd.2.1 := by rw [eF95, va_up_ne _ _ (pl_ne hFqm3_85 hFo_85 rfl)]; exact hFqm3_85
              have hFqm4_95 : F95 (qm 4) = cD (cy 0) 6 Dd.2.2.1 := by rw [eF95, va_up_ne _ _ (pl_ne hFqm4_85 hFo_85 rfl)]; exact hFqm4_85
              have hFqm5_95 : F95 (qm 5) = cJ (cy 2) 6 Dd.2.2.2 := by rw [eF95, va_up_ne _ _ (pl_ne hFqm5_85 hFo_85 rfl)]; exact hFqm5_85
              have hFqm6_95 : F95 (qm 6) = cI (cy 1) 8 Sl.1 := by rw [eF95, va_up_ne _ _ (pl_ne hFqm6_85 hFo_85 rfl)]; exact hFqm6_85
              have hFqm7_95 : F95 (qm 7) = cJ (cy 2) 128 Sl.2 := by rw [eF95, va_up_ne _ _ (pl_ne hFqm7_85 hFo_85 rfl)]; exact hFqm7_85
              have hFqm8_95 : F95 (qm 8) = cI (cy 1) 30 Pp.2.1 := by rw [eF95, va_up_ne _ _ (pl_ne hFqm8_85 hFo_85 rfl)]; exact hFqm8_85
              have hFqm9_95 : F95 (qm 9) = cI (cy 3) 30 Pp.2.2 := by rw [eF95, va_up_ne _ _ (pl_ne hFqm9_85 hFo_85 rfl)]; exact hFqm9_85
              have hFqm10_95 : F95 (qm 10) = cI (cy 1) 5 Kr.1 := by rw [eF95, va_up_ne _ _ (pl_ne hFqm10_85 hFo_85 rfl)]; exact hFqm10_85
              have hFqm11_95 : F95 (qm 11) = cI (cy 3) 5 Kr.2.1 := by rw [eF95, va_up_ne _ _ (pl_ne hFqm11_85 hFo_85 rfl)]; exact hFqm11_85
              have hFqm12_95 : F95 (qm 12) = cI (cy 1) 60 Kr.2.2 := by rw [eF95, va_up_ne _ _ (pl_ne hFqm12_85 hFo_85 rfl)]; exact hFqm12_85
              have hFqm13_95 : F95 (qm 13) = cI (cy 1) 4 Bk.1 := by rw [eF95, va_up_ne _ _ (pl_ne hFqm13_85 hFo_85 rfl)]; exact hFqm13_85
              have hFqm14_95 : F95 (qm 14) = cD (cy 0) 4 Bk.2 := by rw [eF95, va_up_ne _ _ (pl_ne hFqm14_85 hFo_85 rfl)]; exact hFqm14_85
              have hFqm15_95 : F95 (qm 15) = cI (cy 1) 6 Xx.2 := by rw [eF95, va_up_ne _ _ (pl_ne hFqm15_85 hFo_85 rfl)]; exact hFqm15_85
              refine lv_goto (tgt := 201) hx hb dX9_reckon_159 (by decide) ?_
              refine lv_aload_n hx hb dX9_reckon_201 rfl (lv_at hl 3 rfl) ?_
              refine pg_get (ci := 8) (C := RX9) (T := TX9) (N := 20) hx hb hts hinX9 hown hK hP hmo hFo_95 rfl 17 (by decide) (hts (.fieldLink RX9 65 "RopeDrumsModel" "failed" "I") (by decide +kernel)) (fun _ h9 => h9) rfl dX9_reckon_202 ?_
              refine lv_if_ne (tgt := 228) hx hb dX9_reckon_205 (by decide) (fun c96 => absurd (by decide) c96) (fun c96 => ?_)
              refine lv_aload_n hx hb dX9_reckon_208 rfl (lv_at hl 3 rfl) ?_
              refine pg_get (ci := 8) (C := RX9) (T := TX9) (N := 20) hx hb hts hinX9 hown hK hP hmo hFo_95 rfl 1 (by decide) (hts (.fieldLink RX9 7 "RopeDrumsModel" "laneOf" "[I") (by decide +kernel)) (fun _ h9 => h9) rfl dX9_reckon_209 ?_
              refine lv_iload hx hb dX9_reckon_212 (lv_at hl 7 rfl) ?_
              refine lv_iload hx hb dX9_reckon_214 (lv_at hl 2 rfl) ?_
              refine pg_iast hx hb hK hP hD hS 1 hm0 hFqm0_95 rfl (vp_in_nI (by omega) (by decide)) dX9_reckon_216 (fun H locs F97 eF97 hP hS => ?_)
              rw [nI_clamp (by omega)] at eF97
              have hFo_97 : F97 o = .inr (8, [.int 0, .ref (qm 0), .ref (qm 1), .ref (qm 2), .ref (qm 3), .ref (qm 4), .ref (qm 5), .ref (qm 6), .ref (qm 7), .int Pp.1, .ref (qm 8), .ref (qm 9), .ref (qm 10), .ref (qm 11), .ref (qm 12), .ref (qm 13), .ref (qm 14), .int 0, .ref (qm 15), .long v94]) := by rw [eF97, va_up_ne _ _ (pl_ne hFo_95 hFqm0_95 rfl)]; exact hFo_95
              have hFqm0_97 : F97 (qm 0) = cI (cy 1) 10 (upd Mm.1 j_into (mx (Mm.1 j_x) (Mm.1 j_y))) := by rw [eF97]; exact va_up_self _ _ _
              have hFqm1_97 : F97 (qm 1) = cJ (cy 2) 10 Mm.2 := by rw [eF97, va_up_ne _ _ (pl_ne hFqm1_95 hFqm0_95 rfl)]; exact hFqm1_95
              have hFqm2_97 : F97 (qm 2) = cD (cy 0) 6 Dd.1 := by rw [eF97, va_up_ne _ _ (pl_ne hFqm2_95 hFqm0_95 rfl)]; exact hFqm2_95
              have hFqm3_97 : F97 (qm 3) = cD (cy 0) 6 Dd.2.1 := by rw [eF97, va_up_ne _ _ (pl_ne hFqm3_95 hFqm0_95 rfl)]; exact hFqm3_95
              have hFqm4_97 : F97 (qm 4) = cD (cy 0) 6 Dd.2.2.1 := by rw [eF97, va_up_ne _ _ (pl_ne hFqm4_95 hFqm0_95 rfl)]; exact hFqm4_95
              have hFqm5_97 : F97 (qm 5) = cJ (cy 2) 6 Dd.2.2.2 := by rw [eF97, va_up_ne _ _ (pl_ne hFqm5_95 hFqm0_95 rfl)]; exact hFqm5_95
              have hFqm6_97 : F97 (qm 6) = cI (cy 1) 8 Sl.1 := by rw [eF97, va_up_ne _ _ (pl_ne hFqm6_95 hFqm0_95 rfl)]; exact hFqm6_95
              have hFqm7_97 : F97 (qm 7) = cJ (cy 2) 128 Sl.2 := by rw [eF97, va_up_ne _ _ (pl_ne hFqm7_95 hFqm0_95 rfl)]; exact hFqm7_95
              have hFqm8_97 : F97 (qm 8) = cI (cy 1) 30 Pp.2.1 := by rw [eF97, va_up_ne _ _ (pl_ne hFqm8_95 hFqm0_95 rfl)]; exact hFqm8_95
              have hFqm9_97 : F97 (qm 9) = cI (cy 3) 30 Pp.2.2 := by rw [eF97, va_up_ne _ _ (pl_ne hFqm9_95 hFqm0_95 rfl)]; exact hFqm9_95
              have hFqm10_97 : F97 (qm 10) = cI (cy 1) 5 Kr.1 := by rw [eF97, va_up_ne _ _ (pl_ne hFqm10_95 hFqm0_95 rfl)]; exact hFqm10_95
              have hFqm11_97 : F97 (qm 11) = cI (cy 3) 5 Kr.2.1 := by rw [eF97, va_up_ne _ _ (pl_ne hFqm11_95 hFqm0_95 rfl)]; exact hFqm11_95
              have hFqm12_97 : F97 (qm 12) = cI (cy 1) 60 Kr.2.2 := by rw [eF97, va_up_ne _ _ (pl_ne hFqm12_95 hFqm0_95 rfl)]; exact hFqm12_95
              have hFqm13_97 : F97 (qm 13) = cI (cy 1) 4 Bk.1 := by rw [eF97, va_up_ne _ _ (pl_ne hFqm13_95 hFqm0_95 rfl)]; exact hFqm13_95
              have hFqm14_97 : F97 (qm 14) = cD (cy 0) 4 Bk.2 := by rw [eF97, va_up_ne _ _ (pl_ne hFqm14_95 hFqm0_95 rfl)]; exact hFqm14_95
              have hFqm15_97 : F97 (qm 15) = cI (cy 1) 6 Xx.2 := by rw [eF97, va_up_ne _ _ (pl_ne hFqm15_95 hFqm0_95 rfl)]; exact hFqm15_95
              refine lv_aload_n hx hb dX9_reckon_217 rfl (lv_at hl 3 rfl) ?_
              refine pg_get (ci := 8) (C := RX9) (T := TX9) (N := 20) hx hb hts hinX9 hown hK hP hmo hFo_97 rfl 2 (by decide) (hts (.fieldLink RX9 13 "RopeDrumsModel" "held" "[J") (by decide +kernel)) (fun _ h9 => h9) rfl dX9_reckon_218 ?_
              refine lv_iload hx hb dX9_reckon_221 (lv_at hl 7 rfl) ?_
              refine lv_aload_n hx hb dX9_reckon_223 rfl (lv_at hl 3 rfl) ?_
              refine pg_get (ci := 8) (C := RX9) (T := TX9) (N := 20) hx hb hts hinX9 hown hK hP hmo hFo_97 rfl 19 (by decide) (hts (.fieldLink RX9 131 "RopeDrumsModel" "outcome" "J") (by decide +kernel)) (fun _ h9 => h9) rfl dX9_reckon_224 ?_
              refine pg_last hx hb hK hP hD hS 2 hm1 hFqm1_97 rfl (vp_in_nI (by omega) (by decide)) dX9_reckon_227 (fun H locs F98 eF98 hP hS => ?_)
              rw [nI_clamp (by omega)] at eF98
              have hFo_98 : F98 o = .inr (8, [.int 0, .ref (qm 0), .ref (qm 1), .ref (qm 2), .ref (qm 3), .ref (qm 4), .ref (qm 5), .ref (qm 6), .ref (qm 7), .int Pp.1, .ref (qm 8), .ref (qm 9), .ref (qm 10), .ref (qm 11), .ref (qm 12), .ref (qm 13), .ref (qm 14), .int 0, .ref (qm 15), .long v94]) := by rw [eF98, va_up_ne _ _ (pl_ne hFo_97 hFqm1_97 rfl)]; exact hFo_97
              have hFqm0_98 : F98 (qm 0) = cI (cy 1) 10 (upd Mm.1 j_into (mx (Mm.1 j_x) (Mm.1 j_y))) := by rw [eF98, va_up_ne _ _ (pl_ne hFqm0_97 hFqm1_97 rfl)]; exact hFqm0_97
              have hFqm1_98 : F98 (qm 1) = cJ (cy 2) 10 (vp_updL Mm.2 j_into v94) := by rw [eF98]; exact va_up_self _ _ _
              have hFqm2_98 : F98 (qm 2) = cD (cy 0) 6 Dd.1 := by rw [eF98, va_up_ne _ _ (pl_ne hFqm2_97 hFqm1_97 rfl)]; exact hFqm2_97
              have hFqm3_98 : F98 (qm 3) = cD (cy 0) 6 Dd.2.1 := by rw [eF98, va_up_ne _ _ (pl_ne hFqm3_97 hFqm1_97 rfl)]; exact hFqm3_97
              have hFqm4_98 : F98 (qm 4) = cD (cy 0) 6 Dd.2.2.1 := by rw [eF98, va_up_ne _ _ (pl_ne hFqm4_97 hFqm1_97 rfl)]; exact hFqm4_97
              have hFqm5_98 : F98 (qm 5) = cJ (cy 2) 6 Dd.2.2.2 := by rw [eF98, va_up_ne _ _ (pl_ne hFqm5_97 hFqm1_97 rfl)]; exact hFqm5_97
              have hFqm6_98 : F98 (qm 6) = cI (cy 1) 8 Sl.1 := by rw [eF98, va_up_ne _ _ (pl_ne hFqm6_97 hFqm1_97 rfl)]; exact hFqm6_97
              have hFqm7_98 : F98 (qm 7) = cJ (cy 2) 128 Sl.2 := by rw [eF98, va_up_ne _ _ (pl_ne hFqm7_97 hFqm1_97 rfl)]; exact hFqm7_97
              have hFqm8_98 : F98 (qm 8) = cI (cy 1) 30 Pp.2.1 := by rw [eF98, va_up_ne _ _ (pl_ne hFqm8_97 hFqm1_97 rfl)]; exact hFqm8_97
              have hFqm9_98 : F98 (qm 9) = cI (cy 3) 30 Pp.2.2 := by rw [eF98, va_up_ne _ _ (pl_ne hFqm9_97 hFqm1_97 rfl)]; exact hFqm9_97
              have hFqm10_98 : F98 (qm 10) = cI (cy 1) 5 Kr.1 := by rw [eF98, va_up_ne _ _ (pl_ne hFqm10_97 hFqm1_97 rfl)]; exact hFqm10_97
              have hFqm11_98 : F98 (qm 11) = cI (cy 3) 5 Kr.2.1 := by rw [eF98, va_up_ne _ _ (pl_ne hFqm11_97 hFqm1_97 rfl)]; exact hFqm11_97
              have hFqm12_98 : F98 (qm 12) = cI (cy 1) 60 Kr.2.2 := by rw [eF98, va_up_ne _ _ (pl_ne hFqm12_97 hFqm1_97 rfl)]; exact hFqm12_97
              have hFqm13_98 : F98 (qm 13) = cI (cy 1) 4 Bk.1 := by rw [eF98, va_up_ne _ _ (pl_ne hFqm13_97 hFqm1_97 rfl)]; exact hFqm13_97
              have hFqm14_98 : F98 (qm 14) = cD (cy 0) 4 Bk.2 := by rw [eF98, va_up_ne _ _ (pl_ne hFqm14_97 hFqm1_97 rfl)]; exact hFqm14_97
              have hFqm15_98 : F98 (qm 15) = cI (cy 1) 6 Xx.2 := by rw [eF98, va_up_ne _ _ (pl_ne hFqm15_97 hFqm1_97 rfl)]; exact hFqm15_97
              refine lv_aload_n hx hb dX9_reckon_228 rfl (lv_at hl 3 rfl) ?_
              refine lv_iload hx hb dX9_reckon_229 (lv_at hl 2 rfl) ?_
              refine va_calli (va_runV (As := [.int (mx (Mm.1 j_x) (Mm.1 j_y))]) (rest := []) ⟨hx, hb, hml, hown, hts⟩ (c9_answers_0 l G cy L F98 H.size o qm 0 Pp.1 v94 hmo hFo_98 Xx.2 hm15 hFqm15_98 (mx (Mm.1 j_x) (Mm.1 j_y))) (cwV 1 hts gX9_reckon_X9_answers rfl rfl rfl (by decide +kernel) ⟨Nat.le_of_ble_eq_true rfl, Nat.le_of_ble_eq_true rfl⟩) (preV_of okQ (⟨rfl, hP, hK, hD.top⟩) (pl_recv hK hP (ci := 8) rfl hmo hFo_98)) rfl rfl hl.1 rfl (lv_room (Nat.le_of_ble_eq_true rfl)) dX9_reckon_231 ⟨Nat.le_of_ble_eq_true rfl, Nat.le_of_ble_eq_true rfl⟩) hS (fun q _ h => pl_free hD hS hA q h) (pl_free hD hS hA) (fun r100 F99 t H1 locs ht hvm hw hP1 hz1 hk1 hS => ?_)
              have hP1 : va_P G vwCl (va_pl L F99) t.heap := hP1
              rw [ht] at hP1
              have hP := hP1
              generalize H1 = H at hP hS ⊢
              obtain ⟨hqr100, eF99⟩ := hw
              have hFo_F99 : F99 o = .inr (8, [.int 0, .ref (qm 0), .ref (qm 1), .ref (qm 2), .ref (qm 3), .ref (qm 4), .ref (qm 5), .ref (qm 6), .ref (qm 7), .int Pp.1, .ref (qm 8), .ref (qm 9), .ref (qm 10), .ref (qm 11), .ref (qm 12), .ref (qm 13), .ref (qm 14), .int 0, .ref (qm 15), .long v94]) := by rw [eF99]; exact hFo_98
              have hFqm0_F99 : F99 (qm 0) = cI (cy 1) 10 (upd Mm.1 j_into (mx (Mm.1 j_x) (Mm.1 j_y))) := by rw [eF99]; exact hFqm0_98
              have hFqm1_F99 : F99 (qm 1) = cJ (cy 2) 10 (vp_updL Mm.2 j_into v94) := by rw [eF99]; exact hFqm1_98
              have hFqm2_F99 : F99 (qm 2) = cD (cy 0) 6 Dd.1 := by rw [eF99]; exact hFqm2_98
              have hFqm3_F99 : F99 (qm 3) = cD (cy 0) 6 Dd.2.1 := by rw [eF99]; exact hFqm3_98
              have hFqm4_F99 : F99 (qm 4) = cD (cy 0) 6 Dd.2.2.1 := by rw [eF99]; exact hFqm4_98
              have hFqm5_F99 : F99 (qm 5) = cJ (cy 2) 6 Dd.2.2.2 := by rw [eF99]; exact hFqm5_98
              have hFqm6_F99 : F99 (qm 6) = cI (cy 1) 8 Sl.1 := by rw [eF99]; exact hFqm6_98
              have hFqm7_F99 : F99 (qm 7) = cJ (cy 2) 128 Sl.2 := by rw [eF99]; exact hFqm7_98
              have hFqm8_F99 : F99 (qm 8) = cI (cy 1) 30 Pp.2.1 := by rw [eF99]; exact hFqm8_98
              have hFqm9_F99 : F99 (qm 9) = cI (cy 3) 30 Pp.2.2 := by rw [eF99]; exact hFqm9_98
              have hFqm10_F99 : F99 (qm 10) = cI (cy 1) 5 Kr.1 := by rw [eF99]; exact hFqm10_98
              have hFqm11_F99 : F99 (qm 11) = cI (cy 3) 5 Kr.2.1 := by rw [eF99]; exact hFqm11_98
              have hFqm12_F99 : F99 (qm 12) = cI (cy 1) 60 Kr.2.2 := by rw [eF99]; exact hFqm12_98
              have hFqm13_F99 : F99 (qm 13) = cI (cy 1) 4 Bk.1 := by rw [eF99]; exact hFqm13_98
              have hFqm14_F99 : F99 (qm 14) = cD (cy 0) 4 Bk.2 := by rw [eF99]; exact hFqm14_98
              have hFqm15_F99 : F99 (qm 15) = cI (cy 1) 6 Xx.2 := by rw [eF99]; exact hFqm15_98
              have hr100 := hqr100
              exact W.iret (v := r100) hx hb hr (fun t ht hW => ⟨⟨r100, F99, rfl, (by subst hr100 ev94 ev93 hr47 ev46 ev45 hr44 ev43 ev42 ev37; have hc140 := c86; have hsp : sp_reckon Mm Xx 1 (nI j_x) (nI j_y) (nI j_into) = (mx (Mm.1 j_x) (Mm.1 j_y), setM Mm j_into (mx (Mm.1 j_x) (Mm.1 j_y)) (rkL 1 (tn (Mm.1 j_x) (Mm.2 j_x) (mx (Mm.1 j_x) (Mm.1 j_y))) (tn (Mm.1 j_y) (Mm.2 j_y) (mx (Mm.1 j_x) (Mm.1 j_y)))).toInt32.toInt64, goodX Xx) := (by unfold sp_reckon; rw [hi_x, hi_y, hi_into, ixk.2.1]; show rk Mm Xx 1 j_x j_y j_into = _; unfold rk; rw [if_pos (hmx.1 h1l).2.1]; rw [if_neg (fun q => absurd q.1 (by decide)), if_pos hc140]); rw [hsp]; exact ⟨rfl, (by exact ⟨⟨_, _, hmo, hFo_F99⟩, ⟨hm0, hFqm0_F99⟩, ⟨hm1, hFqm1_F99⟩, ⟨hm2, hFqm2_F99⟩, ⟨hm3, hFqm3_F99⟩, ⟨hm4, hFqm4_F99⟩, ⟨hm5, hFqm5_F99⟩, ⟨hm6, hFqm6_F99⟩, ⟨hm7, hFqm7_F99⟩, ⟨hm8, hFqm8_F99⟩, ⟨hm9, hFqm9_F99⟩, ⟨hm10, hFqm10_F99⟩, ⟨hm11, hFqm11_F99⟩, ⟨hm12, hFqm12_F99⟩, ⟨hm13, hFqm13_F99⟩, ⟨hm14, hFqm14_F99⟩, ⟨hm15, hFqm15_F99⟩, hne⟩)⟩), (by show va_P _ _ _ t.heap; rw [ht]; exact hP)⟩, hS.F ht⟩) hS.2.2 dX9_reckon_234
        · refine lv_aload_n hx hb dX9_reckon_52 rfl (lv_at hl 0 rfl) ?_
          refine pg_get (ci := 8) (C := RX9) (T := TX9) (N := 20) hx hb hts hinX9 hown hK hP hmo hFo_40 rfl 1 (by decide) (hts (.fieldLink RX9 7 "RopeDrumsModel" "laneOf" "[I") (by decide +kernel)) (fun _ h9 => h9) rfl dX9_reckon_53 ?_
          refine lv_iload_n hx hb dX9_reckon_56 rfl (lv_at hl 2 rfl) ?_
          refine pg_iald hx hb hK hP 1 hm0 hFqm0_40 rfl (vp_in_nI (by omega) (by decide)) dX9_reckon_57 ?_
          refine lv_topi (fun v101 ev101 => ?_)
          rw [nI_clamp (by omega)] at ev101
          refine lv_aload_n hx hb dX9_reckon_58 rfl (lv_at hl 0 rfl) ?_
          refine pg_get (ci := 8) (C := RX9) (T := TX9) (N := 20) hx hb hts hinX9 hown hK hP hmo hFo_40 rfl 1 (by decide) (hts (.fieldLink RX9 7 "RopeDrumsModel" "laneOf" "[I") (by decide +kernel)) (fun _ h9 => h9) rfl dX9_reckon_59 ?_
          refine lv_iload_n hx hb dX9_reckon_62 rfl (lv_at hl 3 rfl) ?_
          refine pg_iald hx hb hK hP 1 hm0 hFqm0_40 rfl (vp_in_nI (by omega) (by decide)) dX9_reckon_63 ?_
          refine lv_topi (fun v102 ev102 => ?_)
          rw [nI_clamp (by omega)] at ev102
          refine lv_icmp_le (tgt := 76) hx hb dX9_reckon_64 (by decide) (fun c103 => ?_) (fun c103 => ?_)
          · refine lv_aload_n hx hb dX9_reckon_76 rfl (lv_at hl 0 rfl) ?_
            refine pg_get (ci := 8) (C := RX9) (T := TX9) (N := 20) hx hb hts hinX9 hown hK hP hmo hFo_40 rfl 1 (by decide) (hts (.fieldLink RX9 7 "RopeDrumsModel" "laneOf" "[I") (by decide +kernel)) (fun _ h9 => h9) rfl dX9_reckon_77 ?_
            refine lv_iload_n hx hb dX9_reckon_80 rfl (lv_at hl 3 rfl) ?_
            refine pg_iald hx hb hK hP 1 hm0 hFqm0_40 rfl (vp_in_nI (by omega) (by decide)) dX9_reckon_81 ?_
            refine lv_topi (fun v104 ev104 => ?_)
            rw [nI_clamp (by omega)] at ev104
            exact K _ ((by have hc := c103; rw [ev101, ev102] at hc; rw [ev104]; exact (if_neg (Int32.not_lt.mpr hc)).symm))
          · refine lv_aload_n hx hb dX9_reckon_67 rfl (lv_at hl 0 rfl) ?_
            refine pg_get (ci := 8) (C := RX9) (T := TX9) (N := 20) hx hb hts hinX9 hown hK hP hmo hFo_40 rfl 1 (by decide) (hts (.fieldLink RX9 7 "RopeDrumsModel" "laneOf" "[I") (by decide +kernel)) (fun _ h9 => h9) rfl dX9_reckon_68 ?_
            refine lv_iload_n hx hb dX9_reckon_71 rfl (lv_at hl 2 rfl) ?_
            refine pg_iald hx hb hK hP 1 hm0 hFqm0_40 rfl (vp_in_nI (by omega) (by decide)) dX9_reckon_72 ?_
            refine lv_topi (fun v105 ev105 => ?_)
            rw [nI_clamp (by omega)] at ev105
            refine lv_goto (tgt := 82) hx hb dX9_reckon_73 (by decide) ?_
            exact K _ ((by have hc := c103; rw [ev101, ev102] at hc; rw [ev105]; exact (if_pos (Int32.not_le.mp hc)).symm))

set_option maxHeartbeats 8000000 in
set_option maxRecDepth 100000 in
theorem n_reckon_2 (l : Launch) (G : va_G) (cy : Nat → ClassId) (L : List Nat) (F : Nat → va_E) (sz : Nat) (o : Nat) (qm : Nat → Nat) (Mm : SM) (Dd : SD) (Sl : SL) (Pp : SP) (Kr : SR) (Bk : SB) (Xx : SX) (hR : RepM cy L o qm Mm Dd Sl Pp Kr Bk Xx F) (hV : Val Mm Dd Sl Pp Kr Bk) (x y into : Int32)  : Met l yX9_reckon wsX9_reckon ({ frames := 3, cells := 0, slots := 0, locals := 73 }) (va_Pc [.ref o, .int 2, .int x, .int y, .int into] (fun U => bQ G cy L F sz U U.heap)) (va_Qi (fun (r : Int32) (F' : Nat → va_E) => r = (sp_reckon Mm Xx 2 x y into).1 ∧ RepM cy L o qm (sp_reckon Mm Xx 2 x y into).2.1 Dd Sl Pp Kr Bk (sp_reckon Mm Xx 2 x y into).2.2 F') (fun F' t => va_P G vwCl (va_pl L F') t.heap) (va_A (va_pl L F) sz)) 0 0 (va_A (va_pl L F) sz) := by
  refine Met.ofW (cc := cX9_reckon) (maxL := 10) (ret := (some .int)) (by decide) rfl ?_
  intro p e s m args below meth c s₁ B hml hv
  obtain ⟨rfl, hsz, hP, hK, hD0⟩ := hv
  have hx := B.exec
  have hb := B.bytes
  have hr := B.returns
  have hts := atoms_spec (ws := wsX9_reckon) B.pre
  have hown : s.vm.findClass RX9 = some m.cls := findClass_of_methodNamed B.named
  have hlocks := B.notSynchronized
  have hinX9 : ∀ w ∈ wsX90, w ∈ wsX9_reckon := by decide +kernel
  subst hsz
  have hD := hD0.self F s.heap.size
  generalize hAe : va_A (va_pl L F) s.heap.size = A at hD ⊢
  have hA : ∀ q : Nat, s.heap.size ≤ q → A q := fun q h => by rw [← hAe]; exact Or.inr h
  have hS : va_S A s.heap s.heap [] := va_S.rf
  obtain ⟨⟨th, oc, hmo, hFo⟩, ⟨hm0, hF0⟩, ⟨hm1, hF1⟩, ⟨hm2, hF2⟩, ⟨hm3, hF3⟩, ⟨hm4, hF4⟩, ⟨hm5, hF5⟩, ⟨hm6, hF6⟩, ⟨hm7, hF7⟩, ⟨hm8, hF8⟩, ⟨hm9, hF9⟩, ⟨hm10, hF10⟩, ⟨hm11, hF11⟩, ⟨hm12, hF12⟩, ⟨hm13, hF13⟩, ⟨hm14, hF14⟩, ⟨hm15, hF15⟩, hne⟩ := id hR
  obtain ⟨hVM, hVD, hVS, hVP, hVK, hVB⟩ := hV
  have hl := lv_entry ([.ref o, .int 2, .int x, .int y, .int into]) (n := 10) (Nat.le_of_ble_eq_true rfl)
  rw [lg_entry_eq]
  generalize (lg_sl ([.ref o, .int 2, .int x, .int y, .int into]) ++ List.replicate (10 - (lg_sl ([.ref o, .int 2, .int x, .int y, .int into])).length) Slot.unset).toArray = ls at hl ⊢
  have hl : lv_has ls 10 [(0, .ref o), (1, .int 2), (2, .int x), (3, .int y), (4, .int into)] := hl
  rcases ixc 10 x with hi_x | ⟨j_x, hj_x, hi_x, ei_x⟩
  · rcases ixc 10 y with hi_y | ⟨j_y, hj_y, hi_y, ei_y⟩
    · rcases ixc 10 into with hi_into | ⟨j_into, hj_into, hi_into, ei_into⟩
      · refine lv_aload_n hx hb dX9_reckon_0 rfl (lv_at hl 0 rfl) ?_
        refine lv_iconst (v := 0) hx hb dX9_reckon_1 (by decide) ?_
        refine pg_put (ci := 8) (v := .int 0) (ty := .int) (C := RX9) (T := TX9) (N := 20) hx hb hts hinX9 tyX9 tyX9_ok nmX9 hown hK hP hD hS hmo hFo rfl 0 (by decide) (hts (.fieldLink RX9 61 "RopeDrumsModel" "thrown" "I") (by decide +kernel)) (fun _ h9 => h9) rfl (by decide +kernel) (rfl) (rfl) (Nat.le_of_ble_eq_true rfl) dX9_reckon_2 (fun H locs F1 eF1 hP hS => ?_)
        have eF1 : F1 = va_up F o (.inr (8, [.int 0, .ref (qm 0), .ref (qm 1), .ref (qm 2), .ref (qm 3), .ref (qm 4), .ref (qm 5), .ref (qm 6), .ref (qm 7), .int Pp.1, .ref (qm 8), .ref (qm 9), .ref (qm 10), .ref (qm 11), .ref (qm 12), .ref (qm 13), .ref (qm 14), .int Xx.1, .ref (qm 15), .long oc])) := eF1
        have hFo_1 : F1 o = .inr (8, [.int 0, .ref (qm 0), .ref (qm 1), .ref (qm 2), .ref (qm 3), .ref (qm 4), .ref (qm 5), .ref (qm 6), .ref (qm 7), .int Pp.1, .ref (qm 8), .ref (qm 9), .ref (qm 10), .ref (qm 11), .ref (qm 12), .ref (qm 13), .ref (qm 14), .int Xx.1, .ref (qm 15), .long oc]) := by rw [eF1]; exact va_up_self _ _ _
        have hFqm0_1 : F1 (qm 0) = cI (cy 1) 10 Mm.1 := by rw [eF1, va_up_ne _ _ (pl_ne hF0 hFo rfl)]; exact hF0
        have hFqm1_1 : F1 (qm 1) = cJ (cy 2) 10 Mm.2 := by rw [eF1, va_up_ne _ _ (pl_ne hF1 hFo rfl)]; exact hF1
        have hFqm2_1 : F1 (qm 2) = cD (cy 0) 6 Dd.1 := by rw [eF1, va_up_ne _ _ (pl_ne hF2 hFo rfl)]; exact hF2
        have hFqm3_1 : F1 (qm 3) = cD (cy 0) 6 Dd.2.1 := by rw [eF1, va_up_ne _ _ (pl_ne hF3 hFo rfl)]; exact hF3
        have hFqm4_1 : F1 (qm 4) = cD (cy 0) 6 Dd.2.2.1 := by rw [eF1, va_up_ne _ _ (pl_ne hF4 hFo rfl)]; exact hF4
        have hFqm5_1 : F1 (qm 5) = cJ (cy 2) 6 Dd.2.2.2 := by rw [eF1, va_up_ne _ _ (pl_ne hF5 hFo rfl)]; exact hF5
        have hFqm6_1 : F1 (qm 6) = cI (cy 1) 8 Sl.1 := by rw [eF1, va_up_ne _ _ (pl_ne hF6 hFo rfl)]; exact hF6
        have hFqm7_1 : F1 (qm 7) = cJ (cy 2) 128 Sl.2 := by rw [eF1, va_up_ne _ _ (pl_ne hF7 hFo rfl)]; exact hF7
        have hFqm8_1 : F1 (qm 8) = cI (cy 1) 30 Pp.2.1 := by rw [eF1, va_up_ne _ _ (pl_ne hF8 hFo rfl)]; exact hF8
        have hFqm9_1 : F1 (qm 9) = cI (cy 3) 30 Pp.2.2 := by rw [eF1, va_up_ne _ _ (pl_ne hF9 hFo rfl)]; exact hF9
        have hFqm10_1 : F1 (qm 10) = cI (cy 1) 5 Kr.1 := by rw [eF1, va_up_ne _ _ (pl_ne hF10 hFo rfl)]; exact hF10
        have hFqm11_1 : F1 (qm 11) = cI (cy 3) 5 Kr.2.1 := by rw [eF1, va_up_ne _ _ (pl_ne hF11 hFo rfl)]; exact hF11
        have hFqm12_1 : F1 (qm 12) = cI (cy 1) 60 Kr.2.2 := by rw [eF1, va_up_ne _ _ (pl_ne hF12 hFo rfl)]; exact hF12
        have hFqm13_1 : F1 (qm 13) = cI (cy 1) 4 Bk.1 := by rw [eF1, va_up_ne _ _ (pl_ne hF13 hFo rfl)]; exact hF13
        have hFqm14_1 : F1 (qm 14) = cD (cy 0) 4 Bk.2 := by rw [eF1, va_up_ne _ _ (pl_ne hF14 hFo rfl)]; exact hF14
        have hFqm15_1 : F1 (qm 15) = cI (cy 1) 6 Xx.2 := by rw [eF1, va_up_ne _ _ (pl_ne hF15 hFo rfl)]; exact hF15
        refine lv_iload_n hx hb dX9_reckon_5 rfl (lv_at hl 2 rfl) ?_
        refine vp_callSi (W.runS (As := [.int x]) (rest := []) ⟨hx, hb, hml, hown, hts⟩ (c9_isMeter l x) (va_cwS 1 hts gX9_reckon_X9_isMeter rfl rfl rfl (by decide +kernel) ⟨Nat.le_of_ble_eq_true rfl, Nat.le_of_ble_eq_true rfl⟩) (preS_of okT (trivial)) rfl rfl hl.1 rfl (lv_room (Nat.le_of_ble_eq_true rfl)) dX9_reckon_6 ⟨Nat.le_of_ble_eq_true rfl, Nat.le_of_ble_eq_true rfl⟩) (fun r2 hr2 => ?_)
        rw [isx0 hi_x] at hr2
        subst hr2
        refine lv_if_eq (tgt := 27) hx hb dX9_reckon_9 (by decide) (fun c3 => ?_) (fun c3 => absurd (by decide) c3)
        refine lv_sipush (v := -1001) hx hb dX9_reckon_27 (by decide) ?_
        exact W.iret (v := -1001) hx hb hr (fun t ht hW => ⟨⟨-1001, F1, rfl, (by have hsp : sp_reckon Mm Xx 2 x y into = (-1001, Mm, Xx) := (by unfold sp_reckon; rw [hi_x]); rw [hsp]; exact ⟨rfl, (by exact ⟨⟨_, _, hmo, hFo_1⟩, ⟨hm0, hFqm0_1⟩, ⟨hm1, hFqm1_1⟩, ⟨hm2, hFqm2_1⟩, ⟨hm3, hFqm3_1⟩, ⟨hm4, hFqm4_1⟩, ⟨hm5, hFqm5_1⟩, ⟨hm6, hFqm6_1⟩, ⟨hm7, hFqm7_1⟩, ⟨hm8, hFqm8_1⟩, ⟨hm9, hFqm9_1⟩, ⟨hm10, hFqm10_1⟩, ⟨hm11, hFqm11_1⟩, ⟨hm12, hFqm12_1⟩, ⟨hm13, hFqm13_1⟩, ⟨hm14, hFqm14_1⟩, ⟨hm15, hFqm15_1⟩, hne⟩)⟩), (by show va_P _ _ _ t.heap; rw [ht]; exact hP)⟩, hS.F ht⟩) hS.2.2 dX9_reckon_30
      · subst ei_into
        refine lv_aload_n hx hb dX9_reckon_0 rfl (lv_at hl 0 rfl) ?_
        refine lv_iconst (v := 0) hx hb dX9_reckon_1 (by decide) ?_
        refine pg_put (ci := 8) (v := .int 0) (ty := .int) (C := RX9) (T := TX9) (N := 20) hx hb hts hinX9 tyX9 tyX9_ok nmX9 hown hK hP hD hS hmo hFo rfl 0 (by decide) (hts (.fieldLink RX9 61 "RopeDrumsModel" "thrown" "I") (by decide +kernel)) (fun _ h9 => h9) rfl (by decide +kernel) (rfl) (rfl) (Nat.le_of_ble_eq_true rfl) dX9_reckon_2 (fun H locs F4 eF4 hP hS => ?_)
        have eF4 : F4 = va_up F o (.inr (8, [.int 0, .ref (qm 0), .ref (qm 1), .ref (qm 2), .ref (qm 3), .ref (qm 4), .ref (qm 5), .ref (qm 6), .ref (qm 7), .int Pp.1, .ref (qm 8), .ref (qm 9), .ref (qm 10), .ref (qm 11), .ref (qm 12), .ref (qm 13), .ref (qm 14), .int Xx.1, .ref (qm 15), .long oc])) := eF4
        have hFo_4 : F4 o = .inr (8, [.int 0, .ref (qm 0), .ref (qm 1), .ref (qm 2), .ref (qm 3), .ref (qm 4), .ref (qm 5), .ref (qm 6), .ref (qm 7), .int Pp.1, .ref (qm 8), .ref (qm 9), .ref (qm 10), .ref (qm 11), .ref (qm 12), .ref (qm 13), .ref (qm 14), .int Xx.1, .ref (qm 15), .long oc]) := by rw [eF4]; exact va_up_self _ _ _
        have hFqm0_4 : F4 (qm 0) = cI (cy 1) 10 Mm.1 := by rw [eF4, va_up_ne _ _ (pl_ne hF0 hFo rfl)]; exact hF0
        have hFqm1_4 : F4 (qm 1) = cJ (cy 2) 10 Mm.2 := by rw [eF4, va_up_ne _ _ (pl_ne hF1 hFo rfl)]; exact hF1
        have hFqm2_4 : F4 (qm 2) = cD (cy 0) 6 Dd.1 := by rw [eF4, va_up_ne _ _ (pl_ne hF2 hFo rfl)]; exact hF2
        have hFqm3_4 : F4 (qm 3) = cD (cy 0) 6 Dd.2.1 := by rw [eF4, va_up_ne _ _ (pl_ne hF3 hFo rfl)]; exact hF3
        have hFqm4_4 : F4 (qm 4) = cD (cy 0) 6 Dd.2.2.1 := by rw [eF4, va_up_ne _ _ (pl_ne hF4 hFo rfl)]; exact hF4
        have hFqm5_4 : F4 (qm 5) = cJ (cy 2) 6 Dd.2.2.2 := by rw [eF4, va_up_ne _ _ (pl_ne hF5 hFo rfl)]; exact hF5
        have hFqm6_4 : F4 (qm 6) = cI (cy 1) 8 Sl.1 := by rw [eF4, va_up_ne _ _ (pl_ne hF6 hFo rfl)]; exact hF6
        have hFqm7_4 : F4 (qm 7) = cJ (cy 2) 128 Sl.2 := by rw [eF4, va_up_ne _ _ (pl_ne hF7 hFo rfl)]; exact hF7
        have hFqm8_4 : F4 (qm 8) = cI (cy 1) 30 Pp.2.1 := by rw [eF4, va_up_ne _ _ (pl_ne hF8 hFo rfl)]; exact hF8
        have hFqm9_4 : F4 (qm 9) = cI (cy 3) 30 Pp.2.2 := by rw [eF4, va_up_ne _ _ (pl_ne hF9 hFo rfl)]; exact hF9
        have hFqm10_4 : F4 (qm 10) = cI (cy 1) 5 Kr.1 := by rw [eF4, va_up_ne _ _ (pl_ne hF10 hFo rfl)]; exact hF10
        have hFqm11_4 : F4 (qm 11) = cI (cy 3) 5 Kr.2.1 := by rw [eF4, va_up_ne _ _ (pl_ne hF11 hFo rfl)]; exact hF11
        have hFqm12_4 : F4 (qm 12) = cI (cy 1) 60 Kr.2.2 := by rw [eF4, va_up_ne _ _ (pl_ne hF12 hFo rfl)]; exact hF12
        have hFqm13_4 : F4 (qm 13) = cI (cy 1) 4 Bk.1 := by rw [eF4, va_up_ne _ _ (pl_ne hF13 hFo rfl)]; exact hF13
        have hFqm14_4 : F4 (qm 14) = cD (cy 0) 4 Bk.2 := by rw [eF4, va_up_ne _ _ (pl_ne hF14 hFo rfl)]; exact hF14
        have hFqm15_4 : F4 (qm 15) = cI (cy 1) 6 Xx.2 := by rw [eF4, va_up_ne _ _ (pl_ne hF15 hFo rfl)]; exact hF15
        refine lv_iload_n hx hb dX9_reckon_5 rfl (lv_at hl 2 rfl) ?_
        refine vp_callSi (W.runS (As := [.int x]) (rest := []) ⟨hx, hb, hml, hown, hts⟩ (c9_isMeter l x) (va_cwS 1 hts gX9_reckon_X9_isMeter rfl rfl rfl (by decide +kernel) ⟨Nat.le_of_ble_eq_true rfl, Nat.le_of_ble_eq_true rfl⟩) (preS_of okT (trivial)) rfl rfl hl.1 rfl (lv_room (Nat.le_of_ble_eq_true rfl)) dX9_reckon_6 ⟨Nat.le_of_ble_eq_true rfl, Nat.le_of_ble_eq_true rfl⟩) (fun r5 hr5 => ?_)
        rw [isx0 hi_x] at hr5
        subst hr5
        refine lv_if_eq (tgt := 27) hx hb dX9_reckon_9 (by decide) (fun c6 => ?_) (fun c6 => absurd (by decide) c6)
        refine lv_sipush (v := -1001) hx hb dX9_reckon_27 (by decide) ?_
        exact W.iret (v := -1001) hx hb hr (fun t ht hW => ⟨⟨-1001, F4, rfl, (by have hsp : sp_reckon Mm Xx 2 x y (nI j_into) = (-1001, Mm, Xx) := (by unfold sp_reckon; rw [hi_x]); rw [hsp]; exact ⟨rfl, (by exact ⟨⟨_, _, hmo, hFo_4⟩, ⟨hm0, hFqm0_4⟩, ⟨hm1, hFqm1_4⟩, ⟨hm2, hFqm2_4⟩, ⟨hm3, hFqm3_4⟩, ⟨hm4, hFqm4_4⟩, ⟨hm5, hFqm5_4⟩, ⟨hm6, hFqm6_4⟩, ⟨hm7, hFqm7_4⟩, ⟨hm8, hFqm8_4⟩, ⟨hm9, hFqm9_4⟩, ⟨hm10, hFqm10_4⟩, ⟨hm11, hFqm11_4⟩, ⟨hm12, hFqm12_4⟩, ⟨hm13, hFqm13_4⟩, ⟨hm14, hFqm14_4⟩, ⟨hm15, hFqm15_4⟩, hne⟩)⟩), (by show va_P _ _ _ t.heap; rw [ht]; exact hP)⟩, hS.F ht⟩) hS.2.2 dX9_reckon_30
    · subst ei_y
      rcases ixc 10 into with hi_into | ⟨j_into, hj_into, hi_into, ei_into⟩
      · refine lv_aload_n hx hb dX9_reckon_0 rfl (lv_at hl 0 rfl) ?_
        refine lv_iconst (v := 0) hx hb dX9_reckon_1 (by decide) ?_
        refine pg_put (ci := 8) (v := .int 0) (ty := .int) (C := RX9) (T := TX9) (N := 20) hx hb hts hinX9 tyX9 tyX9_ok nmX9 hown hK hP hD hS hmo hFo rfl 0 (by decide) (hts (.fieldLink RX9 61 "RopeDrumsModel" "thrown" "I") (by decide +kernel)) (fun _ h9 => h9) rfl (by decide +kernel) (rfl) (rfl) (Nat.le_of_ble_eq_true rfl) dX9_reckon_2 (fun H locs F7 eF7 hP hS => ?_)
        have eF7 : F7 = va_up F o (.inr (8, [.int 0, .ref (qm 0), .ref (qm 1), .ref (qm 2), .ref (qm 3), .ref (qm 4), .ref (qm 5), .ref (qm 6), .ref (qm 7), .int Pp.1, .ref (qm 8), .ref (qm 9), .ref (qm 10), .ref (qm 11), .ref (qm 12), .ref (qm 13), .ref (qm 14), .int Xx.1, .ref (qm 15), .long oc])) := eF7
        have hFo_7 : F7 o = .inr (8, [.int 0, .ref (qm 0), .ref (qm 1), .ref (qm 2), .ref (qm 3), .ref (qm 4), .ref (qm 5), .ref (qm 6), .ref (qm 7), .int Pp.1, .ref (qm 8), .ref (qm 9), .ref (qm 10), .ref (qm 11), .ref (qm 12), .ref (qm 13), .ref (qm 14), .int Xx.1, .ref (qm 15), .long oc]) := by rw [eF7]; exact va_up_self _ _ _
        have hFqm0_7 : F7 (qm 0) = cI (cy 1) 10 Mm.1 := by rw [eF7, va_up_ne _ _ (pl_ne hF0 hFo rfl)]; exact hF0
        have hFqm1_7 : F7 (qm 1) = cJ (cy 2) 10 Mm.2 := by rw [eF7, va_up_ne _ _ (pl_ne hF1 hFo rfl)]; exact hF1
        have hFqm2_7 : F7 (qm 2) = cD (cy 0) 6 Dd.1 := by rw [eF7, va_up_ne _ _ (pl_ne hF2 hFo rfl)]; exact hF2
        have hFqm3_7 : F7 (qm 3) = cD (cy 0) 6 Dd.2.1 := by rw [eF7, va_up_ne _ _ (pl_ne hF3 hFo rfl)]; exact hF3
        have hFqm4_7 : F7 (qm 4) = cD (cy 0) 6 Dd.2.2.1 := by rw [eF7, va_up_ne _ _ (pl_ne hF4 hFo rfl)]; exact hF4
        have hFqm5_7 : F7 (qm 5) = cJ (cy 2) 6 Dd.2.2.2 := by rw [eF7, va_up_ne _ _ (pl_ne hF5 hFo rfl)]; exact hF5
        have hFqm6_7 : F7 (qm 6) = cI (cy 1) 8 Sl.1 := by rw [eF7, va_up_ne _ _ (pl_ne hF6 hFo rfl)]; exact hF6
        have hFqm7_7 : F7 (qm 7) = cJ (cy 2) 128 Sl.2 := by rw [eF7, va_up_ne _ _ (pl_ne hF7 hFo rfl)]; exact hF7
        have hFqm8_7 : F7 (qm 8) = cI (cy 1) 30 Pp.2.1 := by rw [eF7, va_up_ne _ _ (pl_ne hF8 hFo rfl)]; exact hF8
        have hFqm9_7 : F7 (qm 9) = cI (cy 3) 30 Pp.2.2 := by rw [eF7, va_up_ne _ _ (pl_ne hF9 hFo rfl)]; exact hF9
        have hFqm10_7 : F7 (qm 10) = cI (cy 1) 5 Kr.1 := by rw [eF7, va_up_ne _ _ (pl_ne hF10 hFo rfl)]; exact hF10
        have hFqm11_7 : F7 (qm 11) = cI (cy 3) 5 Kr.2.1 := by rw [eF7, va_up_ne _ _ (pl_ne hF11 hFo rfl)]; exact hF11
        have hFqm12_7 : F7 (qm 12) = cI (cy 1) 60 Kr.2.2 := by rw [eF7, va_up_ne _ _ (pl_ne hF12 hFo rfl)]; exact hF12
        have hFqm13_7 : F7 (qm 13) = cI (cy 1) 4 Bk.1 := by rw [eF7, va_up_ne _ _ (pl_ne hF13 hFo rfl)]; exact hF13
        have hFqm14_7 : F7 (qm 14) = cD (cy 0) 4 Bk.2 := by rw [eF7, va_up_ne _ _ (pl_ne hF14 hFo rfl)]; exact hF14
        have hFqm15_7 : F7 (qm 15) = cI (cy 1) 6 Xx.2 := by rw [eF7, va_up_ne _ _ (pl_ne hF15 hFo rfl)]; exact hF15
        refine lv_iload_n hx hb dX9_reckon_5 rfl (lv_at hl 2 rfl) ?_
        refine vp_callSi (W.runS (As := [.int x]) (rest := []) ⟨hx, hb, hml, hown, hts⟩ (c9_isMeter l x) (va_cwS 1 hts gX9_reckon_X9_isMeter rfl rfl rfl (by decide +kernel) ⟨Nat.le_of_ble_eq_true rfl, Nat.le_of_ble_eq_true rfl⟩) (preS_of okT (trivial)) rfl rfl hl.1 rfl (lv_room (Nat.le_of_ble_eq_true rfl)) dX9_reckon_6 ⟨Nat.le_of_ble_eq_true rfl, Nat.le_of_ble_eq_true rfl⟩) (fun r8 hr8 => ?_)
        rw [isx0 hi_x] at hr8
        subst hr8
        refine lv_if_eq (tgt := 27) hx hb dX9_reckon_9 (by decide) (fun c9 => ?_) (fun c9 => absurd (by decide) c9)
        refine lv_sipush (v := -1001) hx hb dX9_reckon_27 (by decide) ?_
        exact W.iret (v := -1001) hx hb hr (fun t ht hW => ⟨⟨-1001, F7, rfl, (by have hsp : sp_reckon Mm Xx 2 x (nI j_y) into = (-1001, Mm, Xx) := (by unfold sp_reckon; rw [hi_x]); rw [hsp]; exact ⟨rfl, (by exact ⟨⟨_, _, hmo, hFo_7⟩, ⟨hm0, hFqm0_7⟩, ⟨hm1, hFqm1_7⟩, ⟨hm2, hFqm2_7⟩, ⟨hm3, hFqm3_7⟩, ⟨hm4, hFqm4_7⟩, ⟨hm5, hFqm5_7⟩, ⟨hm6, hFqm6_7⟩, ⟨hm7, hFqm7_7⟩, ⟨hm8, hFqm8_7⟩, ⟨hm9, hFqm9_7⟩, ⟨hm10, hFqm10_7⟩, ⟨hm11, hFqm11_7⟩, ⟨hm12, hFqm12_7⟩, ⟨hm13, hFqm13_7⟩, ⟨hm14, hFqm14_7⟩, ⟨hm15, hFqm15_7⟩, hne⟩)⟩), (by show va_P _ _ _ t.heap; rw [ht]; exact hP)⟩, hS.F ht⟩) hS.2.2 dX9_reckon_30
      · subst ei_into
        refine lv_aload_n hx hb dX9_reckon_0 rfl (lv_at hl 0 rfl) ?_
        refine lv_iconst (v := 0) hx hb dX9_reckon_1 (by decide) ?_
        refine pg_put (ci := 8) (v := .int 0) (ty := .int) (C := RX9) (T := TX9) (N := 20) hx hb hts hinX9 tyX9 tyX9_ok nmX9 hown hK hP hD hS hmo hFo rfl 0 (by decide) (hts (.fieldLink RX9 61 "RopeDrumsModel" "thrown" "I") (by decide +kernel)) (fun _ h9 => h9) rfl (by decide +kernel) (rfl) (rfl) (Nat.le_of_ble_eq_true rfl) dX9_reckon_2 (fun H locs F10 eF10 hP hS => ?_)
        have eF10 : F10 = va_up F o (.inr (8, [.int 0, .ref (qm 0), .ref (qm 1), .ref (qm 2), .ref (qm 3), .ref (qm 4), .ref (qm 5), .ref (qm 6), .ref (qm 7), .int Pp.1, .ref (qm 8), .ref (qm 9), .ref (qm 10), .ref (qm 11), .ref (qm 12), .ref (qm 13), .ref (qm 14), .int Xx.1, .ref (qm 15), .long oc])) := eF10
        have hFo_10 : F10 o = .inr (8, [.int 0, .ref (qm 0), .ref (qm 1), .ref (qm 2), .ref (qm 3), .ref (qm 4), .ref (qm 5), .ref (qm 6), .ref (qm 7), .int Pp.1, .ref (qm 8), .ref (qm 9), .ref (qm 10), .ref (qm 11), .ref (qm 12), .ref (qm 13), .ref (qm 14), .int Xx.1, .ref (qm 15), .long oc]) := by rw [eF10]; exact va_up_self _ _ _
        have hFqm0_10 : F10 (qm 0) = cI (cy 1) 10 Mm.1 := by rw [eF10, va_up_ne _ _ (pl_ne hF0 hFo rfl)]; exact hF0
        have hFqm1_10 : F10 (qm 1) = cJ (cy 2) 10 Mm.2 := by rw [eF10, va_up_ne _ _ (pl_ne hF1 hFo rfl)]; exact hF1
        have hFqm2_10 : F10 (qm 2) = cD (cy 0) 6 Dd.1 := by rw [eF10, va_up_ne _ _ (pl_ne hF2 hFo rfl)]; exact hF2
        have hFqm3_10 : F10 (qm 3) = cD (cy 0) 6 Dd.2.1 := by rw [eF10, va_up_ne _ _ (pl_ne hF3 hFo rfl)]; exact hF3
        have hFqm4_10 : F10 (qm 4) = cD (cy 0) 6 Dd.2.2.1 := by rw [eF10, va_up_ne _ _ (pl_ne hF4 hFo rfl)]; exact hF4
        have hFqm5_10 : F10 (qm 5) = cJ (cy 2) 6 Dd.2.2.2 := by rw [eF10, va_up_ne _ _ (pl_ne hF5 hFo rfl)]; exact hF5
        have hFqm6_10 : F10 (qm 6) = cI (cy 1) 8 Sl.1 := by rw [eF10, va_up_ne _ _ (pl_ne hF6 hFo rfl)]; exact hF6
        have hFqm7_10 : F10 (qm 7) = cJ (cy 2) 128 Sl.2 := by rw [eF10, va_up_ne _ _ (pl_ne hF7 hFo rfl)]; exact hF7
        have hFqm8_10 : F10 (qm 8) = cI (cy 1) 30 Pp.2.1 := by rw [eF10, va_up_ne _ _ (pl_ne hF8 hFo rfl)]; exact hF8
        have hFqm9_10 : F10 (qm 9) = cI (cy 3) 30 Pp.2.2 := by rw [eF10, va_up_ne _ _ (pl_ne hF9 hFo rfl)]; exact hF9
        have hFqm10_10 : F10 (qm 10) = cI (cy 1) 5 Kr.1 := by rw [eF10, va_up_ne _ _ (pl_ne hF10 hFo rfl)]; exact hF10
        have hFqm11_10 : F10 (qm 11) = cI (cy 3) 5 Kr.2.1 := by rw [eF10, va_up_ne _ _ (pl_ne hF11 hFo rfl)]; exact hF11
        have hFqm12_10 : F10 (qm 12) = cI (cy 1) 60 Kr.2.2 := by rw [eF10, va_up_ne _ _ (pl_ne hF12 hFo rfl)]; exact hF12
        have hFqm13_10 : F10 (qm 13) = cI (cy 1) 4 Bk.1 := by rw [eF10, va_up_ne _ _ (pl_ne hF13 hFo rfl)]; exact hF13
        have hFqm14_10 : F10 (qm 14) = cD (cy 0) 4 Bk.2 := by rw [eF10, va_up_ne _ _ (pl_ne hF14 hFo rfl)]; exact hF14
        have hFqm15_10 : F10 (qm 15) = cI (cy 1) 6 Xx.2 := by rw [eF10, va_up_ne _ _ (pl_ne hF15 hFo rfl)]; exact hF15
        refine lv_iload_n hx hb dX9_reckon_5 rfl (lv_at hl 2 rfl) ?_
        refine vp_callSi (W.runS (As := [.int x]) (rest := []) ⟨hx, hb, hml, hown, hts⟩ (c9_isMeter l x) (va_cwS 1 hts gX9_reckon_X9_isMeter rfl rfl rfl (by decide +kernel) ⟨Nat.le_of_ble_eq_true rfl, Nat.le_of_ble_eq_true rfl⟩) (preS_of okT (trivial)) rfl rfl hl.1 rfl (lv_room (Nat.le_of_ble_eq_true rfl)) dX9_reckon_6 ⟨Nat.le_of_ble_eq_true rfl, Nat.le_of_ble_eq_true rfl⟩) (fun r11 hr11 => ?_)
        rw [isx0 hi_x] at hr11
        subst hr11
        refine lv_if_eq (tgt := 27) hx hb dX9_reckon_9 (by decide) (fun c12 => ?_) (fun c12 => absurd (by decide) c12)
        refine lv_sipush (v := -1001) hx hb dX9_reckon_27 (by decide) ?_
        exact W.iret (v := -1001) hx hb hr (fun t ht hW => ⟨⟨-1001, F10, rfl, (by have hsp : sp_reckon Mm Xx 2 x (nI j_y) (nI j_into) = (-1001, Mm, Xx) := (by unfold sp_reckon; rw [hi_x]); rw [hsp]; exact ⟨rfl, (by exact ⟨⟨_, _, hmo, hFo_10⟩, ⟨hm0, hFqm0_10⟩, ⟨hm1, hFqm1_10⟩, ⟨hm2, hFqm2_10⟩, ⟨hm3, hFqm3_10⟩, ⟨hm4, hFqm4_10⟩, ⟨hm5, hFqm5_10⟩, ⟨hm6, hFqm6_10⟩, ⟨hm7, hFqm7_10⟩, ⟨hm8, hFqm8_10⟩, ⟨hm9, hFqm9_10⟩, ⟨hm10, hFqm10_10⟩, ⟨hm11, hFqm11_10⟩, ⟨hm12, hFqm12_10⟩, ⟨hm13, hFqm13_10⟩, ⟨hm14, hFqm14_10⟩, ⟨hm15, hFqm15_10⟩, hne⟩)⟩), (by show va_P _ _ _ t.heap; rw [ht]; exact hP)⟩, hS.F ht⟩) hS.2.2 dX9_reckon_30
  · subst ei_x
    rcases ixc 10 y with hi_y | ⟨j_y, hj_y, hi_y, ei_y⟩
    · rcases ixc 10 into with hi_into | ⟨j_into, hj_into, hi_into, ei_into⟩
      · refine lv_aload_n hx hb dX9_reckon_0 rfl (lv_at hl 0 rfl) ?_
        refine lv_iconst (v := 0) hx hb dX9_reckon_1 (by decide) ?_
        refine pg_put (ci := 8) (v := .int 0) (ty := .int) (C := RX9) (T := TX9) (N := 20) hx hb hts hinX9 tyX9 tyX9_ok nmX9 hown hK hP hD hS hmo hFo rfl 0 (by decide) (hts (.fieldLink RX9 61 "RopeDrumsModel" "thrown" "I") (by decide +kernel)) (fun _ h9 => h9) rfl (by decide +kernel) (rfl) (rfl) (Nat.le_of_ble_eq_true rfl) dX9_reckon_2 (fun H locs F13 eF13 hP hS => ?_)
        have eF13 : F13 = va_up F o (.inr (8, [.int 0, .ref (qm 0), .ref (qm 1), .ref (qm 2), .ref (qm 3), .ref (qm 4), .ref (qm 5), .ref (qm 6), .ref (qm 7), .int Pp.1, .ref (qm 8), .ref (qm 9), .ref (qm 10), .ref (qm 11), .ref (qm 12), .ref (qm 13), .ref (qm 14), .int Xx.1, .ref (qm 15), .long oc])) := eF13
        have hFo_13 : F13 o = .inr (8, [.int 0, .ref (qm 0), .ref (qm 1), .ref (qm 2), .ref (qm 3), .ref (qm 4), .ref (qm 5), .ref (qm 6), .ref (qm 7), .int Pp.1, .ref (qm 8), .ref (qm 9), .ref (qm 10), .ref (qm 11), .ref (qm 12), .ref (qm 13), .ref (qm 14), .int Xx.1, .ref (qm 15), .long oc]) := by rw [eF13]; exact va_up_self _ _ _
        have hFqm0_13 : F13 (qm 0) = cI (cy 1) 10 Mm.1 := by rw [eF13, va_up_ne _ _ (pl_ne hF0 hFo rfl)]; exact hF0
        have hFqm1_13 : F13 (qm 1) = cJ (cy 2) 10 Mm.2 := by rw [eF13, va_up_ne _ _ (pl_ne hF1 hFo rfl)]; exact hF1
        have hFqm2_13 : F13 (qm 2) = cD (cy 0) 6 Dd.1 := by rw [eF13, va_up_ne _ _ (pl_ne hF2 hFo rfl)]; exact hF2
        have hFqm3_13 : F13 (qm 3) = cD (cy 0) 6 Dd.2.1 := by rw [eF13, va_up_ne _ _ (pl_ne hF3 hFo rfl)]; exact hF3
        have hFqm4_13 : F13 (qm 4) = cD (cy 0) 6 Dd.2.2.1 := by rw [eF13, va_up_ne _ _ (pl_ne hF4 hFo rfl)]; exact hF4
        have hFqm5_13 : F13 (qm 5) = cJ (cy 2) 6 Dd.2.2.2 := by rw [eF13, va_up_ne _ _ (pl_ne hF5 hFo rfl)]; exact hF5
        have hFqm6_13 : F13 (qm 6) = cI (cy 1) 8 Sl.1 := by rw [eF13, va_up_ne _ _ (pl_ne hF6 hFo rfl)]; exact hF6
        have hFqm7_13 : F13 (qm 7) = cJ (cy 2) 128 Sl.2 := by rw [eF13, va_up_ne _ _ (pl_ne hF7 hFo rfl)]; exact hF7
        have hFqm8_13 : F13 (qm 8) = cI (cy 1) 30 Pp.2.1 := by rw [eF13, va_up_ne _ _ (pl_ne hF8 hFo rfl)]; exact hF8
        have hFqm9_13 : F13 (qm 9) = cI (cy 3) 30 Pp.2.2 := by rw [eF13, va_up_ne _ _ (pl_ne hF9 hFo rfl)]; exact hF9
        have hFqm10_13 : F13 (qm 10) = cI (cy 1) 5 Kr.1 := by rw [eF13, va_up_ne _ _ (pl_ne hF10 hFo rfl)]; exact hF10
        have hFqm11_13 : F13 (qm 11) = cI (cy 3) 5 Kr.2.1 := by rw [eF13, va_up_ne _ _ (pl_ne hF11 hFo rfl)]; exact hF11
        have hFqm12_13 : F13 (qm 12) = cI (cy 1) 60 Kr.2.2 := by rw [eF13, va_up_ne _ _ (pl_ne hF12 hFo rfl)]; exact hF12
        have hFqm13_13 : F13 (qm 13) = cI (cy 1) 4 Bk.1 := by rw [eF13, va_up_ne _ _ (pl_ne hF13 hFo rfl)]; exact hF13
        have hFqm14_13 : F13 (qm 14) = cD (cy 0) 4 Bk.2 := by rw [eF13, va_up_ne _ _ (pl_ne hF14 hFo rfl)]; exact hF14
        have hFqm15_13 : F13 (qm 15) = cI (cy 1) 6 Xx.2 := by rw [eF13, va_up_ne _ _ (pl_ne hF15 hFo rfl)]; exact hF15
        refine lv_iload_n hx hb dX9_reckon_5 rfl (lv_at hl 2 rfl) ?_
        refine vp_callSi (W.runS (As := [.int (nI j_x)]) (rest := []) ⟨hx, hb, hml, hown, hts⟩ (c9_isMeter l (nI j_x)) (va_cwS 1 hts gX9_reckon_X9_isMeter rfl rfl rfl (by decide +kernel) ⟨Nat.le_of_ble_eq_true rfl, Nat.le_of_ble_eq_true rfl⟩) (preS_of okT (trivial)) rfl rfl hl.1 rfl (lv_room (Nat.le_of_ble_eq_true rfl)) dX9_reckon_6 ⟨Nat.le_of_ble_eq_true rfl, Nat.le_of_ble_eq_true rfl⟩) (fun r14 hr14 => ?_)
        rw [isx1 hi_x] at hr14
        subst hr14
        refine lv_if_eq (tgt := 27) hx hb dX9_reckon_9 (by decide) (fun c15 => absurd c15 (by decide)) (fun c15 => ?_)
        refine lv_iload_n hx hb dX9_reckon_12 rfl (lv_at hl 3 rfl) ?_
        refine vp_callSi (W.runS (As := [.int y]) (rest := []) ⟨hx, hb, hml, hown, hts⟩ (c9_isMeter l y) (va_cwS 1 hts gX9_reckon_X9_isMeter rfl rfl rfl (by decide +kernel) ⟨Nat.le_of_ble_eq_true rfl, Nat.le_of_ble_eq_true rfl⟩) (preS_of okT (trivial)) rfl rfl hl.1 rfl (lv_room (Nat.le_of_ble_eq_true rfl)) dX9_reckon_13 ⟨Nat.le_of_ble_eq_true rfl, Nat.le_of_ble_eq_true rfl⟩) (fun r16 hr16 => ?_)
        rw [isx0 hi_y] at hr16
        subst hr16
        refine lv_if_eq (tgt := 27) hx hb dX9_reckon_16 (by decide) (fun c17 => ?_) (fun c17 => absurd (by decide) c17)
        refine lv_sipush (v := -1001) hx hb dX9_reckon_27 (by decide) ?_
        exact W.iret (v := -1001) hx hb hr (fun t ht hW => ⟨⟨-1001, F13, rfl, (by have hsp : sp_reckon Mm Xx 2 (nI j_x) y into = (-1001, Mm, Xx) := (by unfold sp_reckon; rw [hi_x, hi_y]); rw [hsp]; exact ⟨rfl, (by exact ⟨⟨_, _, hmo, hFo_13⟩, ⟨hm0, hFqm0_13⟩, ⟨hm1, hFqm1_13⟩, ⟨hm2, hFqm2_13⟩, ⟨hm3, hFqm3_13⟩, ⟨hm4, hFqm4_13⟩, ⟨hm5, hFqm5_13⟩, ⟨hm6, hFqm6_13⟩, ⟨hm7, hFqm7_13⟩, ⟨hm8, hFqm8_13⟩, ⟨hm9, hFqm9_13⟩, ⟨hm10, hFqm10_13⟩, ⟨hm11, hFqm11_13⟩, ⟨hm12, hFqm12_13⟩, ⟨hm13, hFqm13_13⟩, ⟨hm14, hFqm14_13⟩, ⟨hm15, hFqm15_13⟩, hne⟩)⟩), (by show va_P _ _ _ t.heap; rw [ht]; exact hP)⟩, hS.F ht⟩) hS.2.2 dX9_reckon_30
      · subst ei_into
        refine lv_aload_n hx hb dX9_reckon_0 rfl (lv_at hl 0 rfl) ?_
        refine lv_iconst (v := 0) hx hb dX9_reckon_1 (by decide) ?_
        refine pg_put (ci := 8) (v := .int 0) (ty := .int) (C := RX9) (T := TX9) (N := 20) hx hb hts hinX9 tyX9 tyX9_ok nmX9 hown hK hP hD hS hmo hFo rfl 0 (by decide) (hts (.fieldLink RX9 61 "RopeDrumsModel" "thrown" "I") (by decide +kernel)) (fun _ h9 => h9) rfl (by decide +kernel) (rfl) (rfl) (Nat.le_of_ble_eq_true rfl) dX9_reckon_2 (fun H locs F18 eF18 hP hS => ?_)
        have eF18 : F18 = va_up F o (.inr (8, [.int 0, .ref (qm 0), .ref (qm 1), .ref (qm 2), .ref (qm 3), .ref (qm 4), .ref (qm 5), .ref (qm 6), .ref (qm 7), .int Pp.1, .ref (qm 8), .ref (qm 9), .ref (qm 10), .ref (qm 11), .ref (qm 12), .ref (qm 13), .ref (qm 14), .int Xx.1, .ref (qm 15), .long oc])) := eF18
        have hFo_18 : F18 o = .inr (8, [.int 0, .ref (qm 0), .ref (qm 1), .ref (qm 2), .ref (qm 3), .ref (qm 4), .ref (qm 5), .ref (qm 6), .ref (qm 7), .int Pp.1, .ref (qm 8), .ref (qm 9), .ref (qm 10), .ref (qm 11), .ref (qm 12), .ref (qm 13), .ref (qm 14), .int Xx.1, .ref (qm 15), .long oc]) := by rw [eF18]; exact va_up_self _ _ _
        have hFqm0_18 : F18 (qm 0) = cI (cy 1) 10 Mm.1 := by rw [eF18, va_up_ne _ _ (pl_ne hF0 hFo rfl)]; exact hF0
        have hFqm1_18 : F18 (qm 1) = cJ (cy 2) 10 Mm.2 := by rw [eF18, va_up_ne _ _ (pl_ne hF1 hFo rfl)]; exact hF1
        have hFqm2_18 : F18 (qm 2) = cD (cy 0) 6 Dd.1 := by rw [eF18, va_up_ne _ _ (pl_ne hF2 hFo rfl)]; exact hF2
        have hFqm3_18 : F18 (qm 3) = cD (cy 0) 6 Dd.2.1 := by rw [eF18, va_up_ne _ _ (pl_ne hF3 hFo rfl)]; exact hF3
        have hFqm4_18 : F18 (qm 4) = cD (cy 0) 6 Dd.2.2.1 := by rw [eF18, va_up_ne _ _ (pl_ne hF4 hFo rfl)]; exact hF4
        have hFqm5_18 : F18 (qm 5) = cJ (cy 2) 6 Dd.2.2.2 := by rw [eF18, va_up_ne _ _ (pl_ne hF5 hFo rfl)]; exact hF5
        have hFqm6_18 : F18 (qm 6) = cI (cy 1) 8 Sl.1 := by rw [eF18, va_up_ne _ _ (pl_ne hF6 hFo rfl)]; exact hF6
        have hFqm7_18 : F18 (qm 7) = cJ (cy 2) 128 Sl.2 := by rw [eF18, va_up_ne _ _ (pl_ne hF7 hFo rfl)]; exact hF7
        have hFqm8_18 : F18 (qm 8) = cI (cy 1) 30 Pp.2.1 := by rw [eF18, va_up_ne _ _ (pl_ne hF8 hFo rfl)]; exact hF8
        have hFqm9_18 : F18 (qm 9) = cI (cy 3) 30 Pp.2.2 := by rw [eF18, va_up_ne _ _ (pl_ne hF9 hFo rfl)]; exact hF9
        have hFqm10_18 : F18 (qm 10) = cI (cy 1) 5 Kr.1 := by rw [eF18, va_up_ne _ _ (pl_ne hF10 hFo rfl)]; exact hF10
        have hFqm11_18 : F18 (qm 11) = cI (cy 3) 5 Kr.2.1 := by rw [eF18, va_up_ne _ _ (pl_ne hF11 hFo rfl)]; exact hF11
        have hFqm12_18 : F18 (qm 12) = cI (cy 1) 60 Kr.2.2 := by rw [eF18, va_up_ne _ _ (pl_ne hF12 hFo rfl)]; exact hF12
        have hFqm13_18 : F18 (qm 13) = cI (cy 1) 4 Bk.1 := by rw [eF18, va_up_ne _ _ (pl_ne hF13 hFo rfl)]; exact hF13
        have hFqm14_18 : F18 (qm 14) = cD (cy 0) 4 Bk.2 := by rw [eF18, va_up_ne _ _ (pl_ne hF14 hFo rfl)]; exact hF14
        have hFqm15_18 : F18 (qm 15) = cI (cy 1) 6 Xx.2 := by rw [eF18, va_up_ne _ _ (pl_ne hF15 hFo rfl)]; exact hF15
        refine lv_iload_n hx hb dX9_reckon_5 rfl (lv_at hl 2 rfl) ?_
        refine vp_callSi (W.runS (As := [.int (nI j_x)]) (rest := []) ⟨hx, hb, hml, hown, hts⟩ (c9_isMeter l (nI j_x)) (va_cwS 1 hts gX9_reckon_X9_isMeter rfl rfl rfl (by decide +kernel) ⟨Nat.le_of_ble_eq_true rfl, Nat.le_of_ble_eq_true rfl⟩) (preS_of okT (trivial)) rfl rfl hl.1 rfl (lv_room (Nat.le_of_ble_eq_true rfl)) dX9_reckon_6 ⟨Nat.le_of_ble_eq_true rfl, Nat.le_of_ble_eq_true rfl⟩) (fun r19 hr19 => ?_)
        rw [isx1 hi_x] at hr19
        subst hr19
        refine lv_if_eq (tgt := 27) hx hb dX9_reckon_9 (by decide) (fun c20 => absurd c20 (by decide)) (fun c20 => ?_)
        refine lv_iload_n hx hb dX9_reckon_12 rfl (lv_at hl 3 rfl) ?_
        refine vp_callSi (W.runS (As := [.int y]) (rest := []) ⟨hx, hb, hml, hown, hts⟩ (c9_isMeter l y) (va_cwS 1 hts gX9_reckon_X9_isMeter rfl rfl rfl (by decide +kernel) ⟨Nat.le_of_ble_eq_true rfl, Nat.le_of_ble_eq_true rfl⟩) (preS_of okT (trivial)) rfl rfl hl.1 rfl (lv_room (Nat.le_of_ble_eq_true rfl)) dX9_reckon_13 ⟨Nat.le_of_ble_eq_true rfl, Nat.le_of_ble_eq_true rfl⟩) (fun r21 hr21 => ?_)
        rw [isx0 hi_y] at hr21
        subst hr21
        refine lv_if_eq (tgt := 27) hx hb dX9_reckon_16 (by decide) (fun c22 => ?_) (fun c22 => absurd (by decide) c22)
        refine lv_sipush (v := -1001) hx hb dX9_reckon_27 (by decide) ?_
        exact W.iret (v := -1001) hx hb hr (fun t ht hW => ⟨⟨-1001, F18, rfl, (by have hsp : sp_reckon Mm Xx 2 (nI j_x) y (nI j_into) = (-1001, Mm, Xx) := (by unfold sp_reckon; rw [hi_x, hi_y]); rw [hsp]; exact ⟨rfl, (by exact ⟨⟨_, _, hmo, hFo_18⟩, ⟨hm0, hFqm0_18⟩, ⟨hm1, hFqm1_18⟩, ⟨hm2, hFqm2_18⟩, ⟨hm3, hFqm3_18⟩, ⟨hm4, hFqm4_18⟩, ⟨hm5, hFqm5_18⟩, ⟨hm6, hFqm6_18⟩, ⟨hm7, hFqm7_18⟩, ⟨hm8, hFqm8_18⟩, ⟨hm9, hFqm9_18⟩, ⟨hm10, hFqm10_18⟩, ⟨hm11, hFqm11_18⟩, ⟨hm12, hFqm12_18⟩, ⟨hm13, hFqm13_18⟩, ⟨hm14, hFqm14_18⟩, ⟨hm15, hFqm15_18⟩, hne⟩)⟩), (by show va_P _ _ _ t.heap; rw [ht]; exact hP)⟩, hS.F ht⟩) hS.2.2 dX9_reckon_30
    · subst ei_y
      rcases ixc 10 into with hi_into | ⟨j_into, hj_into, hi_into, ei_into⟩
      · refine lv_aload_n hx hb dX9_reckon_0 rfl (lv_at hl 0 rfl) ?_
        refine lv_iconst (v := 0) hx hb dX9_reckon_1 (by decide) ?_
        refine pg_put (ci := 8) (v := .int 0) (ty := .int) (C := RX9) (T := TX9) (N := 20) hx hb hts hinX9 tyX9 tyX9_ok nmX9 hown hK hP hD hS hmo hFo rfl 0 (by decide) (hts (.fieldLink RX9 61 "RopeDrumsModel" "thrown" "I") (by decide +kernel)) (fun _ h9 => h9) rfl (by decide +kernel) (rfl) (rfl) (Nat.le_of_ble_eq_true rfl) dX9_reckon_2 (fun H locs F23 eF23 hP hS => ?_)
        have eF23 : F23 = va_up F o (.inr (8, [.int 0, .ref (qm 0), .ref (qm 1), .ref (qm 2), .ref (qm 3), .ref (qm 4), .ref (qm 5), .ref (qm 6), .ref (qm 7), .int Pp.1, .ref (qm 8), .ref (qm 9), .ref (qm 10), .ref (qm 11), .ref (qm 12), .ref (qm 13), .ref (qm 14), .int Xx.1, .ref (qm 15), .long oc])) := eF23
        have hFo_23 : F23 o = .inr (8, [.int 0, .ref (qm 0), .ref (qm 1), .ref (qm 2), .ref (qm 3), .ref (qm 4), .ref (qm 5), .ref (qm 6), .ref (qm 7), .int Pp.1, .ref (qm 8), .ref (qm 9), .ref (qm 10), .ref (qm 11), .ref (qm 12), .ref (qm 13), .ref (qm 14), .int Xx.1, .ref (qm 15), .long oc]) := by rw [eF23]; exact va_up_self _ _ _
        have hFqm0_23 : F23 (qm 0) = cI (cy 1) 10 Mm.1 := by rw [eF23, va_up_ne _ _ (pl_ne hF0 hFo rfl)]; exact hF0
        have hFqm1_23 : F23 (qm 1) = cJ (cy 2) 10 Mm.2 := by rw [eF23, va_up_ne _ _ (pl_ne hF1 hFo rfl)]; exact hF1
        have hFqm2_23 : F23 (qm 2) = cD (cy 0) 6 Dd.1 := by rw [eF23, va_up_ne _ _ (pl_ne hF2 hFo rfl)]; exact hF2
        have hFqm3_23 : F23 (qm 3) = cD (cy 0) 6 Dd.2.1 := by rw [eF23, va_up_ne _ _ (pl_ne hF3 hFo rfl)]; exact hF3
        have hFqm4_23 : F23 (qm 4) = cD (cy 0) 6 Dd.2.2.1 := by rw [eF23, va_up_ne _ _ (pl_ne hF4 hFo rfl)]; exact hF4
        have hFqm5_23 : F23 (qm 5) = cJ (cy 2) 6 Dd.2.2.2 := by rw [eF23, va_up_ne _ _ (pl_ne hF5 hFo rfl)]; exact hF5
        have hFqm6_23 : F23 (qm 6) = cI (cy 1) 8 Sl.1 := by rw [eF23, va_up_ne _ _ (pl_ne hF6 hFo rfl)]; exact hF6
        have hFqm7_23 : F23 (qm 7) = cJ (cy 2) 128 Sl.2 := by rw [eF23, va_up_ne _ _ (pl_ne hF7 hFo rfl)]; exact hF7
        have hFqm8_23 : F23 (qm 8) = cI (cy 1) 30 Pp.2.1 := by rw [eF23, va_up_ne _ _ (pl_ne hF8 hFo rfl)]; exact hF8
        have hFqm9_23 : F23 (qm 9) = cI (cy 3) 30 Pp.2.2 := by rw [eF23, va_up_ne _ _ (pl_ne hF9 hFo rfl)]; exact hF9
        have hFqm10_23 : F23 (qm 10) = cI (cy 1) 5 Kr.1 := by rw [eF23, va_up_ne _ _ (pl_ne hF10 hFo rfl)]; exact hF10
        have hFqm11_23 : F23 (qm 11) = cI (cy 3) 5 Kr.2.1 := by rw [eF23, va_up_ne _ _ (pl_ne hF11 hFo rfl)]; exact hF11
        have hFqm12_23 : F23 (qm 12) = cI (cy 1) 60 Kr.2.2 := by rw [eF23, va_up_ne _ _ (pl_ne hF12 hFo rfl)]; exact hF12
        have hFqm13_23 : F23 (qm 13) = cI (cy 1) 4 Bk.1 := by rw [eF23, va_up_ne _ _ (pl_ne hF13 hFo rfl)]; exact hF13
        have hFqm14_23 : F23 (qm 14) = cD (cy 0) 4 Bk.2 := by rw [eF23, va_up_ne _ _ (pl_ne hF14 hFo rfl)]; exact hF14
        have hFqm15_23 : F23 (qm 15) = cI (cy 1) 6 Xx.2 := by rw [eF23, va_up_ne _ _ (pl_ne hF15 hFo rfl)]; exact hF15
        refine lv_iload_n hx hb dX9_reckon_5 rfl (lv_at hl 2 rfl) ?_
        refine vp_callSi (W.runS (As := [.int (nI j_x)]) (rest := []) ⟨hx, hb, hml, hown, hts⟩ (c9_isMeter l (nI j_x)) (va_cwS 1 hts gX9_reckon_X9_isMeter rfl rfl rfl (by decide +kernel) ⟨Nat.le_of_ble_eq_true rfl, Nat.le_of_ble_eq_true rfl⟩) (preS_of okT (trivial)) rfl rfl hl.1 rfl (lv_room (Nat.le_of_ble_eq_true rfl)) dX9_reckon_6 ⟨Nat.le_of_ble_eq_true rfl, Nat.le_of_ble_eq_true rfl⟩) (fun r24 hr24 => ?_)
        rw [isx1 hi_x] at hr24
        subst hr24
        refine lv_if_eq (tgt := 27) hx hb dX9_reckon_9 (by decide) (fun c25 => absurd c25 (by decide)) (fun c25 => ?_)
        refine lv_iload_n hx hb dX9_reckon_12 rfl (lv_at hl 3 rfl) ?_
        refine vp_callSi (W.runS (As := [.int (nI j_y)]) (rest := []) ⟨hx, hb, hml, hown, hts⟩ (c9_isMeter l (nI j_y)) (va_cwS 1 hts gX9_reckon_X9_isMeter rfl rfl rfl (by decide +kernel) ⟨Nat.le_of_ble_eq_true rfl, Nat.le_of_ble_eq_true rfl⟩) (preS_of okT (trivial)) rfl rfl hl.1 rfl (lv_room (Nat.le_of_ble_eq_true rfl)) dX9_reckon_13 ⟨Nat.le_of_ble_eq_true rfl, Nat.le_of_ble_eq_true rfl⟩) (fun r26 hr26 => ?_)
        rw [isx1 hi_y] at hr26
        subst hr26
        refine lv_if_eq (tgt := 27) hx hb dX9_reckon_16 (by decide) (fun c27 => absurd c27 (by decide)) (fun c27 => ?_)
        refine lv_iload hx hb dX9_reckon_19 (lv_at hl 4 rfl) ?_
        refine vp_callSi (W.runS (As := [.int into]) (rest := []) ⟨hx, hb, hml, hown, hts⟩ (c9_isMeter l into) (va_cwS 1 hts gX9_reckon_X9_isMeter rfl rfl rfl (by decide +kernel) ⟨Nat.le_of_ble_eq_true rfl, Nat.le_of_ble_eq_true rfl⟩) (preS_of okT (trivial)) rfl rfl hl.1 rfl (lv_room (Nat.le_of_ble_eq_true rfl)) dX9_reckon_21 ⟨Nat.le_of_ble_eq_true rfl, Nat.le_of_ble_eq_true rfl⟩) (fun r28 hr28 => ?_)
        rw [isx0 hi_into] at hr28
        subst hr28
        refine lv_if_ne (tgt := 31) hx hb dX9_reckon_24 (by decide) (fun c29 => absurd (by decide) c29) (fun c29 => ?_)
        refine lv_sipush (v := -1001) hx hb dX9_reckon_27 (by decide) ?_
        exact W.iret (v := -1001) hx hb hr (fun t ht hW => ⟨⟨-1001, F23, rfl, (by have hsp : sp_reckon Mm Xx 2 (nI j_x) (nI j_y) into = (-1001, Mm, Xx) := (by unfold sp_reckon; rw [hi_x, hi_y, hi_into]); rw [hsp]; exact ⟨rfl, (by exact ⟨⟨_, _, hmo, hFo_23⟩, ⟨hm0, hFqm0_23⟩, ⟨hm1, hFqm1_23⟩, ⟨hm2, hFqm2_23⟩, ⟨hm3, hFqm3_23⟩, ⟨hm4, hFqm4_23⟩, ⟨hm5, hFqm5_23⟩, ⟨hm6, hFqm6_23⟩, ⟨hm7, hFqm7_23⟩, ⟨hm8, hFqm8_23⟩, ⟨hm9, hFqm9_23⟩, ⟨hm10, hFqm10_23⟩, ⟨hm11, hFqm11_23⟩, ⟨hm12, hFqm12_23⟩, ⟨hm13, hFqm13_23⟩, ⟨hm14, hFqm14_23⟩, ⟨hm15, hFqm15_23⟩, hne⟩)⟩), (by show va_P _ _ _ t.heap; rw [ht]; exact hP)⟩, hS.F ht⟩) hS.2.2 dX9_reckon_30
      · subst ei_into
        refine lv_aload_n hx hb dX9_reckon_0 rfl (lv_at hl 0 rfl) ?_
        refine lv_iconst (v := 0) hx hb dX9_reckon_1 (by decide) ?_
        refine pg_put (ci := 8) (v := .int 0) (ty := .int) (C := RX9) (T := TX9) (N := 20) hx hb hts hinX9 tyX9 tyX9_ok nmX9 hown hK hP hD hS hmo hFo rfl 0 (by decide) (hts (.fieldLink RX9 61 "RopeDrumsModel" "thrown" "I") (by decide +kernel)) (fun _ h9 => h9) rfl (by decide +kernel) (rfl) (rfl) (Nat.le_of_ble_eq_true rfl) dX9_reckon_2 (fun H locs F30 eF30 hP hS => ?_)
        have eF30 : F30 = va_up F o (.inr (8, [.int 0, .ref (qm 0), .ref (qm 1), .ref (qm 2), .ref (qm 3), .ref (qm 4), .ref (qm 5), .ref (qm 6), .ref (qm 7), .int Pp.1, .ref (qm 8), .ref (qm 9), .ref (qm 10), .ref (qm 11), .ref (qm 12), .ref (qm 13), .ref (qm 14), .int Xx.1, .ref (qm 15), .long oc])) := eF30
        have hFo_30 : F30 o = .inr (8, [.int 0, .ref (qm 0), .ref (qm 1), .ref (qm 2), .ref (qm 3), .ref (qm 4), .ref (qm 5), .ref (qm 6), .ref (qm 7), .int Pp.1, .ref (qm 8), .ref (qm 9), .ref (qm 10), .ref (qm 11), .ref (qm 12), .ref (qm 13), .ref (qm 14), .int Xx.1, .ref (qm 15), .long oc]) := by rw [eF30]; exact va_up_self _ _ _
        have hFqm0_30 : F30 (qm 0) = cI (cy 1) 10 Mm.1 := by rw [eF30, va_up_ne _ _ (pl_ne hF0 hFo rfl)]; exact hF0
        have hFqm1_30 : F30 (qm 1) = cJ (cy 2) 10 Mm.2 := by rw [eF30, va_up_ne _ _ (pl_ne hF1 hFo rfl)]; exact hF1
        have hFqm2_30 : F30 (qm 2) = cD (cy 0) 6 Dd.1 := by rw [eF30, va_up_ne _ _ (pl_ne hF2 hFo rfl)]; exact hF2
        have hFqm3_30 : F30 (qm 3) = cD (cy 0) 6 Dd.2.1 := by rw [eF30, va_up_ne _ _ (pl_ne hF3 hFo rfl)]; exact hF3
        have hFqm4_30 : F30 (qm 4) = cD (cy 0) 6 Dd.2.2.1 := by rw [eF30, va_up_ne _ _ (pl_ne hF4 hFo rfl)]; exact hF4
        have hFqm5_30 : F30 (qm 5) = cJ (cy 2) 6 Dd.2.2.2 := by rw [eF30, va_up_ne _ _ (pl_ne hF5 hFo rfl)]; exact hF5
        have hFqm6_30 : F30 (qm 6) = cI (cy 1) 8 Sl.1 := by rw [eF30, va_up_ne _ _ (pl_ne hF6 hFo rfl)]; exact hF6
        have hFqm7_30 : F30 (qm 7) = cJ (cy 2) 128 Sl.2 := by rw [eF30, va_up_ne _ _ (pl_ne hF7 hFo rfl)]; exact hF7
        have hFqm8_30 : F30 (qm 8) = cI (cy 1) 30 Pp.2.1 := by rw [eF30, va_up_ne _ _ (pl_ne hF8 hFo rfl)]; exact hF8
        have hFqm9_30 : F30 (qm 9) = cI (cy 3) 30 Pp.2.2 := by rw [eF30, va_up_ne _ _ (pl_ne hF9 hFo rfl)]; exact hF9
        have hFqm10_30 : F30 (qm 10) = cI (cy 1) 5 Kr.1 := by rw [eF30, va_up_ne _ _ (pl_ne hF10 hFo rfl)]; exact hF10
        have hFqm11_30 : F30 (qm 11) = cI (cy 3) 5 Kr.2.1 := by rw [eF30, va_up_ne _ _ (pl_ne hF11 hFo rfl)]; exact hF11
        have hFqm12_30 : F30 (qm 12) = cI (cy 1) 60 Kr.2.2 := by rw [eF30, va_up_ne _ _ (pl_ne hF12 hFo rfl)]; exact hF12
        have hFqm13_30 : F30 (qm 13) = cI (cy 1) 4 Bk.1 := by rw [eF30, va_up_ne _ _ (pl_ne hF13 hFo rfl)]; exact hF13
        have hFqm14_30 : F30 (qm 14) = cD (cy 0) 4 Bk.2 := by rw [eF30, va_up_ne _ _ (pl_ne hF14 hFo rfl)]; exact hF14
        have hFqm15_30 : F30 (qm 15) = cI (cy 1) 6 Xx.2 := by rw [eF30, va_up_ne _ _ (pl_ne hF15 hFo rfl)]; exact hF15
        refine lv_iload_n hx hb dX9_reckon_5 rfl (lv_at hl 2 rfl) ?_
        refine vp_callSi (W.runS (As := [.int (nI j_x)]) (rest := []) ⟨hx, hb, hml, hown, hts⟩ (c9_isMeter l (nI j_x)) (va_cwS 1 hts gX9_reckon_X9_isMeter rfl rfl rfl (by decide +kernel) ⟨Nat.le_of_ble_eq_true rfl, Nat.le_of_ble_eq_true rfl⟩) (preS_of okT (trivial)) rfl rfl hl.1 rfl (lv_room (Nat.le_of_ble_eq_true rfl)) dX9_reckon_6 ⟨Nat.le_of_ble_eq_true rfl, Nat.le_of_ble_eq_true rfl⟩) (fun r31 hr31 => ?_)
        rw [isx1 hi_x] at hr31
        subst hr31
        refine lv_if_eq (tgt := 27) hx hb dX9_reckon_9 (by decide) (fun c32 => absurd c32 (by decide)) (fun c32 => ?_)
        refine lv_iload_n hx hb dX9_reckon_12 rfl (lv_at hl 3 rfl) ?_
        refine vp_callSi (W.runS (As := [.int (nI j_y)]) (rest := []) ⟨hx, hb, hml, hown, hts⟩ (c9_isMeter l (nI j_y)) (va_cwS 1 hts gX9_reckon_X9_isMeter rfl rfl rfl (by decide +kernel) ⟨Nat.le_of_ble_eq_true rfl, Nat.le_of_ble_eq_true rfl⟩) (preS_of okT (trivial)) rfl rfl hl.1 rfl (lv_room (Nat.le_of_ble_eq_true rfl)) dX9_reckon_13 ⟨Nat.le_of_ble_eq_true rfl, Nat.le_of_ble_eq_true rfl⟩) (fun r33 hr33 => ?_)
        rw [isx1 hi_y] at hr33
        subst hr33
        refine lv_if_eq (tgt := 27) hx hb dX9_reckon_16 (by decide) (fun c34 => absurd c34 (by decide)) (fun c34 => ?_)
        refine lv_iload hx hb dX9_reckon_19 (lv_at hl 4 rfl) ?_
        refine vp_callSi (W.runS (As := [.int (nI j_into)]) (rest := []) ⟨hx, hb, hml, hown, hts⟩ (c9_isMeter l (nI j_into)) (va_cwS 1 hts gX9_reckon_X9_isMeter rfl rfl rfl (by decide +kernel) ⟨Nat.le_of_ble_eq_true rfl, Nat.le_of_ble_eq_true rfl⟩) (preS_of okT (trivial)) rfl rfl hl.1 rfl (lv_room (Nat.le_of_ble_eq_true rfl)) dX9_reckon_21 ⟨Nat.le_of_ble_eq_true rfl, Nat.le_of_ble_eq_true rfl⟩) (fun r35 hr35 => ?_)
        rw [isx1 hi_into] at hr35
        subst hr35
        refine lv_if_ne (tgt := 31) hx hb dX9_reckon_24 (by decide) (fun c36 => ?_) (fun c36 => absurd c36 (by decide))
        refine lv_iload_n hx hb dX9_reckon_31 rfl (lv_at hl 1 rfl) ?_
        refine lv_i2l hx hb dX9_reckon_32 rfl ?_
        refine lv_topl (fun v37 ev37 => ?_)
        refine lv_lconst (v := 0) hx hb dX9_reckon_33 (by decide) ?_
        refine lv_ldc2 hx hb hown (hts (.constantLong RX9 143 (4)) (by decide +kernel)) dX9_reckon_34 ?_
        refine vp_callSi (W.runS (As := [.long v37, .long 0, .long 4]) (rest := []) ⟨hx, hb, hml, hown, hts⟩ (c9_in l v37 0 4) (va_cwS 3 hts gX9_reckon_X9_in rfl rfl rfl (by decide +kernel) ⟨Nat.le_of_ble_eq_true rfl, Nat.le_of_ble_eq_true rfl⟩) (preS_of okT (trivial)) rfl rfl hl.1 rfl (lv_room (Nat.le_of_ble_eq_true rfl)) dX9_reckon_37 ⟨Nat.le_of_ble_eq_true rfl, Nat.le_of_ble_eq_true rfl⟩) (fun r38 hr38 => ?_)
        have hzr38 : r38 = 1 := by rw [hr38, ev37, inq_i (y := 0) (z := 4) (by decide) (by decide)]; exact if_pos (by decide)
        subst hzr38
        refine lv_if_ne (tgt := 47) hx hb dX9_reckon_40 (by decide) (fun c39 => ?_) (fun c39 => absurd c39 (by decide))
        refine lv_aload_n hx hb dX9_reckon_47 rfl (lv_at hl 0 rfl) ?_
        refine lv_iconst (v := 0) hx hb dX9_reckon_48 (by decide) ?_
        refine pg_put (ci := 8) (v := .int 0) (ty := .int) (C := RX9) (T := TX9) (N := 20) hx hb hts hinX9 tyX9 tyX9_ok nmX9 hown hK hP hD hS hmo hFo_30 rfl 17 (by decide) (hts (.fieldLink RX9 65 "RopeDrumsModel" "failed" "I") (by decide +kernel)) (fun _ h9 => h9) rfl (by decide +kernel) (rfl) (rfl) (Nat.le_of_ble_eq_true rfl) dX9_reckon_49 (fun H locs F40 eF40 hP hS => ?_)
        have eF40 : F40 = va_up F30 o (.inr (8, [.int 0, .ref (qm 0), .ref (qm 1), .ref (qm 2), .ref (qm 3), .ref (qm 4), .ref (qm 5), .ref (qm 6), .ref (qm 7), .int Pp.1, .ref (qm 8), .ref (qm 9), .ref (qm 10), .ref (qm 11), .ref (qm 12), .ref (qm 13), .ref (qm 14), .int 0, .ref (qm 15), .long oc])) := eF40
        have hFo_40 : F40 o = .inr (8, [.int 0, .ref (qm 0), .ref (qm 1), .ref (qm 2), .ref (qm 3), .ref (qm 4), .ref (qm 5), .ref (qm 6), .ref (qm 7), .int Pp.1, .ref (qm 8), .ref (qm 9), .ref (qm 10), .ref (qm 11), .ref (qm 12), .ref (qm 13), .ref (qm 14), .int 0, .ref (qm 15), .long oc]) := by rw [eF40]; exact va_up_self _ _ _
        have hFqm0_40 : F40 (qm 0) = cI (cy 1) 10 Mm.1 := by rw [eF40, va_up_ne _ _ (pl_ne hFqm0_30 hFo_30 rfl)]; exact hFqm0_30
        have hFqm1_40 : F40 (qm 1) = cJ (cy 2) 10 Mm.2 := by rw [eF40, va_up_ne _ _ (pl_ne hFqm1_30 hFo_30 rfl)]; exact hFqm1_30
        have hFqm2_40 : F40 (qm 2) = cD (cy 0) 6 Dd.1 := by rw [eF40, va_up_ne _ _ (pl_ne hFqm2_30 hFo_30 rfl)]; exact hFqm2_30
        have hFqm3_40 : F40 (qm 3) = cD (cy 0) 6 Dd.2.1 := by rw [eF40, va_up_ne _ _ (pl_ne hFqm3_30 hFo_30 rfl)]; exact hFqm3_30
        have hFqm4_40 : F40 (qm 4) = cD (cy 0) 6 Dd.2.2.1 := by rw [eF40, va_up_ne _ _ (pl_ne hFqm4_30 hFo_30 rfl)]; exact hFqm4_30
        have hFqm5_40 : F40 (qm 5) = cJ (cy 2) 6 Dd.2.2.2 := by rw [eF40, va_up_ne _ _ (pl_ne hFqm5_30 hFo_30 rfl)]; exact hFqm5_30
        have hFqm6_40 : F40 (qm 6) = cI (cy 1) 8 Sl.1 := by rw [eF40, va_up_ne _ _ (pl_ne hFqm6_30 hFo_30 rfl)]; exact hFqm6_30
        have hFqm7_40 : F40 (qm 7) = cJ (cy 2) 128 Sl.2 := by rw [eF40, va_up_ne _ _ (pl_ne hFqm7_30 hFo_30 rfl)]; exact hFqm7_30
        have hFqm8_40 : F40 (qm 8) = cI (cy 1) 30 Pp.2.1 := by rw [eF40, va_up_ne _ _ (pl_ne hFqm8_30 hFo_30 rfl)]; exact hFqm8_30
        have hFqm9_40 : F40 (qm 9) = cI (cy 3) 30 Pp.2.2 := by rw [eF40, va_up_ne _ _ (pl_ne hFqm9_30 hFo_30 rfl)]; exact hFqm9_30
        have hFqm10_40 : F40 (qm 10) = cI (cy 1) 5 Kr.1 := by rw [eF40, va_up_ne _ _ (pl_ne hFqm10_30 hFo_30 rfl)]; exact hFqm10_30
        have hFqm11_40 : F40 (qm 11) = cI (cy 3) 5 Kr.2.1 := by rw [eF40, va_up_ne _ _ (pl_ne hFqm11_30 hFo_30 rfl)]; exact hFqm11_30
        have hFqm12_40 : F40 (qm 12) = cI (cy 1) 60 Kr.2.2 := by rw [eF40, va_up_ne _ _ (pl_ne hFqm12_30 hFo_30 rfl)]; exact hFqm12_30
        have hFqm13_40 : F40 (qm 13) = cI (cy 1) 4 Bk.1 := by rw [eF40, va_up_ne _ _ (pl_ne hFqm13_30 hFo_30 rfl)]; exact hFqm13_30
        have hFqm14_40 : F40 (qm 14) = cD (cy 0) 4 Bk.2 := by rw [eF40, va_up_ne _ _ (pl_ne hFqm14_30 hFo_30 rfl)]; exact hFqm14_30
        have hFqm15_40 : F40 (qm 15) = cI (cy 1) 6 Xx.2 := by rw [eF40, va_up_ne _ _ (pl_ne hFqm15_30 hFo_30 rfl)]; exact hFqm15_30
        refine jn_i (pc := 82) (ls := ls) (rest := []) (fun vv => vv = mx (Mm.1 j_x) (Mm.1 j_y)) (fun j41 hj41 => ?_) (fun K => ?_)
        · subst hj41
          refine lv_istore (lv' := [(5, .int (mx (Mm.1 j_x) (Mm.1 j_y))), (0, .ref o), (1, .int 2), (2, .int (nI j_x)), (3, .int (nI j_y)), (4, .int (nI j_into))]) hx hb dX9_reckon_82 hl (by decide) rfl (fun ls hl => ?_)
          refine lv_aload_n hx hb dX9_reckon_84 rfl (lv_at hl 1 rfl) ?_
          refine pg_get (ci := 8) (C := RX9) (T := TX9) (N := 20) hx hb hts hinX9 hown hK hP hmo hFo_40 rfl 1 (by decide) (hts (.fieldLink RX9 7 "RopeDrumsModel" "laneOf" "[I") (by decide +kernel)) (fun _ h9 => h9) rfl dX9_reckon_85 ?_
          refine lv_iload_n hx hb dX9_reckon_88 rfl (lv_at hl 3 rfl) ?_
          refine pg_iald hx hb hK hP 1 hm0 hFqm0_40 rfl (vp_in_nI (by omega) (by decide)) dX9_reckon_89 ?_
          refine lv_topi (fun v42 ev42 => ?_)
          rw [nI_clamp (by omega)] at ev42
          refine lv_aload_n hx hb dX9_reckon_90 rfl (lv_at hl 1 rfl) ?_
          refine pg_get (ci := 8) (C := RX9) (T := TX9) (N := 20) hx hb hts hinX9 hown hK hP hmo hFo_40 rfl 2 (by decide) (hts (.fieldLink RX9 13 "RopeDrumsModel" "held" "[J") (by decide +kernel)) (fun _ h9 => h9) rfl dX9_reckon_91 ?_
          refine lv_iload_n hx hb dX9_reckon_94 rfl (lv_at hl 3 rfl) ?_
          refine pg_lald hx hb hK hP 2 hm1 hFqm1_40 rfl (vp_in_nI (by omega) (by decide)) dX9_reckon_95 ?_
          refine lv_topl (fun v43 ev43 => ?_)
          rw [nI_clamp (by omega)] at ev43
          refine lv_iload hx hb dX9_reckon_96 (lv_at hl 0 rfl) ?_
          refine vp_callSl (W.runS (As := [.int v42, .long v43, .int (mx (Mm.1 j_x) (Mm.1 j_y))]) (rest := []) ⟨hx, hb, hml, hown, hts⟩ (c9_turned l v42 (mx (Mm.1 j_x) (Mm.1 j_y)) v43 (by rw [ev42, ev43]; exact (hVM j_x hj_x))) (va_cwS 3 hts gX9_reckon_X9_turned rfl rfl rfl (by decide +kernel) ⟨Nat.le_of_ble_eq_true rfl, Nat.le_of_ble_eq_true rfl⟩) (preS_of okT (trivial)) rfl rfl hl.1 rfl (lv_room (Nat.le_of_ble_eq_true rfl)) dX9_reckon_98 ⟨Nat.le_of_ble_eq_true rfl, Nat.le_of_ble_eq_true rfl⟩) (fun r44 hr44 => ?_)
          refine lv_lstore (lv' := [(6, .long r44), (5, .int (mx (Mm.1 j_x) (Mm.1 j_y))), (0, .ref o), (1, .int 2), (2, .int (nI j_x)), (3, .int (nI j_y)), (4, .int (nI j_into))]) hx hb dX9_reckon_101 hl (by decide) rfl (fun ls hl => ?_)
          refine lv_aload_n hx hb dX9_reckon_103 rfl (lv_at hl 2 rfl) ?_
          refine pg_get (ci := 8) (C := RX9) (T := TX9) (N := 20) hx hb hts hinX9 hown hK hP hmo hFo_40 rfl 1 (by decide) (hts (.fieldLink RX9 7 "RopeDrumsModel" "laneOf" "[I") (by decide +kernel)) (fun _ h9 => h9) rfl dX9_reckon_104 ?_
          refine lv_iload_n hx hb dX9_reckon_107 rfl (lv_at hl 5 rfl) ?_
          refine pg_iald hx hb hK hP 1 hm0 hFqm0_40 rfl (vp_in_nI (by omega) (by decide)) dX9_reckon_108 ?_
          refine lv_topi (fun v45 ev45 => ?_)
          rw [nI_clamp (by omega)] at ev45
          refine lv_aload_n hx hb dX9_reckon_109 rfl (lv_at hl 2 rfl) ?_
          refine pg_get (ci := 8) (C := RX9) (T := TX9) (N := 20) hx hb hts hinX9 hown hK hP hmo hFo_40 rfl 2 (by decide) (hts (.fieldLink RX9 13 "RopeDrumsModel" "held" "[J") (by decide +kernel)) (fun _ h9 => h9) rfl dX9_reckon_110 ?_
          refine lv_iload_n hx hb dX9_reckon_113 rfl (lv_at hl 5 rfl) ?_
          refine pg_lald hx hb hK hP 2 hm1 hFqm1_40 rfl (vp_in_nI (by omega) (by decide)) dX9_reckon_114 ?_
          refine lv_topl (fun v46 ev46 => ?_)
          rw [nI_clamp (by omega)] at ev46
          refine lv_iload hx hb dX9_reckon_115 (lv_at hl 1 rfl) ?_
          refine vp_callSl (W.runS (As := [.int v45, .long v46, .int (mx (Mm.1 j_x) (Mm.1 j_y))]) (rest := []) ⟨hx, hb, hml, hown, hts⟩ (c9_turned l v45 (mx (Mm.1 j_x) (Mm.1 j_y)) v46 (by rw [ev45, ev46]; exact (hVM j_y hj_y))) (va_cwS 3 hts gX9_reckon_X9_turned rfl rfl rfl (by decide +kernel) ⟨Nat.le_of_ble_eq_true rfl, Nat.le_of_ble_eq_true rfl⟩) (preS_of okT (trivial)) rfl rfl hl.1 rfl (lv_room (Nat.le_of_ble_eq_true rfl)) dX9_reckon_117 ⟨Nat.le_of_ble_eq_true rfl, Nat.le_of_ble_eq_true rfl⟩) (fun r47 hr47 => ?_)
          refine lv_lstore (lv' := [(8, .long r47), (6, .long r44), (5, .int (mx (Mm.1 j_x) (Mm.1 j_y))), (0, .ref o), (1, .int 2), (2, .int (nI j_x)), (3, .int (nI j_y)), (4, .int (nI j_into))]) hx hb dX9_reckon_120 hl (by decide) rfl (fun ls hl => ?_)
          have hmx := mx_v (hVM j_x hj_x).lane (hVM j_y hj_y).lane
          by_cases h1l : (1 : Int32) < mx (Mm.1 j_x) (Mm.1 j_y)
          · rcases (hmx.2 h1l).1 with hmxl | hmxl
            · by_cases hnan0 : FP.Core.fIsNaN (rkF 2 (fl (tn (Mm.1 j_x) (Mm.2 j_x) 2)) (fl (tn (Mm.1 j_y) (Mm.2 j_y) 2))) = true
              · refine lv_iload hx hb dX9_reckon_122 (lv_at hl 2 rfl) ?_
                refine lv_iconst (v := 2) hx hb dX9_reckon_124 (by decide) ?_
                refine lv_icmp_ge (tgt := 162) hx hb dX9_reckon_125 (by decide) (fun c48 => ?_) (fun c48 => absurd (by rw [hmxl]; decide) c48)
                refine lv_iload hx hb dX9_reckon_162 (lv_at hl 2 rfl) ?_
                refine lv_iconst (v := 2) hx hb dX9_reckon_164 (by decide) ?_
                refine lv_icmp_ne (tgt := 186) hx hb dX9_reckon_165 (by decide) (fun c49 => absurd (hmxl) c49) (fun c49 => ?_)
                refine lv_aload_n hx hb dX9_reckon_168 rfl (lv_at hl 3 rfl) ?_
                refine lv_iload_n hx hb dX9_reckon_169 rfl (lv_at hl 4 rfl) ?_
                refine lv_lload hx hb dX9_reckon_170 (lv_at hl 1 rfl) ?_
                refine vp_callSf (W.runS (As := [.long r44]) (rest := [.int 2, .ref o]) ⟨hx, hb, hml, hown, hts⟩ (c9_floatOf l r44 (by rw [hr44, ev42, ev43]; exact (by rw [hmxl]; exact tn2_ok (hVM j_x hj_x)))) (va_cwS 1 hts gX9_reckon_X9_floatOf rfl rfl rfl (by decide +kernel) ⟨Nat.le_of_ble_eq_true rfl, Nat.le_of_ble_eq_true rfl⟩) (preS_of okT (trivial)) rfl rfl hl.1 rfl (lv_room (Nat.le_of_ble_eq_true rfl)) dX9_reckon_172 ⟨Nat.le_of_ble_eq_true rfl, Nat.le_of_ble_eq_true rfl⟩) (fun r50 hr50 => ?_)
                refine lv_lload hx hb dX9_reckon_175 (lv_at hl 0 rfl) ?_
                refine vp_callSf (W.runS (As := [.long r47]) (rest := [.float r50, .int 2, .ref o]) ⟨hx, hb, hml, hown, hts⟩ (c9_floatOf l r47 (by rw [hr47, ev45, ev46]; exact (by rw [hmxl]; exact tn2_ok (hVM j_y hj_y)))) (va_cwS 1 hts gX9_reckon_X9_floatOf rfl rfl rfl (by decide +kernel) ⟨Nat.le_of_ble_eq_true rfl, Nat.le_of_ble_eq_true rfl⟩) (preS_of okT (trivial)) rfl rfl hl.1 rfl (lv_room (Nat.le_of_ble_eq_true rfl)) dX9_reckon_177 ⟨Nat.le_of_ble_eq_true rfl, Nat.le_of_ble_eq_true rfl⟩) (fun r51 hr51 => ?_)
                refine va_callv (va_runV (As := [.int 2, .float r50, .float r51]) (rest := []) ⟨hx, hb, hml, hown, hts⟩ (c9_rF_2_no l G cy L F40 H.size o qm 0 Pp.1 0 oc hmo hFo_40 r50 r51 (by rw [hr50, hr44, ev42, ev43, hmxl]; exact tn2_ok (hVM j_x hj_x)) (by rw [hr51, hr47, ev45, ev46, hmxl]; exact tn2_ok (hVM j_y hj_y)) (by rw [hr50, hr44, ev42, ev43, hr51, hr47, ev45, ev46, hmxl]; exact hnan0)) (cwV 3 hts gX9_reckon_X9_reckonFloats rfl rfl rfl (by decide +kernel) ⟨Nat.le_of_ble_eq_true rfl, Nat.le_of_ble_eq_true rfl⟩) (preV_of okQ (⟨rfl, hP, hK, hD.top⟩) (pl_recv hK hP (ci := 8) rfl hmo hFo_40)) rfl rfl hl.1 rfl (lv_room (Nat.le_of_ble_eq_true rfl)) dX9_reckon_180 ⟨Nat.le_of_ble_eq_true rfl, Nat.le_of_ble_eq_true rfl⟩) hS (fun q _ h => pl_free hD hS hA q h) (pl_free hD hS hA) (fun F52 t H1 locs ht hvm hw hP1 hz1 hk1 hS => ?_)
                have hP1 : va_P G vwCl (va_pl L F52) t.heap := hP1
                rw [ht] at hP1
                have hP := hP1
                generalize H1 = H at hP hS ⊢
                have eF52 : F52 = va_up F40 o (.inr (8, [.int 0, .ref (qm 0), .ref (qm 1), .ref (qm 2), .ref (qm 3), .ref (qm 4), .ref (qm 5), .ref (qm 6), .ref (qm 7), .int Pp.1, .ref (qm 8), .ref (qm 9), .ref (qm 10), .ref (qm 11), .ref (qm 12), .ref (qm 13), .ref (qm 14), .int 5, .ref (qm 15), .long oc])) := hw
                have hFo_52 : F52 o = .inr (8, [.int 0, .ref (qm 0), .ref (qm 1), .ref (qm 2), .ref (qm 3), .ref (qm 4), .ref (qm 5), .ref (qm 6), .ref (qm 7), .int Pp.1, .ref (qm 8), .ref (qm 9), .ref (qm 10), .ref (qm 11), .ref (qm 12), .ref (qm 13), .ref (qm 14), .int 5, .ref (qm 15), .long oc]) := by rw [eF52]; exact va_up_self _ _ _
                have hFqm0_52 : F52 (qm 0) = cI (cy 1) 10 Mm.1 := by rw [eF52, va_up_ne _ _ (pl_ne hFqm0_40 hFo_40 rfl)]; exact hFqm0_40
                have hFqm1_52 : F52 (qm 1) = cJ (cy 2) 10 Mm.2 := by rw [eF52, va_up_ne _ _ (pl_ne hFqm1_40 hFo_40 rfl)]; exact hFqm1_40
                have hFqm2_52 : F52 (qm 2) = cD (cy 0) 6 Dd.1 := by rw [eF52, va_up_ne _ _ (pl_ne hFqm2_40 hFo_40 rfl)]; exact hFqm2_40
                have hFqm3_52 : F52 (qm 3) = cD (cy 0) 6 Dd.2.1 := by rw [eF52, va_up_ne _ _ (pl_ne hFqm3_40 hFo_40 rfl)]; exact hFqm3_40
                have hFqm4_52 : F52 (qm 4) = cD (cy 0) 6 Dd.2.2.1 := by rw [eF52, va_up_ne _ _ (pl_ne hFqm4_40 hFo_40 rfl)]; exact hFqm4_40
                have hFqm5_52 : F52 (qm 5) = cJ (cy 2) 6 Dd.2.2.2 := by rw [eF52, va_up_ne _ _ (pl_ne hFqm5_40 hFo_40 rfl)]; exact hFqm5_40
                have hFqm6_52 : F52 (qm 6) = cI (cy 1) 8 Sl.1 := by rw [eF52, va_up_ne _ _ (pl_ne hFqm6_40 hFo_40 rfl)]; exact hFqm6_40
                have hFqm7_52 : F52 (qm 7) = cJ (cy 2) 128 Sl.2 := by rw [eF52, va_up_ne _ _ (pl_ne hFqm7_40 hFo_40 rfl)]; exact hFqm7_40
                have hFqm8_52 : F52 (qm 8) = cI (cy 1) 30 Pp.2.1 := by rw [eF52, va_up_ne _ _ (pl_ne hFqm8_40 hFo_40 rfl)]; exact hFqm8_40
                have hFqm9_52 : F52 (qm 9) = cI (cy 3) 30 Pp.2.2 := by rw [eF52, va_up_ne _ _ (pl_ne hFqm9_40 hFo_40 rfl)]; exact hFqm9_40
                have hFqm10_52 : F52 (qm 10) = cI (cy 1) 5 Kr.1 := by rw [eF52, va_up_ne _ _ (pl_ne hFqm10_40 hFo_40 rfl)]; exact hFqm10_40
                have hFqm11_52 : F52 (qm 11) = cI (cy 3) 5 Kr.2.1 := by rw [eF52, va_up_ne _ _ (pl_ne hFqm11_40 hFo_40 rfl)]; exact hFqm11_40
                have hFqm12_52 : F52 (qm 12) = cI (cy 1) 60 Kr.2.2 := by rw [eF52, va_up_ne _ _ (pl_ne hFqm12_40 hFo_40 rfl)]; exact hFqm12_40
                have hFqm13_52 : F52 (qm 13) = cI (cy 1) 4 Bk.1 := by rw [eF52, va_up_ne _ _ (pl_ne hFqm13_40 hFo_40 rfl)]; exact hFqm13_40
                have hFqm14_52 : F52 (qm 14) = cD (cy 0) 4 Bk.2 := by rw [eF52, va_up_ne _ _ (pl_ne hFqm14_40 hFo_40 rfl)]; exact hFqm14_40
                have hFqm15_52 : F52 (qm 15) = cI (cy 1) 6 Xx.2 := by rw [eF52, va_up_ne _ _ (pl_ne hFqm15_40 hFo_40 rfl)]; exact hFqm15_40
                refine lv_goto (tgt := 201) hx hb dX9_reckon_183 (by decide) ?_
                refine lv_aload_n hx hb dX9_reckon_201 rfl (lv_at hl 3 rfl) ?_
                refine pg_get (ci := 8) (C := RX9) (T := TX9) (N := 20) hx hb hts hinX9 hown hK hP hmo hFo_52 rfl 17 (by decide) (hts (.fieldLink RX9 65 "RopeDrumsModel" "failed" "I") (by decide +kernel)) (fun _ h9 => h9) rfl dX9_reckon_202 ?_
                refine lv_if_ne (tgt := 228) hx hb dX9_reckon_205 (by decide) (fun c53 => ?_) (fun c53 => absurd c53 (by decide))
                refine lv_aload_n hx hb dX9_reckon_228 rfl (lv_at hl 3 rfl) ?_
                refine lv_iload hx hb dX9_reckon_229 (lv_at hl 2 rfl) ?_
                refine va_calli (va_runV (As := [.int (mx (Mm.1 j_x) (Mm.1 j_y))]) (rest := []) ⟨hx, hb, hml, hown, hts⟩ (c9_answers_5 l G cy L F52 H.size o qm 0 Pp.1 oc hmo hFo_52 Xx.2 hm15 hFqm15_52 (mx (Mm.1 j_x) (Mm.1 j_y))) (cwV 1 hts gX9_reckon_X9_answers rfl rfl rfl (by decide +kernel) ⟨Nat.le_of_ble_eq_true rfl, Nat.le_of_ble_eq_true rfl⟩) (preV_of okQ (⟨rfl, hP, hK, hD.top⟩) (pl_recv hK hP (ci := 8) rfl hmo hFo_52)) rfl rfl hl.1 rfl (lv_room (Nat.le_of_ble_eq_true rfl)) dX9_reckon_231 ⟨Nat.le_of_ble_eq_true rfl, Nat.le_of_ble_eq_true rfl⟩) hS (fun q _ h => pl_free hD hS hA q h) (pl_free hD hS hA) (fun r55 F54 t H1 locs ht hvm hw hP1 hz1 hk1 hS => ?_)
                have hP1 : va_P G vwCl (va_pl L F54) t.heap := hP1
                rw [ht] at hP1
                have hP := hP1
                generalize H1 = H at hP hS ⊢
                obtain ⟨hqr55, eF54⟩ := hw
                have eF54 : F54 = va_up F52 (qm 15) (cI (cy 1) 6 (upd Xx.2 5 (Xx.2 5 + 1))) := eF54
                have hFo_55 : F54 o = .inr (8, [.int 0, .ref (qm 0), .ref (qm 1), .ref (qm 2), .ref (qm 3), .ref (qm 4), .ref (qm 5), .ref (qm 6), .ref (qm 7), .int Pp.1, .ref (qm 8), .ref (qm 9), .ref (qm 10), .ref (qm 11), .ref (qm 12), .ref (qm 13), .ref (qm 14), .int 5, .ref (qm 15), .long oc]) := by rw [eF54, va_up_ne _ _ (pl_ne hFo_52 hFqm15_52 rfl)]; exact hFo_52
                have hFqm0_55 : F54 (qm 0) = cI (cy 1) 10 Mm.1 := by rw [eF54, va_up_ne _ _ (pl_ne hFqm0_52 hFqm15_52 rfl)]; exact hFqm0_52
                have hFqm1_55 : F54 (qm 1) = cJ (cy 2) 10 Mm.2 := by rw [eF54, va_up_ne _ _ (pl_ne hFqm1_52 hFqm15_52 rfl)]; exact hFqm1_52
                have hFqm2_55 : F54 (qm 2) = cD (cy 0) 6 Dd.1 := by rw [eF54, va_up_ne _ _ (pl_ne hFqm2_52 hFqm15_52 rfl)]; exact hFqm2_52
                have hFqm3_55 : F54 (qm 3) = cD (cy 0) 6 Dd.2.1 := by rw [eF54, va_up_ne _ _ (pl_ne hFqm3_52 hFqm15_52 rfl)]; exact hFqm3_52
                have hFqm4_55 : F54 (qm 4) = cD (cy 0) 6 Dd.2.2.1 := by rw [eF54, va_up_ne _ _ (pl_ne hFqm4_52 hFqm15_52 rfl)]; exact hFqm4_52
                have hFqm5_55 : F54 (qm 5) = cJ (cy 2) 6 Dd.2.2.2 := by rw [eF54, va_up_ne _ _ (pl_ne hFqm5_52 hFqm15_52 rfl)]; exact hFqm5_52
                have hFqm6_55 : F54 (qm 6) = cI (cy 1) 8 Sl.1 := by rw [eF54, va_up_ne _ _ (pl_ne hFqm6_52 hFqm15_52 rfl)]; exact hFqm6_52
                have hFqm7_55 : F54 (qm 7) = cJ (cy 2) 128 Sl.2 := by rw [eF54, va_up_ne _ _ (pl_ne hFqm7_52 hFqm15_52 rfl)]; exact hFqm7_52
                have hFqm8_55 : F54 (qm 8) = cI (cy 1) 30 Pp.2.1 := by rw [eF54, va_up_ne _ _ (pl_ne hFqm8_52 hFqm15_52 rfl)]; exact hFqm8_52
                have hFqm9_55 : F54 (qm 9) = cI (cy 3) 30 Pp.2.2 := by rw [eF54, va_up_ne _ _ (pl_ne hFqm9_52 hFqm15_52 rfl)]; exact hFqm9_52
                have hFqm10_55 : F54 (qm 10) = cI (cy 1) 5 Kr.1 := by rw [eF54, va_up_ne _ _ (pl_ne hFqm10_52 hFqm15_52 rfl)]; exact hFqm10_52
                have hFqm11_55 : F54 (qm 11) = cI (cy 3) 5 Kr.2.1 := by rw [eF54, va_up_ne _ _ (pl_ne hFqm11_52 hFqm15_52 rfl)]; exact hFqm11_52
                have hFqm12_55 : F54 (qm 12) = cI (cy 1) 60 Kr.2.2 := by rw [eF54, va_up_ne _ _ (pl_ne hFqm12_52 hFqm15_52 rfl)]; exact hFqm12_52
                have hFqm13_55 : F54 (qm 13) = cI (cy 1) 4 Bk.1 := by rw [eF54, va_up_ne _ _ (pl_ne hFqm13_52 hFqm15_52 rfl)]; exact hFqm13_52
                have hFqm14_55 : F54 (qm 14) = cD (cy 0) 4 Bk.2 := by rw [eF54, va_up_ne _ _ (pl_ne hFqm14_52 hFqm15_52 rfl)]; exact hFqm14_52
                have hFqm15_55 : F54 (qm 15) = cI (cy 1) 6 (upd Xx.2 5 (Xx.2 5 + 1)) := by rw [eF54]; exact va_up_self _ _ _
                have hr55 := hqr55
                exact W.iret (v := r55) hx hb hr (fun t ht hW => ⟨⟨r55, F54, rfl, (by subst hr55 hr51 hr50 hr47 ev46 ev45 hr44 ev43 ev42 ev37; have hsp : sp_reckon Mm Xx 2 (nI j_x) (nI j_y) (nI j_into) = (-15, Mm, failX Xx 5) := (by unfold sp_reckon; rw [hi_x, hi_y, hi_into, ixk.2.2.1]; show rk Mm Xx 2 j_x j_y j_into = _; unfold rk; rw [if_neg (hmx.2 h1l).2, if_pos hmxl]; exact if_pos hnan0); rw [hsp]; exact ⟨rfl, (by exact ⟨⟨_, _, hmo, hFo_55⟩, ⟨hm0, hFqm0_55⟩, ⟨hm1, hFqm1_55⟩, ⟨hm2, hFqm2_55⟩, ⟨hm3, hFqm3_55⟩, ⟨hm4, hFqm4_55⟩, ⟨hm5, hFqm5_55⟩, ⟨hm6, hFqm6_55⟩, ⟨hm7, hFqm7_55⟩, ⟨hm8, hFqm8_55⟩, ⟨hm9, hFqm9_55⟩, ⟨hm10, hFqm10_55⟩, ⟨hm11, hFqm11_55⟩, ⟨hm12, hFqm12_55⟩, ⟨hm13, hFqm13_55⟩, ⟨hm14, hFqm14_55⟩, ⟨hm15, hFqm15_55⟩, hne⟩)⟩), (by show va_P _ _ _ t.heap; rw [ht]; exact hP)⟩, hS.F ht⟩) hS.2.2 dX9_reckon_234
              · have hnan : FP.Core.fIsNaN (rkF 2 (fl (tn (Mm.1 j_x) (Mm.2 j_x) 2)) (fl (tn (Mm.1 j_y) (Mm.2 j_y) 2))) = false := Bool.eq_false_iff.mpr hnan0
                refine lv_iload hx hb dX9_reckon_122 (lv_at hl 2 rfl) ?_
                refine lv_iconst (v := 2) hx hb dX9_reckon_124 (by decide) ?_
                refine lv_icmp_ge (tgt := 162) hx hb dX9_reckon_125 (by decide) (fun c56 => ?_) (fun c56 => absurd (by rw [hmxl]; decide) c56)
                refine lv_iload hx hb dX9_reckon_162 (lv_at hl 2 rfl) ?_
                refine lv_iconst (v := 2) hx hb dX9_reckon_164 (by decide) ?_
                refine lv_icmp_ne (tgt := 186) hx hb dX9_reckon_165 (by decide) (fun c57 => absurd (hmxl) c57) (fun c57 => ?_)
                refine lv_aload_n hx hb dX9_reckon_168 rfl (lv_at hl 3 rfl) ?_
                refine lv_iload_n hx hb dX9_reckon_169 rfl (lv_at hl 4 rfl) ?_
                refine lv_lload hx hb dX9_reckon_170 (lv_at hl 1 rfl) ?_
                refine vp_callSf (W.runS (As := [.long r44]) (rest := [.int 2, .ref o]) ⟨hx, hb, hml, hown, hts⟩ (c9_floatOf l r44 (by rw [hr44, ev42, ev43]; exact (by rw [hmxl]; exact tn2_ok (hVM j_x hj_x)))) (va_cwS 1 hts gX9_reckon_X9_floatOf rfl rfl rfl (by decide +kernel) ⟨Nat.le_of_ble_eq_true rfl, Nat.le_of_ble_eq_true rfl⟩) (preS_of okT (trivial)) rfl rfl hl.1 rfl (lv_room (Nat.le_of_ble_eq_true rfl)) dX9_reckon_172 ⟨Nat.le_of_ble_eq_true rfl, Nat.le_of_ble_eq_true rfl⟩) (fun r58 hr58 => ?_)
                refine lv_lload hx hb dX9_reckon_175 (lv_at hl 0 rfl) ?_
                refine vp_callSf (W.runS (As := [.long r47]) (rest := [.float r58, .int 2, .ref o]) ⟨hx, hb, hml, hown, hts⟩ (c9_floatOf l r47 (by rw [hr47, ev45, ev46]; exact (by rw [hmxl]; exact tn2_ok (hVM j_y hj_y)))) (va_cwS 1 hts gX9_reckon_X9_floatOf rfl rfl rfl (by decide +kernel) ⟨Nat.le_of_ble_eq_true rfl, Nat.le_of_ble_eq_true rfl⟩) (preS_of okT (trivial)) rfl rfl hl.1 rfl (lv_room (Nat.le_of_ble_eq_true rfl)) dX9_reckon_177 ⟨Nat.le_of_ble_eq_true rfl, Nat.le_of_ble_eq_true rfl⟩) (fun r59 hr59 => ?_)
                refine va_callv (va_runV (As := [.int 2, .float r58, .float r59]) (rest := []) ⟨hx, hb, hml, hown, hts⟩ (c9_rF_2 l G cy L F40 H.size o qm 0 Pp.1 0 oc hmo hFo_40 r58 r59 (by rw [hr58, hr44, ev42, ev43, hmxl]; exact tn2_ok (hVM j_x hj_x)) (by rw [hr59, hr47, ev45, ev46, hmxl]; exact tn2_ok (hVM j_y hj_y)) (by rw [hr58, hr44, ev42, ev43, hr59, hr47, ev45, ev46, hmxl]; exact hnan)) (cwV 3 hts gX9_reckon_X9_reckonFloats rfl rfl rfl (by decide +kernel) ⟨Nat.le_of_ble_eq_true rfl, Nat.le_of_ble_eq_true rfl⟩) (preV_of okQ (⟨rfl, hP, hK, hD.top⟩) (pl_recv hK hP (ci := 8) rfl hmo hFo_40)) rfl rfl hl.1 rfl (lv_room (Nat.le_of_ble_eq_true rfl)) dX9_reckon_180 ⟨Nat.le_of_ble_eq_true rfl, Nat.le_of_ble_eq_true rfl⟩) hS (fun q _ h => pl_free hD hS hA q h) (pl_free hD hS hA) (fun F60 t H1 locs ht hvm hw hP1 hz1 hk1 hS => ?_)
                have hP1 : va_P G vwCl (va_pl L F60) t.heap := hP1
                rw [ht] at hP1
                have hP := hP1
                generalize H1 = H at hP hS ⊢
                have eF60 : F60 = va_up F40 o (.inr (8, [.int 0, .ref (qm 0), .ref (qm 1), .ref (qm 2), .ref (qm 3), .ref (qm 4), .ref (qm 5), .ref (qm 6), .ref (qm 7), .int Pp.1, .ref (qm 8), .ref (qm 9), .ref (qm 10), .ref (qm 11), .ref (qm 12), .ref (qm 13), .ref (qm 14), .int 0, .ref (qm 15), .long ((FP.fmul r58 r59).toInt32.toInt64)])) := hw
                have hFo_60 : F60 o = .inr (8, [.int 0, .ref (qm 0), .ref (qm 1), .ref (qm 2), .ref (qm 3), .ref (qm 4), .ref (qm 5), .ref (qm 6), .ref (qm 7), .int Pp.1, .ref (qm 8), .ref (qm 9), .ref (qm 10), .ref (qm 11), .ref (qm 12), .ref (qm 13), .ref (qm 14), .int 0, .ref (qm 15), .long ((FP.fmul r58 r59).toInt32.toInt64)]) := by rw [eF60]; exact va_up_self _ _ _
                have hFqm0_60 : F60 (qm 0) = cI (cy 1) 10 Mm.1 := by rw [eF60, va_up_ne _ _ (pl_ne hFqm0_40 hFo_40 rfl)]; exact hFqm0_40
                have hFqm1_60 : F60 (qm 1) = cJ (cy 2) 10 Mm.2 := by rw [eF60, va_up_ne _ _ (pl_ne hFqm1_40 hFo_40 rfl)]; exact hFqm1_40
                have hFqm2_60 : F60 (qm 2) = cD (cy 0) 6 Dd.1 := by rw [eF60, va_up_ne _ _ (pl_ne hFqm2_40 hFo_40 rfl)]; exact hFqm2_40
                have hFqm3_60 : F60 (qm 3) = cD (cy 0) 6 Dd.2.1 := by rw [eF60, va_up_ne _ _ (pl_ne hFqm3_40 hFo_40 rfl)]; exact hFqm3_40
                have hFqm4_60 : F60 (qm 4) = cD (cy 0) 6 Dd.2.2.1 := by rw [eF60, va_up_ne _ _ (pl_ne hFqm4_40 hFo_40 rfl)]; exact hFqm4_40
                have hFqm5_60 : F60 (qm 5) = cJ (cy 2) 6 Dd.2.2.2 := by rw [eF60, va_up_ne _ _ (pl_ne hFqm5_40 hFo_40 rfl)]; exact hFqm5_40
                have hFqm6_60 : F60 (qm 6) = cI (cy 1) 8 Sl.1 := by rw [eF60, va_up_ne _ _ (pl_ne hFqm6_40 hFo_40 rfl)]; exact hFqm6_40
                have hFqm7_60 : F60 (qm 7) = cJ (cy 2) 128 Sl.2 := by rw [eF60, va_up_ne _ _ (pl_ne hFqm7_40 hFo_40 rfl)]; exact hFqm7_40
                have hFqm8_60 : F60 (qm 8) = cI (cy 1) 30 Pp.2.1 := by rw [eF60, va_up_ne _ _ (pl_ne hFqm8_40 hFo_40 rfl)]; exact hFqm8_40
                have hFqm9_60 : F60 (qm 9) = cI (cy 3) 30 Pp.2.2 := by rw [eF60, va_up_ne _ _ (pl_ne hFqm9_40 hFo_40 rfl)]; exact hFqm9_40
                have hFqm10_60 : F60 (qm 10) = cI (cy 1) 5 Kr.1 := by rw [eF60, va_up_ne _ _ (pl_ne hFqm10_40 hFo_40 rfl)]; exact hFqm10_40
                have hFqm11_60 : F60 (qm 11) = cI (cy 3) 5 Kr.2.1 := by rw [eF60, va_up_ne _ _ (pl_ne hFqm11_40 hFo_40 rfl)]; exact hFqm11_40
                have hFqm12_60 : F60 (qm 12) = cI (cy 1) 60 Kr.2.2 := by rw [eF60, va_up_ne _ _ (pl_ne hFqm12_40 hFo_40 rfl)]; exact hFqm12_40
                have hFqm13_60 : F60 (qm 13) = cI (cy 1) 4 Bk.1 := by rw [eF60, va_up_ne _ _ (pl_ne hFqm13_40 hFo_40 rfl)]; exact hFqm13_40
                have hFqm14_60 : F60 (qm 14) = cD (cy 0) 4 Bk.2 := by rw [eF60, va_up_ne _ _ (pl_ne hFqm14_40 hFo_40 rfl)]; exact hFqm14_40
                have hFqm15_60 : F60 (qm 15) = cI (cy 1) 6 Xx.2 := by rw [eF60, va_up_ne _ _ (pl_ne hFqm15_40 hFo_40 rfl)]; exact hFqm15_40
                refine lv_goto (tgt := 201) hx hb dX9_reckon_183 (by decide) ?_
                refine lv_aload_n hx hb dX9_reckon_201 rfl (lv_at hl 3 rfl) ?_
                refine pg_get (ci := 8) (C := RX9) (T := TX9) (N := 20) hx hb hts hinX9 hown hK hP hmo hFo_60 rfl 17 (by decide) (hts (.fieldLink RX9 65 "RopeDrumsModel" "failed" "I") (by decide +kernel)) (fun _ h9 => h9) rfl dX9_reckon_202 ?_
                refine lv_if_ne (tgt := 228) hx hb dX9_reckon_205 (by decide) (fun c61 => absurd (by decide) c61) (fun c61 => ?_)
                refine lv_aload_n hx hb dX9_reckon_208 rfl (lv_at hl 3 rfl) ?_
                refine pg_get (ci := 8) (C := RX9) (T := TX9) (N := 20) hx hb hts hinX9 hown hK hP hmo hFo_60 rfl 1 (by decide) (hts (.fieldLink RX9 7 "RopeDrumsModel" "laneOf" "[I") (by decide +kernel)) (fun _ h9 => h9) rfl dX9_reckon_209 ?_
                refine lv_iload hx hb dX9_reckon_212 (lv_at hl 7 rfl) ?_
                refine lv_iload hx hb dX9_reckon_214 (lv_at hl 2 rfl) ?_
                refine pg_iast hx hb hK hP hD hS 1 hm0 hFqm0_60 rfl (vp_in_nI (by omega) (by decide)) dX9_reckon_216 (fun H locs F62 eF62 hP hS => ?_)
                rw [nI_clamp (by omega)] at eF62
                have hFo_62 : F62 o = .inr (8, [.int 0, .ref (qm 0), .ref (qm 1), .ref (qm 2), .ref (qm 3), .ref (qm 4), .ref (qm 5), .ref (qm 6), .ref (qm 7), .int Pp.1, .ref (qm 8), .ref (qm 9), .ref (qm 10), .ref (qm 11), .ref (qm 12), .ref (qm 13), .ref (qm 14), .int 0, .ref (qm 15), .long ((FP.fmul r58 r59).toInt32.toInt64)]) := by rw [eF62, va_up_ne _ _ (pl_ne hFo_60 hFqm0_60 rfl)]; exact hFo_60
                have hFqm0_62 : F62 (qm 0) = cI (cy 1) 10 (upd Mm.1 j_into (mx (Mm.1 j_x) (Mm.1 j_y))) := by rw [eF62]; exact va_up_self _ _ _
                have hFqm1_62 : F62 (qm 1) = cJ (cy 2) 10 Mm.2 := by rw [eF62, va_up_ne _ _ (pl_ne hFqm1_60 hFqm0_60 rfl)]; exact hFqm1_60
                have hFqm2_62 : F62 (qm 2) = cD (cy 0) 6 Dd.1 := by rw [eF62, va_up_ne _ _ (pl_ne hFqm2_60 hFqm0_60 rfl)]; exact hFqm2_60
                have hFqm3_62 : F62 (qm 3) = cD (cy 0) 6 Dd.2.1 := by rw [eF62, va_up_ne _ _ (pl_ne hFqm3_60 hFqm0_60 rfl)]; exact hFqm3_60
                have hFqm4_62 : F62 (qm 4) = cD (cy 0) 6 Dd.2.2.1 := by rw [eF62, va_up_ne _ _ (pl_ne hFqm4_60 hFqm0_60 rfl)]; exact hFqm4_60
                have hFqm5_62 : F62 (qm 5) = cJ (cy 2) 6 Dd.2.2.2 := by rw [eF62, va_up_ne _ _ (pl_ne hFqm5_60 hFqm0_60 rfl)]; exact hFqm5_60
                have hFqm6_62 : F62 (qm 6) = cI (cy 1) 8 Sl.1 := by rw [eF62, va_up_ne _ _ (pl_ne hFqm6_60 hFqm0_60 rfl)]; exact hFqm6_60
                have hFqm7_62 : F62 (qm 7) = cJ (cy 2) 128 Sl.2 := by rw [eF62, va_up_ne _ _ (pl_ne hFqm7_60 hFqm0_60 rfl)]; exact hFqm7_60
                have hFqm8_62 : F62 (qm 8) = cI (cy 1) 30 Pp.2.1 := by rw [eF62, va_up_ne _ _ (pl_ne hFqm8_60 hFqm0_60 rfl)]; exact hFqm8_60
                have hFqm9_62 : F62 (qm 9) = cI (cy 3) 30 Pp.2.2 := by rw [eF62, va_up_ne _ _ (pl_ne hFqm9_60 hFqm0_60 rfl)]; exact hFqm9_60
                have hFqm10_62 : F62 (qm 10) = cI (cy 1) 5 Kr.1 := by rw [eF62, va_up_ne _ _ (pl_ne hFqm10_60 hFqm0_60 rfl)]; exact hFqm10_60
                have hFqm11_62 : F62 (qm 11) = cI (cy 3) 5 Kr.2.1 := by rw [eF62, va_up_ne _ _ (pl_ne hFqm11_60 hFqm0_60 rfl)]; exact hFqm11_60
                have hFqm12_62 : F62 (qm 12) = cI (cy 1) 60 Kr.2.2 := by rw [eF62, va_up_ne _ _ (pl_ne hFqm12_60 hFqm0_60 rfl)]; exact hFqm12_60
                have hFqm13_62 : F62 (qm 13) = cI (cy 1) 4 Bk.1 := by rw [eF62, va_up_ne _ _ (pl_ne hFqm13_60 hFqm0_60 rfl)]; exact hFqm13_60
                have hFqm14_62 : F62 (qm 14) = cD (cy 0) 4 Bk.2 := by rw [eF62, va_up_ne _ _ (pl_ne hFqm14_60 hFqm0_60 rfl)]; exact hFqm14_60
                have hFqm15_62 : F62 (qm 15) = cI (cy 1) 6 Xx.2 := by rw [eF62, va_up_ne _ _ (pl_ne hFqm15_60 hFqm0_60 rfl)]; exact hFqm15_60
                refine lv_aload_n hx hb dX9_reckon_217 rfl (lv_at hl 3 rfl) ?_
                refine pg_get (ci := 8) (C := RX9) (T := TX9) (N := 20) hx hb hts hinX9 hown hK hP hmo hFo_62 rfl 2 (by decide) (hts (.fieldLink RX9 13 "RopeDrumsModel" "held" "[J") (by decide +kernel)) (fun _ h9 => h9) rfl dX9_reckon_218 ?_
                refine lv_iload hx hb dX9_reckon_221 (lv_at hl 7 rfl) ?_
                refine lv_aload_n hx hb dX9_reckon_223 rfl (lv_at hl 3 rfl) ?_
                refine pg_get (ci := 8) (C := RX9) (T := TX9) (N := 20) hx hb hts hinX9 hown hK hP hmo hFo_62 rfl 19 (by decide) (hts (.fieldLink RX9 131 "RopeDrumsModel" "outcome" "J") (by decide +kernel)) (fun _ h9 => h9) rfl dX9_reckon_224 ?_
                refine pg_last hx hb hK hP hD hS 2 hm1 hFqm1_62 rfl (vp_in_nI (by omega) (by decide)) dX9_reckon_227 (fun H locs F63 eF63 hP hS => ?_)
                rw [nI_clamp (by omega)] at eF63
                have hFo_63 : F63 o = .inr (8, [.int 0, .ref (qm 0), .ref (qm 1), .ref (qm 2), .ref (qm 3), .ref (qm 4), .ref (qm 5), .ref (qm 6), .ref (qm 7), .int Pp.1, .ref (qm 8), .ref (qm 9), .ref (qm 10), .ref (qm 11), .ref (qm 12), .ref (qm 13), .ref (qm 14), .int 0, .ref (qm 15), .long ((FP.fmul r58 r59).toInt32.toInt64)]) := by rw [eF63, va_up_ne _ _ (pl_ne hFo_62 hFqm1_62 rfl)]; exact hFo_62
                have hFqm0_63 : F63 (qm 0) = cI (cy 1) 10 (upd Mm.1 j_into (mx (Mm.1 j_x) (Mm.1 j_y))) := by rw [eF63, va_up_ne _ _ (pl_ne hFqm0_62 hFqm1_62 rfl)]; exact hFqm0_62
                have hFqm1_63 : F63 (qm 1) = cJ (cy 2) 10 (vp_updL Mm.2 j_into ((FP.fmul r58 r59).toInt32.toInt64)) := by rw [eF63]; exact va_up_self _ _ _
                have hFqm2_63 : F63 (qm 2) = cD (cy 0) 6 Dd.1 := by rw [eF63, va_up_ne _ _ (pl_ne hFqm2_62 hFqm1_62 rfl)]; exact hFqm2_62
                have hFqm3_63 : F63 (qm 3) = cD (cy 0) 6 Dd.2.1 := by rw [eF63, va_up_ne _ _ (pl_ne hFqm3_62 hFqm1_62 rfl)]; exact hFqm3_62
                have hFqm4_63 : F63 (qm 4) = cD (cy 0) 6 Dd.2.2.1 := by rw [eF63, va_up_ne _ _ (pl_ne hFqm4_62 hFqm1_62 rfl)]; exact hFqm4_62
                have hFqm5_63 : F63 (qm 5) = cJ (cy 2) 6 Dd.2.2.2 := by rw [eF63, va_up_ne _ _ (pl_ne hFqm5_62 hFqm1_62 rfl)]; exact hFqm5_62
                have hFqm6_63 : F63 (qm 6) = cI (cy 1) 8 Sl.1 := by rw [eF63, va_up_ne _ _ (pl_ne hFqm6_62 hFqm1_62 rfl)]; exact hFqm6_62
                have hFqm7_63 : F63 (qm 7) = cJ (cy 2) 128 Sl.2 := by rw [eF63, va_up_ne _ _ (pl_ne hFqm7_62 hFqm1_62 rfl)]; exact hFqm7_62
                have hFqm8_63 : F63 (qm 8) = cI (cy 1) 30 Pp.2.1 := by rw [eF63, va_up_ne _ _ (pl_ne hFqm8_62 hFqm1_62 rfl)]; exact hFqm8_62
                have hFqm9_63 : F63 (qm 9) = cI (cy 3) 30 Pp.2.2 := by rw [eF63, va_up_ne _ _ (pl_ne hFqm9_62 hFqm1_62 rfl)]; exact hFqm9_62
                have hFqm10_63 : F63 (qm 10) = cI (cy 1) 5 Kr.1 := by rw [eF63, va_up_ne _ _ (pl_ne hFqm10_62 hFqm1_62 rfl)]; exact hFqm10_62
                have hFqm11_63 : F63 (qm 11) = cI (cy 3) 5 Kr.2.1 := by rw [eF63, va_up_ne _ _ (pl_ne hFqm11_62 hFqm1_62 rfl)]; exact hFqm11_62
                have hFqm12_63 : F63 (qm 12) = cI (cy 1) 60 Kr.2.2 := by rw [eF63, va_up_ne _ _ (pl_ne hFqm12_62 hFqm1_62 rfl)]; exact hFqm12_62
                have hFqm13_63 : F63 (qm 13) = cI (cy 1) 4 Bk.1 := by rw [eF63, va_up_ne _ _ (pl_ne hFqm13_62 hFqm1_62 rfl)]; exact hFqm13_62
                have hFqm14_63 : F63 (qm 14) = cD (cy 0) 4 Bk.2 := by rw [eF63, va_up_ne _ _ (pl_ne hFqm14_62 hFqm1_62 rfl)]; exact hFqm14_62
                have hFqm15_63 : F63 (qm 15) = cI (cy 1) 6 Xx.2 := by rw [eF63, va_up_ne _ _ (pl_ne hFqm15_62 hFqm1_62 rfl)]; exact hFqm15_62
                refine lv_aload_n hx hb dX9_reckon_228 rfl (lv_at hl 3 rfl) ?_
                refine lv_iload hx hb dX9_reckon_229 (lv_at hl 2 rfl) ?_
                refine va_calli (va_runV (As := [.int (mx (Mm.1 j_x) (Mm.1 j_y))]) (rest := []) ⟨hx, hb, hml, hown, hts⟩ (c9_answers_0 l G cy L F63 H.size o qm 0 Pp.1 ((FP.fmul r58 r59).toInt32.toInt64) hmo hFo_63 Xx.2 hm15 hFqm15_63 (mx (Mm.1 j_x) (Mm.1 j_y))) (cwV 1 hts gX9_reckon_X9_answers rfl rfl rfl (by decide +kernel) ⟨Nat.le_of_ble_eq_true rfl, Nat.le_of_ble_eq_true rfl⟩) (preV_of okQ (⟨rfl, hP, hK, hD.top⟩) (pl_recv hK hP (ci := 8) rfl hmo hFo_63)) rfl rfl hl.1 rfl (lv_room (Nat.le_of_ble_eq_true rfl)) dX9_reckon_231 ⟨Nat.le_of_ble_eq_true rfl, Nat.le_of_ble_eq_true rfl⟩) hS (fun q _ h => pl_free hD hS hA q h) (pl_free hD hS hA) (fun r65 F64 t H1 locs ht hvm hw hP1 hz1 hk1 hS => ?_)
                have hP1 : va_P G vwCl (va_pl L F64) t.heap := hP1
                rw [ht] at hP1
                have hP := hP1
                generalize H1 = H at hP hS ⊢
                obtain ⟨hqr65, eF64⟩ := hw
                have hFo_F64 : F64 o = .inr (8, [.int 0, .ref (qm 0), .ref (qm 1), .ref (qm 2), .ref (qm 3), .ref (qm 4), .ref (qm 5), .ref (qm 6), .ref (qm 7), .int Pp.1, .ref (qm 8), .ref (qm 9), .ref (qm 10), .ref (qm 11), .ref (qm 12), .ref (qm 13), .ref (qm 14), .int 0, .ref (qm 15), .long ((FP.fmul r58 r59).toInt32.toInt64)]) := by rw [eF64]; exact hFo_63
                have hFqm0_F64 : F64 (qm 0) = cI (cy 1) 10 (upd Mm.1 j_into (mx (Mm.1 j_x) (Mm.1 j_y))) := by rw [eF64]; exact hFqm0_63
                have hFqm1_F64 : F64 (qm 1) = cJ (cy 2) 10 (vp_updL Mm.2 j_into ((FP.fmul r58 r59).toInt32.toInt64)) := by rw [eF64]; exact hFqm1_63
                have hFqm2_F64 : F64 (qm 2) = cD (cy 0) 6 Dd.1 := by rw [eF64]; exact hFqm2_63
                have hFqm3_F64 : F64 (qm 3) = cD (cy 0) 6 Dd.2.1 := by rw [eF64]; exact hFqm3_63
                have hFqm4_F64 : F64 (qm 4) = cD (cy 0) 6 Dd.2.2.1 := by rw [eF64]; exact hFqm4_63
                have hFqm5_F64 : F64 (qm 5) = cJ (cy 2) 6 Dd.2.2.2 := by rw [eF64]; exact hFqm5_63
                have hFqm6_F64 : F64 (qm 6) = cI (cy 1) 8 Sl.1 := by rw [eF64]; exact hFqm6_63
                have hFqm7_F64 : F64 (qm 7) = cJ (cy 2) 128 Sl.2 := by rw [eF64]; exact hFqm7_63
                have hFqm8_F64 : F64 (qm 8) = cI (cy 1) 30 Pp.2.1 := by rw [eF64]; exact hFqm8_63
                have hFqm9_F64 : F64 (qm 9) = cI (cy 3) 30 Pp.2.2 := by rw [eF64]; exact hFqm9_63
                have hFqm10_F64 : F64 (qm 10) = cI (cy 1) 5 Kr.1 := by rw [eF64]; exact hFqm10_63
                have hFqm11_F64 : F64 (qm 11) = cI (cy 3) 5 Kr.2.1 := by rw [eF64]; exact hFqm11_63
                have hFqm12_F64 : F64 (qm 12) = cI (cy 1) 60 Kr.2.2 := by rw [eF64]; exact hFqm12_63
                have hFqm13_F64 : F64 (qm 13) = cI (cy 1) 4 Bk.1 := by rw [eF64]; exact hFqm13_63
                have hFqm14_F64 : F64 (qm 14) = cD (cy 0) 4 Bk.2 := by rw [eF64]; exact hFqm14_63
                have hFqm15_F64 : F64 (qm 15) = cI (cy 1) 6 Xx.2 := by rw [eF64]; exact hFqm15_63
                have hr65 := hqr65
                exact W.iret (v := r65) hx hb hr (fun t ht hW => ⟨⟨r65, F64, rfl, (by subst hr65 hr59 hr58 hr47 ev46 ev45 hr44 ev43 ev42 ev37; have hsp : sp_reckon Mm Xx 2 (nI j_x) (nI j_y) (nI j_into) = (2, setM Mm j_into 2 (rkF 2 (fl (tn (Mm.1 j_x) (Mm.2 j_x) 2)) (fl (tn (Mm.1 j_y) (Mm.2 j_y) 2))).toInt32.toInt64, goodX Xx) := (by unfold sp_reckon; rw [hi_x, hi_y, hi_into, ixk.2.2.1]; show rk Mm Xx 2 j_x j_y j_into = _; unfold rk; rw [if_neg (hmx.2 h1l).2, if_pos hmxl]; exact if_neg (by rw [hnan]; decide)); rw [hsp]; have hh := hFqm1_F64; have hh0 := hFqm0_F64; rw [hmxl] at hh hh0; exact ⟨hmxl, ⟨⟨_, _, hmo, hFo_F64⟩, ⟨hm0, hh0⟩, ⟨hm1, hh⟩, ⟨hm2, hFqm2_F64⟩, ⟨hm3, hFqm3_F64⟩, ⟨hm4, hFqm4_F64⟩, ⟨hm5, hFqm5_F64⟩, ⟨hm6, hFqm6_F64⟩, ⟨hm7, hFqm7_F64⟩, ⟨hm8, hFqm8_F64⟩, ⟨hm9, hFqm9_F64⟩, ⟨hm10, hFqm10_F64⟩, ⟨hm11, hFqm11_F64⟩, ⟨hm12, hFqm12_F64⟩, ⟨hm13, hFqm13_F64⟩, ⟨hm14, hFqm14_F64⟩, ⟨hm15, hFqm15_F64⟩, hne⟩⟩), (by show va_P _ _ _ t.heap; rw [ht]; exact hP)⟩, hS.F ht⟩) hS.2.2 dX9_reckon_234
            · by_cases hnan0 : FP.Core.dIsNaN (rkD 2 (db (tn (Mm.1 j_x) (Mm.2 j_x) 3)) (db (tn (Mm.1 j_y) (Mm.2 j_y) 3))) = true
              · refine lv_iload hx hb dX9_reckon_122 (lv_at hl 2 rfl) ?_
                refine lv_iconst (v := 2) hx hb dX9_reckon_124 (by decide) ?_
                refine lv_icmp_ge (tgt := 162) hx hb dX9_reckon_125 (by decide) (fun c66 => ?_) (fun c66 => absurd (by rw [hmxl]; decide) c66)
                refine lv_iload hx hb dX9_reckon_162 (lv_at hl 2 rfl) ?_
                refine lv_iconst (v := 2) hx hb dX9_reckon_164 (by decide) ?_
                refine lv_icmp_ne (tgt := 186) hx hb dX9_reckon_165 (by decide) (fun c67 => ?_) (fun c67 => absurd c67 (by rw [hmxl]; decide))
                refine lv_aload_n hx hb dX9_reckon_186 rfl (lv_at hl 3 rfl) ?_
                refine lv_iload_n hx hb dX9_reckon_187 rfl (lv_at hl 4 rfl) ?_
                refine lv_lload hx hb dX9_reckon_188 (lv_at hl 1 rfl) ?_
                refine vp_callSd (W.runS (As := [.long r44]) (rest := [.int 2, .ref o]) ⟨hx, hb, hml, hown, hts⟩ (c9_doubleOf l r44 (by rw [hr44, ev42, ev43]; exact (by rw [hmxl]; exact tn3_ok (hVM j_x hj_x)))) (va_cwS 1 hts gX9_reckon_X9_doubleOf rfl rfl rfl (by decide +kernel) ⟨Nat.le_of_ble_eq_true rfl, Nat.le_of_ble_eq_true rfl⟩) (preS_of okT (trivial)) rfl rfl hl.1 rfl (lv_room (Nat.le_of_ble_eq_true rfl)) dX9_reckon_190 ⟨Nat.le_of_ble_eq_true rfl, Nat.le_of_ble_eq_true rfl⟩) (fun r68 hr68 => ?_)
                refine lv_lload hx hb dX9_reckon_193 (lv_at hl 0 rfl) ?_
                refine vp_callSd (W.runS (As := [.long r47]) (rest := [.double r68, .int 2, .ref o]) ⟨hx, hb, hml, hown, hts⟩ (c9_doubleOf l r47 (by rw [hr47, ev45, ev46]; exact (by rw [hmxl]; exact tn3_ok (hVM j_y hj_y)))) (va_cwS 1 hts gX9_reckon_X9_doubleOf rfl rfl rfl (by decide +kernel) ⟨Nat.le_of_ble_eq_true rfl, Nat.le_of_ble_eq_true rfl⟩) (preS_of okT (trivial)) rfl rfl hl.1 rfl (lv_room (Nat.le_of_ble_eq_true rfl)) dX9_reckon_195 ⟨Nat.le_of_ble_eq_true rfl, Nat.le_of_ble_eq_true rfl⟩) (fun r69 hr69 => ?_)
                refine va_callv (va_runV (As := [.int 2, .double r68, .double r69]) (rest := []) ⟨hx, hb, hml, hown, hts⟩ (c9_rD_2_no l G cy L F40 H.size o qm 0 Pp.1 0 oc hmo hFo_40 r68 r69 (by rw [hr68, hr44, ev42, ev43, hmxl]; exact tn3_ok (hVM j_x hj_x)) (by rw [hr69, hr47, ev45, ev46, hmxl]; exact tn3_ok (hVM j_y hj_y)) (by rw [hr68, hr44, ev42, ev43, hr69, hr47, ev45, ev46, hmxl]; exact hnan0)) (cwV 3 hts gX9_reckon_X9_reckonDoubles rfl rfl rfl (by decide +kernel) ⟨Nat.le_of_ble_eq_true rfl, Nat.le_of_ble_eq_true rfl⟩) (preV_of okQ (⟨rfl, hP, hK, hD.top⟩) (pl_recv hK hP (ci := 8) rfl hmo hFo_40)) rfl rfl hl.1 rfl (lv_room (Nat.le_of_ble_eq_true rfl)) dX9_reckon_198 ⟨Nat.le_of_ble_eq_true rfl, Nat.le_of_ble_eq_true rfl⟩) hS (fun q _ h => pl_free hD hS hA q h) (pl_free hD hS hA) (fun F70 t H1 locs ht hvm hw hP1 hz1 hk1 hS => ?_)
                have hP1 : va_P G vwCl (va_pl L F70) t.heap := hP1
                rw [ht] at hP1
                have hP := hP1
                generalize H1 = H at hP hS ⊢
                have eF70 : F70 = va_up F40 o (.inr (8, [.int 0, .ref (qm 0), .ref (qm 1), .ref (qm 2), .ref (qm 3), .ref (qm 4), .ref (qm 5), .ref (qm 6), .ref (qm 7), .int Pp.1, .ref (qm 8), .ref (qm 9), .ref (qm 10), .ref (qm 11), .ref (qm 12), .ref (qm 13), .ref (qm 14), .int 5, .ref (qm 15), .long oc])) := hw
                have hFo_70 : F70 o = .inr (8, [.int 0, .ref (qm 0), .ref (qm 1), .ref (qm 2), .ref (qm 3), .ref (qm 4), .ref (qm 5), .ref (qm 6), .ref (qm 7), .int Pp.1, .ref (qm 8), .ref (qm 9), .ref (qm 10), .ref (qm 11), .ref (qm 12), .ref (qm 13), .ref (qm 14), .int 5, .ref (qm 15), .long oc]) := by rw [eF70]; exact va_up_self _ _ _
                have hFqm0_70 : F70 (qm 0) = cI (cy 1) 10 Mm.1 := by rw [eF70, va_up_ne _ _ (pl_ne hFqm0_40 hFo_40 rfl)]; exact hFqm0_40
                have hFqm1_70 : F70 (qm 1) = cJ (cy 2) 10 Mm.2 := by rw [eF70, va_up_ne _ _ (pl_ne hFqm1_40 hFo_40 rfl)]; exact hFqm1_40
                have hFqm2_70 : F70 (qm 2) = cD (cy 0) 6 Dd.1 := by rw [eF70, va_up_ne _ _ (pl_ne hFqm2_40 hFo_40 rfl)]; exact hFqm2_40
                have hFqm3_70 : F70 (qm 3) = cD (cy 0) 6 Dd.2.1 := by rw [eF70, va_up_ne _ _ (pl_ne hFqm3_40 hFo_40 rfl)]; exact hFqm3_40
                have hFqm4_70 : F70 (qm 4) = cD (cy 0) 6 Dd.2.2.1 := by rw [eF70, va_up_ne _ _ (pl_ne hFqm4_40 hFo_40 rfl)]; exact hFqm4_40
                have hFqm5_70 : F70 (qm 5) = cJ (cy 2) 6 Dd.2.2.2 := by rw [eF70, va_up_ne _ _ (pl_ne hFqm5_40 hFo_40 rfl)]; exact hFqm5_40
                have hFqm6_70 : F70 (qm 6) = cI (cy 1) 8 Sl.1 := by rw [eF70, va_up_ne _ _ (pl_ne hFqm6_40 hFo_40 rfl)]; exact hFqm6_40
                have hFqm7_70 : F70 (qm 7) = cJ (cy 2) 128 Sl.2 := by rw [eF70, va_up_ne _ _ (pl_ne hFqm7_40 hFo_40 rfl)]; exact hFqm7_40
                have hFqm8_70 : F70 (qm 8) = cI (cy 1) 30 Pp.2.1 := by rw [eF70, va_up_ne _ _ (pl_ne hFqm8_40 hFo_40 rfl)]; exact hFqm8_40
                have hFqm9_70 : F70 (qm 9) = cI (cy 3) 30 Pp.2.2 := by rw [eF70, va_up_ne _ _ (pl_ne hFqm9_40 hFo_40 rfl)]; exact hFqm9_40
                have hFqm10_70 : F70 (qm 10) = cI (cy 1) 5 Kr.1 := by rw [eF70, va_up_ne _ _ (pl_ne hFqm10_40 hFo_40 rfl)]; exact hFqm10_40
                have hFqm11_70 : F70 (qm 11) = cI (cy 3) 5 Kr.2.1 := by rw [eF70, va_up_ne _ _ (pl_ne hFqm11_40 hFo_40 rfl)]; exact hFqm11_40
                have hFqm12_70 : F70 (qm 12) = cI (cy 1) 60 Kr.2.2 := by rw [eF70, va_up_ne _ _ (pl_ne hFqm12_40 hFo_40 rfl)]; exact hFqm12_40
                have hFqm13_70 : F70 (qm 13) = cI (cy 1) 4 Bk.1 := by rw [eF70, va_up_ne _ _ (pl_ne hFqm13_40 hFo_40 rfl)]; exact hFqm13_40
                have hFqm14_70 : F70 (qm 14) = cD (cy 0) 4 Bk.2 := by rw [eF70, va_up_ne _ _ (pl_ne hFqm14_40 hFo_40 rfl)]; exact hFqm14_40
                have hFqm15_70 : F70 (qm 15) = cI (cy 1) 6 Xx.2 := by rw [eF70, va_up_ne _ _ (pl_ne hFqm15_40 hFo_40 rfl)]; exact hFqm15_40
                refine lv_aload_n hx hb dX9_reckon_201 rfl (lv_at hl 3 rfl) ?_
                refine pg_get (ci := 8) (C := RX9) (T := TX9) (N := 20) hx hb hts hinX9 hown hK hP hmo hFo_70 rfl 17 (by decide) (hts (.fieldLink RX9 65 "RopeDrumsModel" "failed" "I") (by decide +kernel)) (fun _ h9 => h9) rfl dX9_reckon_202 ?_
                refine lv_if_ne (tgt := 228) hx hb dX9_reckon_205 (by decide) (fun c71 => ?_) (fun c71 => absurd c71 (by decide))
                refine lv_aload_n hx hb dX9_reckon_228 rfl (lv_at hl 3 rfl) ?_
                refine lv_iload hx hb dX9_reckon_229 (lv_at hl 2 rfl) ?_
                refine va_calli (va_runV (As := [.int (mx (Mm.1 j_x) (Mm.1 j_y))]) (rest := []) ⟨hx, hb, hml, hown, hts⟩ (c9_answers_5 l G cy L F70 H.size o qm 0 Pp.1 oc hmo hFo_70 Xx.2 hm15 hFqm15_70 (mx (Mm.1 j_x) (Mm.1 j_y))) (cwV 1 hts gX9_reckon_X9_answers rfl rfl rfl (by decide +kernel) ⟨Nat.le_of_ble_eq_true rfl, Nat.le_of_ble_eq_true rfl⟩) (preV_of okQ (⟨rfl, hP, hK, hD.top⟩) (pl_recv hK hP (ci := 8) rfl hmo hFo_70)) rfl rfl hl.1 rfl (lv_room (Nat.le_of_ble_eq_true rfl)) dX9_reckon_231 ⟨Nat.le_of_ble_eq_true rfl, Nat.le_of_ble_eq_true rfl⟩) hS (fun q _ h => pl_free hD hS hA q h) (pl_free hD hS hA) (fun r73 F72 t H1 locs ht hvm hw hP1 hz1 hk1 hS => ?_)
                have hP1 : va_P G vwCl (va_pl L F72) t.heap := hP1
                rw [ht] at hP1
                have hP := hP1
                generalize H1 = H at hP hS ⊢
                obtain ⟨hqr73, eF72⟩ := hw
                have eF72 : F72 = va_up F70 (qm 15) (cI (cy 1) 6 (upd Xx.2 5 (Xx.2 5 + 1))) := eF72
                have hFo_73 : F72 o = .inr (8, [.int 0, .ref (qm 0), .ref (qm 1), .ref (qm 2), .ref (qm 3), .ref (qm 4), .ref (qm 5), .ref (qm 6), .ref (qm 7), .int Pp.1, .ref (qm 8), .ref (qm 9), .ref (qm 10), .ref (qm 11), .ref (qm 12), .ref (qm 13), .ref (qm 14), .int 5, .ref (qm 15), .long oc]) := by rw [eF72, va_up_ne _ _ (pl_ne hFo_70 hFqm15_70 rfl)]; exact hFo_70
                have hFqm0_73 : F72 (qm 0) = cI (cy 1) 10 Mm.1 := by rw [eF72, va_up_ne _ _ (pl_ne hFqm0_70 hFqm15_70 rfl)]; exact hFqm0_70
                have hFqm1_73 : F72 (qm 1) = cJ (cy 2) 10 Mm.2 := by rw [eF72, va_up_ne _ _ (pl_ne hFqm1_70 hFqm15_70 rfl)]; exact hFqm1_70
                have hFqm2_73 : F72 (qm 2) = cD (cy 0) 6 Dd.1 := by rw [eF72, va_up_ne _ _ (pl_ne hFqm2_70 hFqm15_70 rfl)]; exact hFqm2_70
                have hFqm3_73 : F72 (qm 3) = cD (cy 0) 6 Dd.2.1 := by rw [eF72, va_up_ne _ _ (pl_ne hFqm3_70 hFqm15_70 rfl)]; exact hFqm3_70
                have hFqm4_73 : F72 (qm 4) = cD (cy 0) 6 Dd.2.2.1 := by rw [eF72, va_up_ne _ _ (pl_ne hFqm4_70 hFqm15_70 rfl)]; exact hFqm4_70
                have hFqm5_73 : F72 (qm 5) = cJ (cy 2) 6 Dd.2.2.2 := by rw [eF72, va_up_ne _ _ (pl_ne hFqm5_70 hFqm15_70 rfl)]; exact hFqm5_70
                have hFqm6_73 : F72 (qm 6) = cI (cy 1) 8 Sl.1 := by rw [eF72, va_up_ne _ _ (pl_ne hFqm6_70 hFqm15_70 rfl)]; exact hFqm6_70
                have hFqm7_73 : F72 (qm 7) = cJ (cy 2) 128 Sl.2 := by rw [eF72, va_up_ne _ _ (pl_ne hFqm7_70 hFqm15_70 rfl)]; exact hFqm7_70
                have hFqm8_73 : F72 (qm 8) = cI (cy 1) 30 Pp.2.1 := by rw [eF72, va_up_ne _ _ (pl_ne hFqm8_70 hFqm15_70 rfl)]; exact hFqm8_70
                have hFqm9_73 : F72 (qm 9) = cI (cy 3) 30 Pp.2.2 := by rw [eF72, va_up_ne _ _ (pl_ne hFqm9_70 hFqm15_70 rfl)]; exact hFqm9_70
                have hFqm10_73 : F72 (qm 10) = cI (cy 1) 5 Kr.1 := by rw [eF72, va_up_ne _ _ (pl_ne hFqm10_70 hFqm15_70 rfl)]; exact hFqm10_70
                have hFqm11_73 : F72 (qm 11) = cI (cy 3) 5 Kr.2.1 := by rw [eF72, va_up_ne _ _ (pl_ne hFqm11_70 hFqm15_70 rfl)]; exact hFqm11_70
                have hFqm12_73 : F72 (qm 12) = cI (cy 1) 60 Kr.2.2 := by rw [eF72, va_up_ne _ _ (pl_ne hFqm12_70 hFqm15_70 rfl)]; exact hFqm12_70
                have hFqm13_73 : F72 (qm 13) = cI (cy 1) 4 Bk.1 := by rw [eF72, va_up_ne _ _ (pl_ne hFqm13_70 hFqm15_70 rfl)]; exact hFqm13_70
                have hFqm14_73 : F72 (qm 14) = cD (cy 0) 4 Bk.2 := by rw [eF72, va_up_ne _ _ (pl_ne hFqm14_70 hFqm15_70 rfl)]; exact hFqm14_70
                have hFqm15_73 : F72 (qm 15) = cI (cy 1) 6 (upd Xx.2 5 (Xx.2 5 + 1)) := by rw [eF72]; exact va_up_self _ _ _
                have hr73 := hqr73
                exact W.iret (v := r73) hx hb hr (fun t ht hW => ⟨⟨r73, F72, rfl, (by subst hr73 hr69 hr68 hr47 ev46 ev45 hr44 ev43 ev42 ev37; have hsp : sp_reckon Mm Xx 2 (nI j_x) (nI j_y) (nI j_into) = (-15, Mm, failX Xx 5) := (by unfold sp_reckon; rw [hi_x, hi_y, hi_into, ixk.2.2.1]; show rk Mm Xx 2 j_x j_y j_into = _; unfold rk; rw [if_neg (hmx.2 h1l).2, if_neg (by rw [hmxl]; decide)]; exact if_pos hnan0); rw [hsp]; exact ⟨rfl, (by exact ⟨⟨_, _, hmo, hFo_73⟩, ⟨hm0, hFqm0_73⟩, ⟨hm1, hFqm1_73⟩, ⟨hm2, hFqm2_73⟩, ⟨hm3, hFqm3_73⟩, ⟨hm4, hFqm4_73⟩, ⟨hm5, hFqm5_73⟩, ⟨hm6, hFqm6_73⟩, ⟨hm7, hFqm7_73⟩, ⟨hm8, hFqm8_73⟩, ⟨hm9, hFqm9_73⟩, ⟨hm10, hFqm10_73⟩, ⟨hm11, hFqm11_73⟩, ⟨hm12, hFqm12_73⟩, ⟨hm13, hFqm13_73⟩, ⟨hm14, hFqm14_73⟩, ⟨hm15, hFqm15_73⟩, hne⟩)⟩), (by show va_P _ _ _ t.heap; rw [ht]; exact hP)⟩, hS.F ht⟩) hS.2.2 dX9_reckon_234
              · have hnan : FP.Core.dIsNaN (rkD 2 (db (tn (Mm.1 j_x) (Mm.2 j_x) 3)) (db (tn (Mm.1 j_y) (Mm.2 j_y) 3))) = false := Bool.eq_false_iff.mpr hnan0
                refine lv_iload hx hb dX9_reckon_122 (lv_at hl 2 rfl) ?_
                refine lv_iconst (v := 2) hx hb dX9_reckon_124 (by decide) ?_
                refine lv_icmp_ge (tgt := 162) hx hb dX9_reckon_125 (by decide) (fun c74 => ?_) (fun c74 => absurd (by rw [hmxl]; decide) c74)
                refine lv_iload hx hb dX9_reckon_162 (lv_at hl 2 rfl) ?_
                refine lv_iconst (v := 2) hx hb dX9_reckon_164 (by decide) ?_
                refine lv_icmp_ne (tgt := 186) hx hb dX9_reckon_165 (by decide) (fun c75 => ?_) (fun c75 => absurd c75 (by rw [hmxl]; decide))
                refine lv_aload_n hx hb dX9_reckon_186 rfl (lv_at hl 3 rfl) ?_
                refine lv_iload_n hx hb dX9_reckon_187 rfl (lv_at hl 4 rfl) ?_
                refine lv_lload hx hb dX9_reckon_188 (lv_at hl 1 rfl) ?_
                refine vp_callSd (W.runS (As := [.long r44]) (rest := [.int 2, .ref o]) ⟨hx, hb, hml, hown, hts⟩ (c9_doubleOf l r44 (by rw [hr44, ev42, ev43]; exact (by rw [hmxl]; exact tn3_ok (hVM j_x hj_x)))) (va_cwS 1 hts gX9_reckon_X9_doubleOf rfl rfl rfl (by decide +kernel) ⟨Nat.le_of_ble_eq_true rfl, Nat.le_of_ble_eq_true rfl⟩) (preS_of okT (trivial)) rfl rfl hl.1 rfl (lv_room (Nat.le_of_ble_eq_true rfl)) dX9_reckon_190 ⟨Nat.le_of_ble_eq_true rfl, Nat.le_of_ble_eq_true rfl⟩) (fun r76 hr76 => ?_)
                refine lv_lload hx hb dX9_reckon_193 (lv_at hl 0 rfl) ?_
                refine vp_callSd (W.runS (As := [.long r47]) (rest := [.double r76, .int 2, .ref o]) ⟨hx, hb, hml, hown, hts⟩ (c9_doubleOf l r47 (by rw [hr47, ev45, ev46]; exact (by rw [hmxl]; exact tn3_ok (hVM j_y hj_y)))) (va_cwS 1 hts gX9_reckon_X9_doubleOf rfl rfl rfl (by decide +kernel) ⟨Nat.le_of_ble_eq_true rfl, Nat.le_of_ble_eq_true rfl⟩) (preS_of okT (trivial)) rfl rfl hl.1 rfl (lv_room (Nat.le_of_ble_eq_true rfl)) dX9_reckon_195 ⟨Nat.le_of_ble_eq_true rfl, Nat.le_of_ble_eq_true rfl⟩) (fun r77 hr77 => ?_)
                refine va_callv (va_runV (As := [.int 2, .double r76, .double r77]) (rest := []) ⟨hx, hb, hml, hown, hts⟩ (c9_rD_2 l G cy L F40 H.size o qm 0 Pp.1 0 oc hmo hFo_40 r76 r77 (by rw [hr76, hr44, ev42, ev43, hmxl]; exact tn3_ok (hVM j_x hj_x)) (by rw [hr77, hr47, ev45, ev46, hmxl]; exact tn3_ok (hVM j_y hj_y)) (by rw [hr76, hr44, ev42, ev43, hr77, hr47, ev45, ev46, hmxl]; exact hnan)) (cwV 3 hts gX9_reckon_X9_reckonDoubles rfl rfl rfl (by decide +kernel) ⟨Nat.le_of_ble_eq_true rfl, Nat.le_of_ble_eq_true rfl⟩) (preV_of okQ (⟨rfl, hP, hK, hD.top⟩) (pl_recv hK hP (ci := 8) rfl hmo hFo_40)) rfl rfl hl.1 rfl (lv_room (Nat.le_of_ble_eq_true rfl)) dX9_reckon_198 ⟨Nat.le_of_ble_eq_true rfl, Nat.le_of_ble_eq_true rfl⟩) hS (fun q _ h => pl_free hD hS hA q h) (pl_free hD hS hA) (fun F78 t H1 locs ht hvm hw hP1 hz1 hk1 hS => ?_)
                have hP1 : va_P G vwCl (va_pl L F78) t.heap := hP1
                rw [ht] at hP1
                have hP := hP1
                generalize H1 = H at hP hS ⊢
                have eF78 : F78 = va_up F40 o (.inr (8, [.int 0, .ref (qm 0), .ref (qm 1), .ref (qm 2), .ref (qm 3), .ref (qm 4), .ref (qm 5), .ref (qm 6), .ref (qm 7), .int Pp.1, .ref (qm 8), .ref (qm 9), .ref (qm 10), .ref (qm 11), .ref (qm 12), .ref (qm 13), .ref (qm 14), .int 0, .ref (qm 15), .long ((FP.dmul r76 r77).toInt64)])) := hw
                have hFo_78 : F78 o = .inr (8, [.int 0, .ref (qm 0), .ref (qm 1), .ref (qm 2), .ref (qm 3), .ref (qm 4), .ref (qm 5), .ref (qm 6), .ref (qm 7), .int Pp.1, .ref (qm 8), .ref (qm 9), .ref (qm 10), .ref (qm 11), .ref (qm 12), .ref (qm 13), .ref (qm 14), .int 0, .ref (qm 15), .long ((FP.dmul r76 r77).toInt64)]) := by rw [eF78]; exact va_up_self _ _ _
                have hFqm0_78 : F78 (qm 0) = cI (cy 1) 10 Mm.1 := by rw [eF78, va_up_ne _ _ (pl_ne hFqm0_40 hFo_40 rfl)]; exact hFqm0_40
                have hFqm1_78 : F78 (qm 1) = cJ (cy 2) 10 Mm.2 := by rw [eF78, va_up_ne _ _ (pl_ne hFqm1_40 hFo_40 rfl)]; exact hFqm1_40
                have hFqm2_78 : F78 (qm 2) = cD (cy 0) 6 Dd.1 := by rw [eF78, va_up_ne _ _ (pl_ne hFqm2_40 hFo_40 rfl)]; exact hFqm2_40
                have hFqm3_78 : F78 (qm 3) = cD (cy 0) 6 Dd.2.1 := by rw [eF78, va_up_ne _ _ (pl_ne hFqm3_40 hFo_40 rfl)]; exact hFqm3_40
                have hFqm4_78 : F78 (qm 4) = cD (cy 0) 6 Dd.2.2.1 := by rw [eF78, va_up_ne _ _ (pl_ne hFqm4_40 hFo_40 rfl)]; exact hFqm4_40
                have hFqm5_78 : F78 (qm 5) = cJ (cy 2) 6 Dd.2.2.2 := by rw [eF78, va_up_ne _ _ (pl_ne hFqm5_40 hFo_40 rfl)]; exact hFqm5_40
                have hFqm6_78 : F78 (qm 6) = cI (cy 1) 8 Sl.1 := by rw [eF78, va_up_ne _ _ (pl_ne hFqm6_40 hFo_40 rfl)]; exact hFqm6_40
                have hFqm7_78 : F78 (qm 7) = cJ (cy 2) 128 Sl.2 := by rw [eF78, va_up_ne _ _ (pl_ne hFqm7_40 hFo_40 rfl)]; exact hFqm7_40
                have hFqm8_78 : F78 (qm 8) = cI (cy 1) 30 Pp.2.1 := by rw [eF78, va_up_ne _ _ (pl_ne hFqm8_40 hFo_40 rfl)]; exact hFqm8_40
                have hFqm9_78 : F78 (qm 9) = cI (cy 3) 30 Pp.2.2 := by rw [eF78, va_up_ne _ _ (pl_ne hFqm9_40 hFo_40 rfl)]; exact hFqm9_40
                have hFqm10_78 : F78 (qm 10) = cI (cy 1) 5 Kr.1 := by rw [eF78, va_up_ne _ _ (pl_ne hFqm10_40 hFo_40 rfl)]; exact hFqm10_40
                have hFqm11_78 : F78 (qm 11) = cI (cy 3) 5 Kr.2.1 := by rw [eF78, va_up_ne _ _ (pl_ne hFqm11_40 hFo_40 rfl)]; exact hFqm11_40
                have hFqm12_78 : F78 (qm 12) = cI (cy 1) 60 Kr.2.2 := by rw [eF78, va_up_ne _ _ (pl_ne hFqm12_40 hFo_40 rfl)]; exact hFqm12_40
                have hFqm13_78 : F78 (qm 13) = cI (cy 1) 4 Bk.1 := by rw [eF78, va_up_ne _ _ (pl_ne hFqm13_40 hFo_40 rfl)]; exact hFqm13_40
                have hFqm14_78 : F78 (qm 14) = cD (cy 0) 4 Bk.2 := by rw [eF78, va_up_ne _ _ (pl_ne hFqm14_40 hFo_40 rfl)]; exact hFqm14_40
                have hFqm15_78 : F78 (qm 15) = cI (cy 1) 6 Xx.2 := by rw [eF78, va_up_ne _ _ (pl_ne hFqm15_40 hFo_40 rfl)]; exact hFqm15_40
                refine lv_aload_n hx hb dX9_reckon_201 rfl (lv_at hl 3 rfl) ?_
                refine pg_get (ci := 8) (C := RX9) (T := TX9) (N := 20) hx hb hts hinX9 hown hK hP hmo hFo_78 rfl 17 (by decide) (hts (.fieldLink RX9 65 "RopeDrumsModel" "failed" "I") (by decide +kernel)) (fun _ h9 => h9) rfl dX9_reckon_202 ?_
                refine lv_if_ne (tgt := 228) hx hb dX9_reckon_205 (by decide) (fun c79 => absurd (by decide) c79) (fun c79 => ?_)
                refine lv_aload_n hx hb dX9_reckon_208 rfl (lv_at hl 3 rfl) ?_
                refine pg_get (ci := 8) (C := RX9) (T := TX9) (N := 20) hx hb hts hinX9 hown hK hP hmo hFo_78 rfl 1 (by decide) (hts (.fieldLink RX9 7 "RopeDrumsModel" "laneOf" "[I") (by decide +kernel)) (fun _ h9 => h9) rfl dX9_reckon_209 ?_
                refine lv_iload hx hb dX9_reckon_212 (lv_at hl 7 rfl) ?_
                refine lv_iload hx hb dX9_reckon_214 (lv_at hl 2 rfl) ?_
                refine pg_iast hx hb hK hP hD hS 1 hm0 hFqm0_78 rfl (vp_in_nI (by omega) (by decide)) dX9_reckon_216 (fun H locs F80 eF80 hP hS => ?_)
                rw [nI_clamp (by omega)] at eF80
                have hFo_80 : F80 o = .inr (8, [.int 0, .ref (qm 0), .ref (qm 1), .ref (qm 2), .ref (qm 3), .ref (qm 4), .ref (qm 5), .ref (qm 6), .ref (qm 7), .int Pp.1, .ref (qm 8), .ref (qm 9), .ref (qm 10), .ref (qm 11), .ref (qm 12), .ref (qm 13), .ref (qm 14), .int 0, .ref (qm 15), .long ((FP.dmul r76 r77).toInt64)]) := by rw [eF80, va_up_ne _ _ (pl_ne hFo_78 hFqm0_78 rfl)]; exact hFo_78
                have hFqm0_80 : F80 (qm 0) = cI (cy 1) 10 (upd Mm.1 j_into (mx (Mm.1 j_x) (Mm.1 j_y))) := by rw [eF80]; exact va_up_self _ _ _
                have hFqm1_80 : F80 (qm 1) = cJ (cy 2) 10 Mm.2 := by rw [eF80, va_up_ne _ _ (pl_ne hFqm1_78 hFqm0_78 rfl)]; exact hFqm1_78
                have hFqm2_80 : F80 (qm 2) = cD (cy 0) 6 Dd.1 := by rw [eF80, va_up_ne _ _ (pl_ne hFqm2_78 hFqm0_78 rfl)]; exact hFqm2_78
                have hFqm3_80 : F80 (qm 3) = cD (cy 0) 6 Dd.2.1 := by rw [eF80, va_up_ne _ _ (pl_ne hFqm3_78 hFqm0_78 rfl)]; exact hFqm3_78
                have hFqm4_80 : F80 (qm 4) = cD (cy 0) 6 Dd.2.2.1 := by rw [eF80, va_up_ne _ _ (pl_ne hFqm4_78 hFqm0_78 rfl)]; exact hFqm4_78
                have hFqm5_80 : F80 (qm 5) = cJ (cy 2) 6 Dd.2.2.2 := by rw [eF80, va_up_ne _ _ (pl_ne hFqm5_78 hFqm0_78 rfl)]; exact hFqm5_78
                have hFqm6_80 : F80 (qm 6) = cI (cy 1) 8 Sl.1 := by rw [eF80, va_up_ne _ _ (pl_ne hFqm6_78 hFqm0_78 rfl)]; exact hFqm6_78
                have hFqm7_80 : F80 (qm 7) = cJ (cy 2) 128 Sl.2 := by rw [eF80, va_up_ne _ _ (pl_ne hFqm7_78 hFqm0_78 rfl)]; exact hFqm7_78
                have hFqm8_80 : F80 (qm 8) = cI (cy 1) 30 Pp.2.1 := by rw [eF80, va_up_ne _ _ (pl_ne hFqm8_78 hFqm0_78 rfl)]; exact hFqm8_78
                have hFqm9_80 : F80 (qm 9) = cI (cy 3) 30 Pp.2.2 := by rw [eF80, va_up_ne _ _ (pl_ne hFqm9_78 hFqm0_78 rfl)]; exact hFqm9_78
                have hFqm10_80 : F80 (qm 10) = cI (cy 1) 5 Kr.1 := by rw [eF80, va_up_ne _ _ (pl_ne hFqm10_78 hFqm0_78 rfl)]; exact hFqm10_78
                have hFqm11_80 : F80 (qm 11) = cI (cy 3) 5 Kr.2.1 := by rw [eF80, va_up_ne _ _ (pl_ne hFqm11_78 hFqm0_78 rfl)]; exact hFqm11_78
                have hFqm12_80 : F80 (qm 12) = cI (cy 1) 60 Kr.2.2 := by rw [eF80, va_up_ne _ _ (pl_ne hFqm12_78 hFqm0_78 rfl)]; exact hFqm12_78
                have hFqm13_80 : F80 (qm 13) = cI (cy 1) 4 Bk.1 := by rw [eF80, va_up_ne _ _ (pl_ne hFqm13_78 hFqm0_78 rfl)]; exact hFqm13_78
                have hFqm14_80 : F80 (qm 14) = cD (cy 0) 4 Bk.2 := by rw [eF80, va_up_ne _ _ (pl_ne hFqm14_78 hFqm0_78 rfl)]; exact hFqm14_78
                have hFqm15_80 : F80 (qm 15) = cI (cy 1) 6 Xx.2 := by rw [eF80, va_up_ne _ _ (pl_ne hFqm15_78 hFqm0_78 rfl)]; exact hFqm15_78
                refine lv_aload_n hx hb dX9_reckon_217 rfl (lv_at hl 3 rfl) ?_
                refine pg_get (ci := 8) (C := RX9) (T := TX9) (N := 20) hx hb hts hinX9 hown hK hP hmo hFo_80 rfl 2 (by decide) (hts (.fieldLink RX9 13 "RopeDrumsModel" "held" "[J") (by decide +kernel)) (fun _ h9 => h9) rfl dX9_reckon_218 ?_
                refine lv_iload hx hb dX9_reckon_221 (lv_at hl 7 rfl) ?_
                refine lv_aload_n hx hb dX9_reckon_223 rfl (lv_at hl 3 rfl) ?_
                refine pg_get (ci := 8) (C := RX9) (T := TX9) (N := 20) hx hb hts hinX9 hown hK hP hmo hFo_80 rfl 19 (by decide) (hts (.fieldLink RX9 131 "RopeDrumsModel" "outcome" "J") (by decide +kernel)) (fun _ h9 => h9) rfl dX9_reckon_224 ?_
                refine pg_last hx hb hK hP hD hS 2 hm1 hFqm1_80 rfl (vp_in_nI (by omega) (by decide)) dX9_reckon_227 (fun H locs F81 eF81 hP hS => ?_)
                rw [nI_clamp (by omega)] at eF81
                have hFo_81 : F81 o = .inr (8, [.int 0, .ref (qm 0), .ref (qm 1), .ref (qm 2), .ref (qm 3), .ref (qm 4), .ref (qm 5), .ref (qm 6), .ref (qm 7), .int Pp.1, .ref (qm 8), .ref (qm 9), .ref (qm 10), .ref (qm 11), .ref (qm 12), .ref (qm 13), .ref (qm 14), .int 0, .ref (qm 15), .long ((FP.dmul r76 r77).toInt64)]) := by rw [eF81, va_up_ne _ _ (pl_ne hFo_80 hFqm1_80 rfl)]; exact hFo_80
                have hFqm0_81 : F81 (qm 0) = cI (cy 1) 10 (upd Mm.1 j_into (mx (Mm.1 j_x) (Mm.1 j_y))) := by rw [eF81, va_up_ne _ _ (pl_ne hFqm0_80 hFqm1_80 rfl)]; exact hFqm0_80
                have hFqm1_81 : F81 (qm 1) = cJ (cy 2) 10 (vp_updL Mm.2 j_into ((FP.dmul r76 r77).toInt64)) := by rw [eF81]; exact va_up_self _ _ _
                have hFqm2_81 : F81 (qm 2) = cD (cy 0) 6 Dd.1 := by rw [eF81, va_up_ne _ _ (pl_ne hFqm2_80 hFqm1_80 rfl)]; exact hFqm2_80
                have hFqm3_81 : F81 (qm 3) = cD (cy 0) 6 Dd.2.1 := by rw [eF81, va_up_ne _ _ (pl_ne hFqm3_80 hFqm1_80 rfl)]; exact hFqm3_80
                have hFqm4_81 : F81 (qm 4) = cD (cy 0) 6 Dd.2.2.1 := by rw [eF81, va_up_ne _ _ (pl_ne hFqm4_80 hFqm1_80 rfl)]; exact hFqm4_80
                have hFqm5_81 : F81 (qm 5) = cJ (cy 2) 6 Dd.2.2.2 := by rw [eF81, va_up_ne _ _ (pl_ne hFqm5_80 hFqm1_80 rfl)]; exact hFqm5_80
                have hFqm6_81 : F81 (qm 6) = cI (cy 1) 8 Sl.1 := by rw [eF81, va_up_ne _ _ (pl_ne hFqm6_80 hFqm1_80 rfl)]; exact hFqm6_80
                have hFqm7_81 : F81 (qm 7) = cJ (cy 2) 128 Sl.2 := by rw [eF81, va_up_ne _ _ (pl_ne hFqm7_80 hFqm1_80 rfl)]; exact hFqm7_80
                have hFqm8_81 : F81 (qm 8) = cI (cy 1) 30 Pp.2.1 := by rw [eF81, va_up_ne _ _ (pl_ne hFqm8_80 hFqm1_80 rfl)]; exact hFqm8_80
                have hFqm9_81 : F81 (qm 9) = cI (cy 3) 30 Pp.2.2 := by rw [eF81, va_up_ne _ _ (pl_ne hFqm9_80 hFqm1_80 rfl)]; exact hFqm9_80
                have hFqm10_81 : F81 (qm 10) = cI (cy 1) 5 Kr.1 := by rw [eF81, va_up_ne _ _ (pl_ne hFqm10_80 hFqm1_80 rfl)]; exact hFqm10_80
                have hFqm11_81 : F81 (qm 11) = cI (cy 3) 5 Kr.2.1 := by rw [eF81, va_up_ne _ _ (pl_ne hFqm11_80 hFqm1_80 rfl)]; exact hFqm11_80
                have hFqm12_81 : F81 (qm 12) = cI (cy 1) 60 Kr.2.2 := by rw [eF81, va_up_ne _ _ (pl_ne hFqm12_80 hFqm1_80 rfl)]; exact hFqm12_80
                have hFqm13_81 : F81 (qm 13) = cI (cy 1) 4 Bk.1 := by rw [eF81, va_up_ne _ _ (pl_ne hFqm13_80 hFqm1_80 rfl)]; exact hFqm13_80
                have hFqm14_81 : F81 (qm 14) = cD (cy 0) 4 Bk.2 := by rw [eF81, va_up_ne _ _ (pl_ne hFqm14_80 hFqm1_80 rfl)]; exact hFqm14_80
                have hFqm15_81 : F81 (qm 15) = cI (cy 1) 6 Xx.2 := by rw [eF81, va_up_ne _ _ (pl_ne hFqm15_80 hFqm1_80 rfl)]; exact hFqm15_80
                refine lv_aload_n hx hb dX9_reckon_228 rfl (lv_at hl 3 rfl) ?_
                refine lv_iload hx hb dX9_reckon_229 (lv_at hl 2 rfl) ?_
                refine va_calli (va_runV (As := [.int (mx (Mm.1 j_x) (Mm.1 j_y))]) (rest := []) ⟨hx, hb, hml, hown, hts⟩ (c9_answers_0 l G cy L F81 H.size o qm 0 Pp.1 ((FP.dmul r76 r77).toInt64) hmo hFo_81 Xx.2 hm15 hFqm15_81 (mx (Mm.1 j_x) (Mm.1 j_y))) (cwV 1 hts gX9_reckon_X9_answers rfl rfl rfl (by decide +kernel) ⟨Nat.le_of_ble_eq_true rfl, Nat.le_of_ble_eq_true rfl⟩) (preV_of okQ (⟨rfl, hP, hK, hD.top⟩) (pl_recv hK hP (ci := 8) rfl hmo hFo_81)) rfl rfl hl.1 rfl (lv_room (Nat.le_of_ble_eq_true rfl)) dX9_reckon_231 ⟨Nat.le_of_ble_eq_true rfl, Nat.le_of_ble_eq_true rfl⟩) hS (fun q _ h => pl_free hD hS hA q h) (pl_free hD hS hA) (fun r83 F82 t H1 locs ht hvm hw hP1 hz1 hk1 hS => ?_)
                have hP1 : va_P G vwCl (va_pl L F82) t.heap := hP1
                rw [ht] at hP1
                have hP := hP1
                generalize H1 = H at hP hS ⊢
                obtain ⟨hqr83, eF82⟩ := hw
                have hFo_F82 : F82 o = .inr (8, [.int 0, .ref (qm 0), .ref (qm 1), .ref (qm 2), .ref (qm 3), .ref (qm 4), .ref (qm 5), .ref (qm 6), .ref (qm 7), .int Pp.1, .ref (qm 8), .ref (qm 9), .ref (qm 10), .ref (qm 11), .ref (qm 12), .ref (qm 13), .ref (qm 14), .int 0, .ref (qm 15), .long ((FP.dmul r76 r77).toInt64)]) := by rw [eF82]; exact hFo_81
                have hFqm0_F82 : F82 (qm 0) = cI (cy 1) 10 (upd Mm.1 j_into (mx (Mm.1 j_x) (Mm.1 j_y))) := by rw [eF82]; exact hFqm0_81
                have hFqm1_F82 : F82 (qm 1) = cJ (cy 2) 10 (vp_updL Mm.2 j_into ((FP.dmul r76 r77).toInt64)) := by rw [eF82]; exact hFqm1_81
                have hFqm2_F82 : F82 (qm 2) = cD (cy 0) 6 Dd.1 := by rw [eF82]; exact hFqm2_81
                have hFqm3_F82 : F82 (qm 3) = cD (cy 0) 6 Dd.2.1 := by rw [eF82]; exact hFqm3_81
                have hFqm4_F82 : F82 (qm 4) = cD (cy 0) 6 Dd.2.2.1 := by rw [eF82]; exact hFqm4_81
                have hFqm5_F82 : F82 (qm 5) = cJ (cy 2) 6 Dd.2.2.2 := by rw [eF82]; exact hFqm5_81
                have hFqm6_F82 : F82 (qm 6) = cI (cy 1) 8 Sl.1 := by rw [eF82]; exact hFqm6_81
                have hFqm7_F82 : F82 (qm 7) = cJ (cy 2) 128 Sl.2 := by rw [eF82]; exact hFqm7_81
                have hFqm8_F82 : F82 (qm 8) = cI (cy 1) 30 Pp.2.1 := by rw [eF82]; exact hFqm8_81
                have hFqm9_F82 : F82 (qm 9) = cI (cy 3) 30 Pp.2.2 := by rw [eF82]; exact hFqm9_81
                have hFqm10_F82 : F82 (qm 10) = cI (cy 1) 5 Kr.1 := by rw [eF82]; exact hFqm10_81
                have hFqm11_F82 : F82 (qm 11) = cI (cy 3) 5 Kr.2.1 := by rw [eF82]; exact hFqm11_81
                have hFqm12_F82 : F82 (qm 12) = cI (cy 1) 60 Kr.2.2 := by rw [eF82]; exact hFqm12_81
                have hFqm13_F82 : F82 (qm 13) = cI (cy 1) 4 Bk.1 := by rw [eF82]; exact hFqm13_81
                have hFqm14_F82 : F82 (qm 14) = cD (cy 0) 4 Bk.2 := by rw [eF82]; exact hFqm14_81
                have hFqm15_F82 : F82 (qm 15) = cI (cy 1) 6 Xx.2 := by rw [eF82]; exact hFqm15_81
                have hr83 := hqr83
                exact W.iret (v := r83) hx hb hr (fun t ht hW => ⟨⟨r83, F82, rfl, (by subst hr83 hr77 hr76 hr47 ev46 ev45 hr44 ev43 ev42 ev37; have hsp : sp_reckon Mm Xx 2 (nI j_x) (nI j_y) (nI j_into) = (3, setM Mm j_into 3 (rkD 2 (db (tn (Mm.1 j_x) (Mm.2 j_x) 3)) (db (tn (Mm.1 j_y) (Mm.2 j_y) 3))).toInt64, goodX Xx) := (by unfold sp_reckon; rw [hi_x, hi_y, hi_into, ixk.2.2.1]; show rk Mm Xx 2 j_x j_y j_into = _; unfold rk; rw [if_neg (hmx.2 h1l).2, if_neg (by rw [hmxl]; decide)]; exact if_neg (by rw [hnan]; decide)); rw [hsp]; have hh := hFqm1_F82; have hh0 := hFqm0_F82; rw [hmxl] at hh hh0; exact ⟨hmxl, ⟨⟨_, _, hmo, hFo_F82⟩, ⟨hm0, hh0⟩, ⟨hm1, hh⟩, ⟨hm2, hFqm2_F82⟩, ⟨hm3, hFqm3_F82⟩, ⟨hm4, hFqm4_F82⟩, ⟨hm5, hFqm5_F82⟩, ⟨hm6, hFqm6_F82⟩, ⟨hm7, hFqm7_F82⟩, ⟨hm8, hFqm8_F82⟩, ⟨hm9, hFqm9_F82⟩, ⟨hm10, hFqm10_F82⟩, ⟨hm11, hFqm11_F82⟩, ⟨hm12, hFqm12_F82⟩, ⟨hm13, hFqm13_F82⟩, ⟨hm14, hFqm14_F82⟩, ⟨hm15, hFqm15_F82⟩, hne⟩⟩), (by show va_P _ _ _ t.heap; rw [ht]; exact hP)⟩, hS.F ht⟩) hS.2.2 dX9_reckon_234
          · refine lv_iload hx hb dX9_reckon_122 (lv_at hl 2 rfl) ?_
            refine lv_iconst (v := 2) hx hb dX9_reckon_124 (by decide) ?_
            refine lv_icmp_ge (tgt := 162) hx hb dX9_reckon_125 (by decide) (fun c84 => absurd c84 (Int32.not_le.mpr (hmx.1 h1l).2.1)) (fun c84 => ?_)
            refine lv_aload_n hx hb dX9_reckon_128 rfl (lv_at hl 3 rfl) ?_
            refine lv_iload_n hx hb dX9_reckon_129 rfl (lv_at hl 4 rfl) ?_
            refine lv_lload hx hb dX9_reckon_130 (lv_at hl 1 rfl) ?_
            refine lv_lload hx hb dX9_reckon_132 (lv_at hl 0 rfl) ?_
            refine va_callv (va_runV (As := [.int 2, .long r44, .long r47]) (rest := []) ⟨hx, hb, hml, hown, hts⟩ (c9_rL_2 l G cy L F40 H.size o qm 0 Pp.1 0 oc hmo hFo_40 r44 r47 ) (cwV 3 hts gX9_reckon_X9_reckonLongs rfl rfl rfl (by decide +kernel) ⟨Nat.le_of_ble_eq_true rfl, Nat.le_of_ble_eq_true rfl⟩) (preV_of okQ (⟨rfl, hP, hK, hD.top⟩) (pl_recv hK hP (ci := 8) rfl hmo hFo_40)) rfl rfl hl.1 rfl (lv_room (Nat.le_of_ble_eq_true rfl)) dX9_reckon_134 ⟨Nat.le_of_ble_eq_true rfl, Nat.le_of_ble_eq_true rfl⟩) hS (fun q _ h => pl_free hD hS hA q h) (pl_free hD hS hA) (fun F85 t H1 locs ht hvm hw hP1 hz1 hk1 hS => ?_)
            have hP1 : va_P G vwCl (va_pl L F85) t.heap := hP1
            rw [ht] at hP1
            have hP := hP1
            generalize H1 = H at hP hS ⊢
            have eF85 : F85 = va_up F40 o (.inr (8, [.int 0, .ref (qm 0), .ref (qm 1), .ref (qm 2), .ref (qm 3), .ref (qm 4), .ref (qm 5), .ref (qm 6), .ref (qm 7), .int Pp.1, .ref (qm 8), .ref (qm 9), .ref (qm 10), .ref (qm 11), .ref (qm 12), .ref (qm 13), .ref (qm 14), .int 0, .ref (qm 15), .long (rkL 2 r44 r47)])) := hw
            have hFo_85 : F85 o = .inr (8, [.int 0, .ref (qm 0), .ref (qm 1), .ref (qm 2), .ref (qm 3), .ref (qm 4), .ref (qm 5), .ref (qm 6), .ref (qm 7), .int Pp.1, .ref (qm 8), .ref (qm 9), .ref (qm 10), .ref (qm 11), .ref (qm 12), .ref (qm 13), .ref (qm 14), .int 0, .ref (qm 15), .long (rkL 2 r44 r47)]) := by rw [eF85]; exact va_up_self _ _ _
            have hFqm0_85 : F85 (qm 0) = cI (cy 1) 10 Mm.1 := by rw [eF85, va_up_ne _ _ (pl_ne hFqm0_40 hFo_40 rfl)]; exact hFqm0_40
            have hFqm1_85 : F85 (qm 1) = cJ (cy 2) 10 Mm.2 := by rw [eF85, va_up_ne _ _ (pl_ne hFqm1_40 hFo_40 rfl)]; exact hFqm1_40
            have hFqm2_85 : F85 (qm 2) = cD (cy 0) 6 Dd.1 := by rw [eF85, va_up_ne _ _ (pl_ne hFqm2_40 hFo_40 rfl)]; exact hFqm2_40
            have hFqm3_85 : F85 (qm 3) = cD (cy 0) 6 Dd.2.1 := by rw [eF85, va_up_ne _ _ (pl_ne hFqm3_40 hFo_40 rfl)]; exact hFqm3_40
            have hFqm4_85 : F85 (qm 4) = cD (cy 0) 6 Dd.2.2.1 := by rw [eF85, va_up_ne _ _ (pl_ne hFqm4_40 hFo_40 rfl)]; exact hFqm4_40
            have hFqm5_85 : F85 (qm 5) = cJ (cy 2) 6 Dd.2.2.2 := by rw [eF85, va_up_ne _ _ (pl_ne hFqm5_40 hFo_40 rfl)]; exact hFqm5_40
            have hFqm6_85 : F85 (qm 6) = cI (cy 1) 8 Sl.1 := by rw [eF85, va_up_ne _ _ (pl_ne hFqm6_40 hFo_40 rfl)]; exact hFqm6_40
            have hFqm7_85 : F85 (qm 7) = cJ (cy 2) 128 Sl.2 := by rw [eF85, va_up_ne _ _ (pl_ne hFqm7_40 hFo_40 rfl)]; exact hFqm7_40
            have hFqm8_85 : F85 (qm 8) = cI (cy 1) 30 Pp.2.1 := by rw [eF85, va_up_ne _ _ (pl_ne hFqm8_40 hFo_40 rfl)]; exact hFqm8_40
            have hFqm9_85 : F85 (qm 9) = cI (cy 3) 30 Pp.2.2 := by rw [eF85, va_up_ne _ _ (pl_ne hFqm9_40 hFo_40 rfl)]; exact hFqm9_40
            have hFqm10_85 : F85 (qm 10) = cI (cy 1) 5 Kr.1 := by rw [eF85, va_up_ne _ _ (pl_ne hFqm10_40 hFo_40 rfl)]; exact hFqm10_40
            have hFqm11_85 : F85 (qm 11) = cI (cy 3) 5 Kr.2.1 := by rw [eF85, va_up_ne _ _ (pl_ne hFqm11_40 hFo_40 rfl)]; exact hFqm11_40
            have hFqm12_85 : F85 (qm 12) = cI (cy 1) 60 Kr.2.2 := by rw [eF85, va_up_ne _ _ (pl_ne hFqm12_40 hFo_40 rfl)]; exact hFqm12_40
            have hFqm13_85 : F85 (qm 13) = cI (cy 1) 4 Bk.1 := by rw [eF85, va_up_ne _ _ (pl_ne hFqm13_40 hFo_40 rfl)]; exact hFqm13_40
            have hFqm14_85 : F85 (qm 14) = cD (cy 0) 4 Bk.2 := by rw [eF85, va_up_ne _ _ (pl_ne hFqm14_40 hFo_40 rfl)]; exact hFqm14_40
            have hFqm15_85 : F85 (qm 15) = cI (cy 1) 6 Xx.2 := by rw [eF85, va_up_ne _ _ (pl_ne hFqm15_40 hFo_40 rfl)]; exact hFqm15_40
            refine lv_aload_n hx hb dX9_reckon_137 rfl (lv_at hl 3 rfl) ?_
            refine lv_iload hx hb dX9_reckon_138 (lv_at hl 2 rfl) ?_
            refine lv_if_ne (tgt := 152) hx hb dX9_reckon_140 (by decide) (fun c86 => ?_) (fun c86 => ?_)
            · refine lv_aload_n hx hb dX9_reckon_152 rfl (lv_at hl 3 rfl) ?_
              refine pg_get (ci := 8) (C := RX9) (T := TX9) (N := 20) hx hb hts hinX9 hown hK hP hmo hFo_85 rfl 19 (by decide) (hts (.fieldLink RX9 131 "RopeDrumsModel" "outcome" "J") (by decide +kernel)) (fun _ h9 => h9) rfl dX9_reckon_153 ?_
              refine pg_put (ci := 8) (v := .long (rkL 2 r44 r47)) (ty := .long) (C := RX9) (T := TX9) (N := 20) hx hb hts hinX9 tyX9 tyX9_ok nmX9 hown hK hP hD hS hmo hFo_85 rfl 19 (by decide) (hts (.fieldLink RX9 131 "RopeDrumsModel" "outcome" "J") (by decide +kernel)) (fun _ h9 => h9) rfl (by decide +kernel) (rfl) (rfl) (Nat.le_of_ble_eq_true rfl) dX9_reckon_156 (fun H locs F87 eF87 hP hS => ?_)
              have eF87 : F87 = va_up F85 o (.inr (8, [.int 0, .ref (qm 0), .ref (qm 1), .ref (qm 2), .ref (qm 3), .ref (qm 4), .ref (qm 5), .ref (qm 6), .ref (qm 7), .int Pp.1, .ref (qm 8), .ref (qm 9), .ref (qm 10), .ref (qm 11), .ref (qm 12), .ref (qm 13), .ref (qm 14), .int 0, .ref (qm 15), .long (rkL 2 r44 r47)])) := eF87
              have hFo_87 : F87 o = .inr (8, [.int 0, .ref (qm 0), .ref (qm 1), .ref (qm 2), .ref (qm 3), .ref (qm 4), .ref (qm 5), .ref (qm 6), .ref (qm 7), .int Pp.1, .ref (qm 8), .ref (qm 9), .ref (qm 10), .ref (qm 11), .ref (qm 12), .ref (qm 13), .ref (qm 14), .int 0, .ref (qm 15), .long (rkL 2 r44 r47)]) := by rw [eF87]; exact va_up_self _ _ _
              have hFqm0_87 : F87 (qm 0) = cI (cy 1) 10 Mm.1 := by rw [eF87, va_up_ne _ _ (pl_ne hFqm0_85 hFo_85 rfl)]; exact hFqm0_85
              have hFqm1_87 : F87 (qm 1) = cJ (cy 2) 10 Mm.2 := by rw [eF87, va_up_ne _ _ (pl_ne hFqm1_85 hFo_85 rfl)]; exact hFqm1_85
              have hFqm2_87 : F87 (qm 2) = cD (cy 0) 6 Dd.1 := by rw [eF87, va_up_ne _ _ (pl_ne hFqm2_85 hFo_85 rfl)]; exact hFqm2_85
              have hFqm3_87 : F87 (qm 3) = cD (cy 0) 6 Dd.2.1 := by rw [eF87, va_up_ne _ _ (pl_ne hFqm3_85 hFo_85 rfl)]; exact hFqm3_85
              have hFqm4_87 : F87 (qm 4) = cD (cy 0) 6 Dd.2.2.1 := by rw [eF87, va_up_ne _ _ (pl_ne hFqm4_85 hFo_85 rfl)]; exact hFqm4_85
              have hFqm5_87 : F87 (qm 5) = cJ (cy 2) 6 Dd.2.2.2 := by rw [eF87, va_up_ne _ _ (pl_ne hFqm5_85 hFo_85 rfl)]; exact hFqm5_85
              have hFqm6_87 : F87 (qm 6) = cI (cy 1) 8 Sl.1 := by rw [eF87, va_up_ne _ _ (pl_ne hFqm6_85 hFo_85 rfl)]; exact hFqm6_85
              have hFqm7_87 : F87 (qm 7) = cJ (cy 2) 128 Sl.2 := by rw [eF87, va_up_ne _ _ (pl_ne hFqm7_85 hFo_85 rfl)]; exact hFqm7_85
              have hFqm8_87 : F87 (qm 8) = cI (cy 1) 30 Pp.2.1 := by rw [eF87, va_up_ne _ _ (pl_ne hFqm8_85 hFo_85 rfl)]; exact hFqm8_85
              have hFqm9_87 : F87 (qm 9) = cI (cy 3) 30 Pp.2.2 := by rw [eF87, va_up_ne _ _ (pl_ne hFqm9_85 hFo_85 rfl)]; exact hFqm9_85
              have hFqm10_87 : F87 (qm 10) = cI (cy 1) 5 Kr.1 := by rw [eF87, va_up_ne _ _ (pl_ne hFqm10_85 hFo_85 rfl)]; exact hFqm10_85
              have hFqm11_87 : F87 (qm 11) = cI (cy 3) 5 Kr.2.1 := by rw [eF87, va_up_ne _ _ (pl_ne hFqm11_85 hFo_85 rfl)]; exact hFqm11_85
              have hFqm12_87 : F87 (qm 12) = cI (cy 1) 60 Kr.2.2 := by rw [eF87, va_up_ne _ _ (pl_ne hFqm12_85 hFo_85 rfl)]; exact hFqm12_85
              have hFqm13_87 : F87 (qm 13) = cI (cy 1) 4 Bk.1 := by rw [eF87, va_up_ne _ _ (pl_ne hFqm13_85 hFo_85 rfl)]; exact hFqm13_85
              have hFqm14_87 : F87 (qm 14) = cD (cy 0) 4 Bk.2 := by rw [eF87, va_up_ne _ _ (pl_ne hFqm14_85 hFo_85 rfl)]; exact hFqm14_85
              have hFqm15_87 : F87 (qm 15) = cI (cy 1) 6 Xx.2 := by rw [eF87, va_up_ne _ _ (pl_ne hFqm15_85 hFo_85 rfl)]; exact hFqm15_85
              refine lv_goto (tgt := 201) hx hb dX9_reckon_159 (by decide) ?_
              refine lv_aload_n hx hb dX9_reckon_201 rfl (lv_at hl 3 rfl) ?_
              refine pg_get (ci := 8) (C := RX9) (T := TX9) (N := 20) hx hb hts hinX9 hown hK hP hmo hFo_87 rfl 17 (by decide) (hts (.fieldLink RX9 65 "RopeDrumsModel" "failed" "I") (by decide +kernel)) (fun _ h9 => h9) rfl dX9_reckon_202 ?_
              refine lv_if_ne (tgt := 228) hx hb dX9_reckon_205 (by decide) (fun c88 => absurd (by decide) c88) (fun c88 => ?_)
              refine lv_aload_n hx hb dX9_reckon_208 rfl (lv_at hl 3 rfl) ?_
              refine pg_get (ci := 8) (C := RX9) (T := TX9) (N := 20) hx hb hts hinX9 hown hK hP hmo hFo_87 rfl 1 (by decide) (hts (.fieldLink RX9 7 "RopeDrumsModel" "laneOf" "[I") (by decide +kernel)) (fun _ h9 => h9) rfl dX9_reckon_209 ?_
              refine lv_iload hx hb dX9_reckon_212 (lv_at hl 7 rfl) ?_
              refine lv_iload hx hb dX9_reckon_214 (lv_at hl 2 rfl) ?_
              refine pg_iast hx hb hK hP hD hS 1 hm0 hFqm0_87 rfl (vp_in_nI (by omega) (by decide)) dX9_reckon_216 (fun H locs F89 eF89 hP hS => ?_)
              rw [nI_clamp (by omega)] at eF89
              have hFo_89 : F89 o = .inr (8, [.int 0, .ref (qm 0), .ref (qm 1), .ref (qm 2), .ref (qm 3), .ref (qm 4), .ref (qm 5), .ref (qm 6), .ref (qm 7), .int Pp.1, .ref (qm 8), .ref (qm 9), .ref (qm 10), .ref (qm 11), .ref (qm 12), .ref (qm 13), .ref (qm 14), .int 0, .ref (qm 15), .long (rkL 2 r44 r47)]) := by rw [eF89, va_up_ne _ _ (pl_ne hFo_87 hFqm0_87 rfl)]; exact hFo_87
              have hFqm0_89 : F89 (qm 0) = cI (cy 1) 10 (upd Mm.1 j_into (mx (Mm.1 j_x) (Mm.1 j_y))) := by rw [eF89]; exact va_up_self _ _ _
              have hFqm1_89 : F89 (qm 1) = cJ (cy 2) 10 Mm.2 := by rw [eF89, va_up_ne _ _ (pl_ne hFqm1_87 hFqm0_87 rfl)]; exact hFqm1_87
              have hFqm2_89 : F89 (qm 2) = cD (cy 0) 6 Dd.1 := by rw [eF89, va_up_ne _ _ (pl_ne hFqm2_87 hFqm0_87 rfl)]; exact hFqm2_87
              have hFqm3_89 : F89 (qm 3) = cD (cy 0) 6 Dd.2.1 := by rw [eF89, va_up_ne _ _ (pl_ne hFqm3_87 hFqm0_87 rfl)]; exact hFqm3_87
              have hFqm4_89 : F89 (qm 4) = cD (cy 0) 6 Dd.2.2.1 := by rw [eF89, va_up_ne _ _ (pl_ne hFqm4_87 hFqm0_87 rfl)]; exact hFqm4_87
              have hFqm5_89 : F89 (qm 5) = cJ (cy 2) 6 Dd.2.2.2 := by rw [eF89, va_up_ne _ _ (pl_ne hFqm5_87 hFqm0_87 rfl)]; exact hFqm5_87
              have hFqm6_89 : F89 (qm 6) = cI (cy 1) 8 Sl.1 := by rw [eF89, va_up_ne _ _ (pl_ne hFqm6_87 hFqm0_87 rfl)]; exact hFqm6_87
              have hFqm7_89 : F89 (qm 7) = cJ (cy 2) 128 Sl.2 := by rw [eF89, va_up_ne _ _ (pl_ne hFqm7_87 hFqm0_87 rfl)]; exact hFqm7_87
              have hFqm8_89 : F89 (qm 8) = cI (cy 1) 30 Pp.2.1 := by rw [eF89, va_up_ne _ _ (pl_ne hFqm8_87 hFqm0_87 rfl)]; exact hFqm8_87
              have hFqm9_89 : F89 (qm 9) = cI (cy 3) 30 Pp.2.2 := by rw [eF89, va_up_ne _ _ (pl_ne hFqm9_87 hFqm0_87 rfl)]; exact hFqm9_87
              have hFqm10_89 : F89 (qm 10) = cI (cy 1) 5 Kr.1 := by rw [eF89, va_up_ne _ _ (pl_ne hFqm10_87 hFqm0_87 rfl)]; exact hFqm10_87
              have hFqm11_89 : F89 (qm 11) = cI (cy 3) 5 Kr.2.1 := by rw [eF89, va_up_ne _ _ (pl_ne hFqm11_87 hFqm0_87 rfl)]; exact hFqm11_87
              have hFqm12_89 : F89 (qm 12) = cI (cy 1) 60 Kr.2.2 := by rw [eF89, va_up_ne _ _ (pl_ne hFqm12_87 hFqm0_87 rfl)]; exact hFqm12_87
              have hFqm13_89 : F89 (qm 13) = cI (cy 1) 4 Bk.1 := by rw [eF89, va_up_ne _ _ (pl_ne hFqm13_87 hFqm0_87 rfl)]; exact hFqm13_87
              have hFqm14_89 : F89 (qm 14) = cD (cy 0) 4 Bk.2 := by rw [eF89, va_up_ne _ _ (pl_ne hFqm14_87 hFqm0_87 rfl)]; exact hFqm14_87
              have hFqm15_89 : F89 (qm 15) = cI (cy 1) 6 Xx.2 := by rw [eF89, va_up_ne _ _ (pl_ne hFqm15_87 hFqm0_87 rfl)]; exact hFqm15_87
              refine lv_aload_n hx hb dX9_reckon_217 rfl (lv_at hl 3 rfl) ?_
              refine pg_get (ci := 8) (C := RX9) (T := TX9) (N := 20) hx hb hts hinX9 hown hK hP hmo hFo_89 rfl 2 (by decide) (hts (.fieldLink RX9 13 "RopeDrumsModel" "held" "[J") (by decide +kernel)) (fun _ h9 => h9) rfl dX9_reckon_218 ?_
              refine lv_iload hx hb dX9_reckon_221 (lv_at hl 7 rfl) ?_
              refine lv_aload_n hx hb dX9_reckon_223 rfl (lv_at hl 3 rfl) ?_
              refine pg_get (ci := 8) (C := RX9) (T := TX9) (N := 20) hx hb hts hinX9 hown hK hP hmo hFo_89 rfl 19 (by decide) (hts (.fieldLink RX9 131 "RopeDrumsModel" "outcome" "J") (by decide +kernel)) (fun _ h9 => h9) rfl dX9_reckon_224 ?_
              refine pg_last hx hb hK hP hD hS 2 hm1 hFqm1_89 rfl (vp_in_nI (by omega) (by decide)) dX9_reckon_227 (fun H locs F90 eF90 hP hS => ?_)
              rw [nI_clamp (by omega)] at eF90
              have hFo_90 : F90 o = .inr (8, [.int 0, .ref (qm 0), .ref (qm 1), .ref (qm 2), .ref (qm 3), .ref (qm 4), .ref (qm 5), .ref (qm 6), .ref (qm 7), .int Pp.1, .ref (qm 8), .ref (qm 9), .ref (qm 10), .ref (qm 11), .ref (qm 12), .ref (qm 13), .ref (qm 14), .int 0, .ref (qm 15), .long (rkL 2 r44 r47)]) := by rw [eF90, va_up_ne _ _ (pl_ne hFo_89 hFqm1_89 rfl)]; exact hFo_89
              have hFqm0_90 : F90 (qm 0) = cI (cy 1) 10 (upd Mm.1 j_into (mx (Mm.1 j_x) (Mm.1 j_y))) := by rw [eF90, va_up_ne _ _ (pl_ne hFqm0_89 hFqm1_89 rfl)]; exact hFqm0_89
              have hFqm1_90 : F90 (qm 1) = cJ (cy 2) 10 (vp_updL Mm.2 j_into (rkL 2 r44 r47)) := by rw [eF90]; exact va_up_self _ _ _
              have hFqm2_90 : F90 (qm 2) = cD (cy 0) 6 Dd.1 := by rw [eF90, va_up_ne _ _ (pl_ne hFqm2_89 hFqm1_89 rfl)]; exact hFqm2_89
              have hFqm3_90 : F90 (qm 3) = cD (cy 0) 6 Dd.2.1 := by rw [eF90, va_up_ne _ _ (pl_ne hFqm3_89 hFqm1_89 rfl)]; exact hFqm3_89
              have hFqm4_90 : F90 (qm 4) = cD (cy 0) 6 Dd.2.2.1 := by rw [eF90, va_up_ne _ _ (pl_ne hFqm4_89 hFqm1_89 rfl)]; exact hFqm4_89
              have hFqm5_90 : F90 (qm 5) = cJ (cy 2) 6 Dd.2.2.2 := by rw [eF90, va_up_ne _ _ (pl_ne hFqm5_89 hFqm1_89 rfl)]; exact hFqm5_89
              have hFqm6_90 : F90 (qm 6) = cI (cy 1) 8 Sl.1 := by rw [eF90, va_up_ne _ _ (pl_ne hFqm6_89 hFqm1_89 rfl)]; exact hFqm6_89
              have hFqm7_90 : F90 (qm 7) = cJ (cy 2) 128 Sl.2 := by rw [eF90, va_up_ne _ _ (pl_ne hFqm7_89 hFqm1_89 rfl)]; exact hFqm7_89
              have hFqm8_90 : F90 (qm 8) = cI (cy 1) 30 Pp.2.1 := by rw [eF90, va_up_ne _ _ (pl_ne hFqm8_89 hFqm1_89 rfl)]; exact hFqm8_89
              have hFqm9_90 : F90 (qm 9) = cI (cy 3) 30 Pp.2.2 := by rw [eF90, va_up_ne _ _ (pl_ne hFqm9_89 hFqm1_89 rfl)]; exact hFqm9_89
              have hFqm10_90 : F90 (qm 10) = cI (cy 1) 5 Kr.1 := by rw [eF90, va_up_ne _ _ (pl_ne hFqm10_89 hFqm1_89 rfl)]; exact hFqm10_89
              have hFqm11_90 : F90 (qm 11) = cI (cy 3) 5 Kr.2.1 := by rw [eF90, va_up_ne _ _ (pl_ne hFqm11_89 hFqm1_89 rfl)]; exact hFqm11_89
              have hFqm12_90 : F90 (qm 12) = cI (cy 1) 60 Kr.2.2 := by rw [eF90, va_up_ne _ _ (pl_ne hFqm12_89 hFqm1_89 rfl)]; exact hFqm12_89
              have hFqm13_90 : F90 (qm 13) = cI (cy 1) 4 Bk.1 := by rw [eF90, va_up_ne _ _ (pl_ne hFqm13_89 hFqm1_89 rfl)]; exact hFqm13_89
              have hFqm14_90 : F90 (qm 14) = cD (cy 0) 4 Bk.2 := by rw [eF90, va_up_ne _ _ (pl_ne hFqm14_89 hFqm1_89 rfl)]; exact hFqm14_89
              have hFqm15_90 : F90 (qm 15) = cI (cy 1) 6 Xx.2 := by rw [eF90, va_up_ne _ _ (pl_ne hFqm15_89 hFqm1_89 rfl)]; exact hFqm15_89
              refine lv_aload_n hx hb dX9_reckon_228 rfl (lv_at hl 3 rfl) ?_
              refine lv_iload hx hb dX9_reckon_229 (lv_at hl 2 rfl) ?_
              refine va_calli (va_runV (As := [.int (mx (Mm.1 j_x) (Mm.1 j_y))]) (rest := []) ⟨hx, hb, hml, hown, hts⟩ (c9_answers_0 l G cy L F90 H.size o qm 0 Pp.1 (rkL 2 r44 r47) hmo hFo_90 Xx.2 hm15 hFqm15_90 (mx (Mm.1 j_x) (Mm.1 j_y))) (cwV 1 hts gX9_reckon_X9_answers rfl rfl rfl (by decide +kernel) ⟨Nat.le_of_ble_eq_true rfl, Nat.le_of_ble_eq_true rfl⟩) (preV_of okQ (⟨rfl, hP, hK, hD.top⟩) (pl_recv hK hP (ci := 8) rfl hmo hFo_90)) rfl rfl hl.1 rfl (lv_room (Nat.le_of_ble_eq_true rfl)) dX9_reckon_231 ⟨Nat.le_of_ble_eq_true rfl, Nat.le_of_ble_eq_true rfl⟩) hS (fun q _ h => pl_free hD hS hA q h) (pl_free hD hS hA) (fun r92 F91 t H1 locs ht hvm hw hP1 hz1 hk1 hS => ?_)
              have hP1 : va_P G vwCl (va_pl L F91) t.heap := hP1
              rw [ht] at hP1
              have hP := hP1
              generalize H1 = H at hP hS ⊢
              obtain ⟨hqr92, eF91⟩ := hw
              have hFo_F91 : F91 o = .inr (8, [.int 0, .ref (qm 0), .ref (qm 1), .ref (qm 2), .ref (qm 3), .ref (qm 4), .ref (qm 5), .ref (qm 6), .ref (qm 7), .int Pp.1, .ref (qm 8), .ref (qm 9), .ref (qm 10), .ref (qm 11), .ref (qm 12), .ref (qm 13), .ref (qm 14), .int 0, .ref (qm 15), .long (rkL 2 r44 r47)]) := by rw [eF91]; exact hFo_90
              have hFqm0_F91 : F91 (qm 0) = cI (cy 1) 10 (upd Mm.1 j_into (mx (Mm.1 j_x) (Mm.1 j_y))) := by rw [eF91]; exact hFqm0_90
              have hFqm1_F91 : F91 (qm 1) = cJ (cy 2) 10 (vp_updL Mm.2 j_into (rkL 2 r44 r47)) := by rw [eF91]; exact hFqm1_90
              have hFqm2_F91 : F91 (qm 2) = cD (cy 0) 6 Dd.1 := by rw [eF91]; exact hFqm2_90
              have hFqm3_F91 : F91 (qm 3) = cD (cy 0) 6 Dd.2.1 := by rw [eF91]; exact hFqm3_90
              have hFqm4_F91 : F91 (qm 4) = cD (cy 0) 6 Dd.2.2.1 := by rw [eF91]; exact hFqm4_90
              have hFqm5_F91 : F91 (qm 5) = cJ (cy 2) 6 Dd.2.2.2 := by rw [eF91]; exact hFqm5_90
              have hFqm6_F91 : F91 (qm 6) = cI (cy 1) 8 Sl.1 := by rw [eF91]; exact hFqm6_90
              have hFqm7_F91 : F91 (qm 7) = cJ (cy 2) 128 Sl.2 := by rw [eF91]; exact hFqm7_90
              have hFqm8_F91 : F91 (qm 8) = cI (cy 1) 30 Pp.2.1 := by rw [eF91]; exact hFqm8_90
              have hFqm9_F91 : F91 (qm 9) = cI (cy 3) 30 Pp.2.2 := by rw [eF91]; exact hFqm9_90
              have hFqm10_F91 : F91 (qm 10) = cI (cy 1) 5 Kr.1 := by rw [eF91]; exact hFqm10_90
              have hFqm11_F91 : F91 (qm 11) = cI (cy 3) 5 Kr.2.1 := by rw [eF91]; exact hFqm11_90
              have hFqm12_F91 : F91 (qm 12) = cI (cy 1) 60 Kr.2.2 := by rw [eF91]; exact hFqm12_90
              have hFqm13_F91 : F91 (qm 13) = cI (cy 1) 4 Bk.1 := by rw [eF91]; exact hFqm13_90
              have hFqm14_F91 : F91 (qm 14) = cD (cy 0) 4 Bk.2 := by rw [eF91]; exact hFqm14_90
              have hFqm15_F91 : F91 (qm 15) = cI (cy 1) 6 Xx.2 := by rw [eF91]; exact hFqm15_90
              have hr92 := hqr92
              exact W.iret (v := r92) hx hb hr (fun t ht hW => ⟨⟨r92, F91, rfl, (by subst hr92 hr47 ev46 ev45 hr44 ev43 ev42 ev37; have hc140 := c86; have hsp : sp_reckon Mm Xx 2 (nI j_x) (nI j_y) (nI j_into) = (mx (Mm.1 j_x) (Mm.1 j_y), setM Mm j_into (mx (Mm.1 j_x) (Mm.1 j_y)) (rkL 2 (tn (Mm.1 j_x) (Mm.2 j_x) (mx (Mm.1 j_x) (Mm.1 j_y))) (tn (Mm.1 j_y) (Mm.2 j_y) (mx (Mm.1 j_x) (Mm.1 j_y)))), goodX Xx) := (by unfold sp_reckon; rw [hi_x, hi_y, hi_into, ixk.2.2.1]; show rk Mm Xx 2 j_x j_y j_into = _; unfold rk; rw [if_pos (hmx.1 h1l).2.1]; rw [if_neg (fun q => absurd q.1 (by decide)), if_neg hc140]); rw [hsp]; exact ⟨rfl, (by exact ⟨⟨_, _, hmo, hFo_F91⟩, ⟨hm0, hFqm0_F91⟩, ⟨hm1, hFqm1_F91⟩, ⟨hm2, hFqm2_F91⟩, ⟨hm3, hFqm3_F91⟩, ⟨hm4, hFqm4_F91⟩, ⟨hm5, hFqm5_F91⟩, ⟨hm6, hFqm6_F91⟩, ⟨hm7, hFqm7_F91⟩, ⟨hm8, hFqm8_F91⟩, ⟨hm9, hFqm9_F91⟩, ⟨hm10, hFqm10_F91⟩, ⟨hm11, hFqm11_F91⟩, ⟨hm12, hFqm12_F91⟩, ⟨hm13, hFqm13_F91⟩, ⟨hm14, hFqm14_F91⟩, ⟨hm15, hFqm15_F91⟩, hne⟩)⟩), (by show va_P _ _ _ t.heap; rw [ht]; exact hP)⟩, hS.F ht⟩) hS.2.2 dX9_reckon_234
            · refine lv_aload_n hx hb dX9_reckon_143 rfl (lv_at hl 3 rfl) ?_
              refine pg_get (ci := 8) (C := RX9) (T := TX9) (N := 20) hx hb hts hinX9 hown hK hP hmo hFo_85 rfl 19 (by decide) (hts (.fieldLink RX9 131 "RopeDrumsModel" "outcome" "J") (by decide +kernel)) (fun _ h9 => h9) rfl dX9_reckon_144 ?_
              refine lv_l2i hx hb dX9_reckon_147 rfl ?_
              refine lv_topi (fun v93 ev93 => ?_)
              refine lv_i2l hx hb dX9_reckon_148 rfl ?_
              refine lv_topl (fun v94 ev94 => ?_)
              refine lv_goto (tgt := 156) hx hb dX9_reckon_149 (by decide) ?_
              refine pg_put (ci := 8) (v := .long v94) (ty := .long) (C := RX9) (T := TX9) (N := 20) hx hb hts hinX9 tyX9 tyX9_ok nmX9 hown hK hP hD hS hmo hFo_85 rfl 19 (by decide) (hts (.fieldLink RX9 131 "RopeDrumsModel" "outcome" "J") (by decide +kernel)) (fun _ h9 => h9) rfl (by decide +kernel) (rfl) (rfl) (Nat.le_of_ble_eq_true rfl) dX9_reckon_156 (fun H locs F95 eF95 hP hS => ?_)
              have eF95 : F95 = va_up F85 o (.inr (8, [.int 0, .ref (qm 0), .ref (qm 1), .ref (qm 2), .ref (qm 3), .ref (qm 4), .ref (qm 5), .ref (qm 6), .ref (qm 7), .int Pp.1, .ref (qm 8), .ref (qm 9), .ref (qm 10), .ref (qm 11), .ref (qm 12), .ref (qm 13), .ref (qm 14), .int 0, .ref (qm 15), .long v94])) := eF95
              have hFo_95 : F95 o = .inr (8, [.int 0, .ref (qm 0), .ref (qm 1), .ref (qm 2), .ref (qm 3), .ref (qm 4), .ref (qm 5), .ref (qm 6), .ref (qm 7), .int Pp.1, .ref (qm 8), .ref (qm 9), .ref (qm 10), .ref (qm 11), .ref (qm 12), .ref (qm 13), .ref (qm 14), .int 0, .ref (qm 15), .long v94]) := by rw [eF95]; exact va_up_self _ _ _
              have hFqm0_95 : F95 (qm 0) = cI (cy 1) 10 Mm.1 := by rw [eF95, va_up_ne _ _ (pl_ne hFqm0_85 hFo_85 rfl)]; exact hFqm0_85
              have hFqm1_95 : F95 (qm 1) = cJ (cy 2) 10 Mm.2 := by rw [eF95, va_up_ne _ _ (pl_ne hFqm1_85 hFo_85 rfl)]; exact hFqm1_85
              have hFqm2_95 : F95 (qm 2) = cD (cy 0) 6 Dd.1 := by rw [eF95, va_up_ne _ _ (pl_ne hFqm2_85 hFo_85 rfl)]; exact hFqm2_85
              have hFqm3_95 : F95 (qm 3) = cD (cy 0) 6 Dd.2.1 := by rw [eF95, va_up_ne _ _ (pl_ne hFqm3_85 hFo_85 rfl)]; exact hFqm3_85
              have hFqm4_95 : F95 (qm 4) = cD (cy 0) 6 Dd.2.2.1 := by rw [eF95, va_up_ne _ _ (pl_ne hFqm4_85 hFo_85 rfl)]; exact hFqm4_85
              have hFqm5_95 : F95 (qm 5) = cJ (cy 2) 6 Dd.2.2.2 := by rw [eF95, va_up_ne _ _ (pl_ne hFqm5_85 hFo_85 rfl)]; exact hFqm5_85
              have hFqm6_95 : F95 (qm 6) = cI (cy 1) 8 Sl.1 := by rw [eF95, va_up_ne _ _ (pl_ne hFqm6_85 hFo_85 rfl)]; exact hFqm6_85
              have hFqm7_95 : F95 (qm 7) = cJ (cy 2) 128 Sl.2 := by rw [eF95, va_up_ne _ _ (pl_ne hFqm7_85 hFo_85 rfl)]; exact hFqm7_85
              have hFqm8_95 : F95 (qm 8) = cI (cy 1) 30 Pp.2.1 := by rw [eF95, va_up_ne _ _ (pl_ne hFqm8_85 hFo_85 rfl)]; exact hFqm8_85
              have hFqm9_95 : F95 (qm 9) = cI (cy 3) 30 Pp.2.2 := by rw [eF95, va_up_ne _ _ (pl_ne hFqm9_85 hFo_85 rfl)]; exact hFqm9_85
              have hFqm10_95 : F95 (qm 10) = cI (cy 1) 5 Kr.1 := by rw [eF95, va_up_ne _ _ (pl_ne hFqm10_85 hFo_85 rfl)]; exact hFqm10_85
              have hFqm11_95 : F95 (qm 11) = cI (cy 3) 5 Kr.2.1 := by rw [eF95, va_up_ne _ _ (pl_ne hFqm11_85 hFo_85 rfl)]; exact hFqm11_85
              have hFqm12_95 : F95 (qm 12) = cI (cy 1) 60 Kr.2.2 := by rw [eF95, va_up_ne _ _ (pl_ne hFqm12_85 hFo_85 rfl)]; exact hFqm12_85
              have hFqm13_95 : F95 (qm 13) = cI (cy 1) 4 Bk.1 := by rw [eF95, va_up_ne _ _ (pl_ne hFqm13_85 hFo_85 rfl)]; exact hFqm13_85
              have hFqm14_95 : F95 (qm 14) = cD (cy 0) 4 Bk.2 := by rw [eF95, va_up_ne _ _ (pl_ne hFqm14_85 hFo_85 rfl)]; exact hFqm14_85
              have hFqm15_95 : F95 (qm 15) = cI (cy 1) 6 Xx.2 := by rw [eF95, va_up_ne _ _ (pl_ne hFqm15_85 hFo_85 rfl)]; exact hFqm15_85
              refine lv_goto (tgt := 201) hx hb dX9_reckon_159 (by decide) ?_
              refine lv_aload_n hx hb dX9_reckon_201 rfl (lv_at hl 3 rfl) ?_
              refine pg_get (ci := 8) (C := RX9) (T := TX9) (N := 20) hx hb hts hinX9 hown hK hP hmo hFo_95 rfl 17 (by decide) (hts (.fieldLink RX9 65 "RopeDrumsModel" "failed" "I") (by decide +kernel)) (fun _ h9 => h9) rfl dX9_reckon_202 ?_
              refine lv_if_ne (tgt := 228) hx hb dX9_reckon_205 (by decide) (fun c96 => absurd (by decide) c96) (fun c96 => ?_)
              refine lv_aload_n hx hb dX9_reckon_208 rfl (lv_at hl 3 rfl) ?_
              refine pg_get (ci := 8) (C := RX9) (T := TX9) (N := 20) hx hb hts hinX9 hown hK hP hmo hFo_95 rfl 1 (by decide) (hts (.fieldLink RX9 7 "RopeDrumsModel" "laneOf" "[I") (by decide +kernel)) (fun _ h9 => h9) rfl dX9_reckon_209 ?_
              refine lv_iload hx hb dX9_reckon_212 (lv_at hl 7 rfl) ?_
              refine lv_iload hx hb dX9_reckon_214 (lv_at hl 2 rfl) ?_
              refine pg_iast hx hb hK hP hD hS 1 hm0 hFqm0_95 rfl (vp_in_nI (by omega) (by decide)) dX9_reckon_216 (fun H locs F97 eF97 hP hS => ?_)
              rw [nI_clamp (by omega)] at eF97
              have hFo_97 : F97 o = .inr (8, [.int 0, .ref (qm 0), .ref (qm 1), .ref (qm 2), .ref (qm 3), .ref (qm 4), .ref (qm 5), .ref (qm 6), .ref (qm 7), .int Pp.1, .ref (qm 8), .ref (qm 9), .ref (qm 10), .ref (qm 11), .ref (qm 12), .ref (qm 13), .ref (qm 14), .int 0, .ref (qm 15), .long v94]) := by rw [eF97, va_up_ne _ _ (pl_ne hFo_95 hFqm0_95 rfl)]; exact hFo_95
              have hFqm0_97 : F97 (qm 0) = cI (cy 1) 10 (upd Mm.1 j_into (mx (Mm.1 j_x) (Mm.1 j_y))) := by rw [eF97]; exact va_up_self _ _ _
              have hFqm1_97 : F97 (qm 1) = cJ (cy 2) 10 Mm.2 := by rw [eF97, va_up_ne _ _ (pl_ne hFqm1_95 hFqm0_95 rfl)]; exact hFqm1_95
              have hFqm2_97 : F97 (qm 2) = cD (cy 0) 6 Dd.1 := by rw [eF97, va_up_ne _ _ (pl_ne hFqm2_95 hFqm0_95 rfl)]; exact hFqm2_95
              have hFqm3_97 : F97 (qm 3) = cD (cy 0) 6 Dd.2.1 := by rw [eF97, va_up_ne _ _ (pl_ne hFqm3_95 hFqm0_95 rfl)]; exact hFqm3_95
              have hFqm4_97 : F97 (qm 4) = cD (cy 0) 6 Dd.2.2.1 := by rw [eF97, va_up_ne _ _ (pl_ne hFqm4_95 hFqm0_95 rfl)]; exact hFqm4_95
              have hFqm5_97 : F97 (qm 5) = cJ (cy 2) 6 Dd.2.2.2 := by rw [eF97, va_up_ne _ _ (pl_ne hFqm5_95 hFqm0_95 rfl)]; exact hFqm5_95
              have hFqm6_97 : F97 (qm 6) = cI (cy 1) 8 Sl.1 := by rw [eF97, va_up_ne _ _ (pl_ne hFqm6_95 hFqm0_95 rfl)]; exact hFqm6_95
              have hFqm7_97 : F97 (qm 7) = cJ (cy 2) 128 Sl.2 := by rw [eF97, va_up_ne _ _ (pl_ne hFqm7_95 hFqm0_95 rfl)]; exact hFqm7_95
              have hFqm8_97 : F97 (qm 8) = cI (cy 1) 30 Pp.2.1 := by rw [eF97, va_up_ne _ _ (pl_ne hFqm8_95 hFqm0_95 rfl)]; exact hFqm8_95
              have hFqm9_97 : F97 (qm 9) = cI (cy 3) 30 Pp.2.2 := by rw [eF97, va_up_ne _ _ (pl_ne hFqm9_95 hFqm0_95 rfl)]; exact hFqm9_95
              have hFqm10_97 : F97 (qm 10) = cI (cy 1) 5 Kr.1 := by rw [eF97, va_up_ne _ _ (pl_ne hFqm10_95 hFqm0_95 rfl)]; exact hFqm10_95
              have hFqm11_97 : F97 (qm 11) = cI (cy 3) 5 Kr.2.1 := by rw [eF97, va_up_ne _ _ (pl_ne hFqm11_95 hFqm0_95 rfl)]; exact hFqm11_95
              have hFqm12_97 : F97 (qm 12) = cI (cy 1) 60 Kr.2.2 := by rw [eF97, va_up_ne _ _ (pl_ne hFqm12_95 hFqm0_95 rfl)]; exact hFqm12_95
              have hFqm13_97 : F97 (qm 13) = cI (cy 1) 4 Bk.1 := by rw [eF97, va_up_ne _ _ (pl_ne hFqm13_95 hFqm0_95 rfl)]; exact hFqm13_95
              have hFqm14_97 : F97 (qm 14) = cD (cy 0) 4 Bk.2 := by rw [eF97, va_up_ne _ _ (pl_ne hFqm14_95 hFqm0_95 rfl)]; exact hFqm14_95
              have hFqm15_97 : F97 (qm 15) = cI (cy 1) 6 Xx.2 := by rw [eF97, va_up_ne _ _ (pl_ne hFqm15_95 hFqm0_95 rfl)]; exact hFqm15_95
              refine lv_aload_n hx hb dX9_reckon_217 rfl (lv_at hl 3 rfl) ?_
              refine pg_get (ci := 8) (C := RX9) (T := TX9) (N := 20) hx hb hts hinX9 hown hK hP hmo hFo_97 rfl 2 (by decide) (hts (.fieldLink RX9 13 "RopeDrumsModel" "held" "[J") (by decide +kernel)) (fun _ h9 => h9) rfl dX9_reckon_218 ?_
              refine lv_iload hx hb dX9_reckon_221 (lv_at hl 7 rfl) ?_
              refine lv_aload_n hx hb dX9_reckon_223 rfl (lv_at hl 3 rfl) ?_
              refine pg_get (ci := 8) (C := RX9) (T := TX9) (N := 20) hx hb hts hinX9 hown hK hP hmo hFo_97 rfl 19 (by decide) (hts (.fieldLink RX9 131 "RopeDrumsModel" "outcome" "J") (by decide +kernel)) (fun _ h9 => h9) rfl dX9_reckon_224 ?_
              refine pg_last hx hb hK hP hD hS 2 hm1 hFqm1_97 rfl (vp_in_nI (by omega) (by decide)) dX9_reckon_227 (fun H locs F98 eF98 hP hS => ?_)
              rw [nI_clamp (by omega)] at eF98
              have hFo_98 : F98 o = .inr (8, [.int 0, .ref (qm 0), .ref (qm 1), .ref (qm 2), .ref (qm 3), .ref (qm 4), .ref (qm 5), .ref (qm 6), .ref (qm 7), .int Pp.1, .ref (qm 8), .ref (qm 9), .ref (qm 10), .ref (qm 11), .ref (qm 12), .ref (qm 13), .ref (qm 14), .int 0, .ref (qm 15), .long v94]) := by rw [eF98, va_up_ne _ _ (pl_ne hFo_97 hFqm1_97 rfl)]; exact hFo_97
              have hFqm0_98 : F98 (qm 0) = cI (cy 1) 10 (upd Mm.1 j_into (mx (Mm.1 j_x) (Mm.1 j_y))) := by rw [eF98, va_up_ne _ _ (pl_ne hFqm0_97 hFqm1_97 rfl)]; exact hFqm0_97
              have hFqm1_98 : F98 (qm 1) = cJ (cy 2) 10 (vp_updL Mm.2 j_into v94) := by rw [eF98]; exact va_up_self _ _ _
              have hFqm2_98 : F98 (qm 2) = cD (cy 0) 6 Dd.1 := by rw [eF98, va_up_ne _ _ (pl_ne hFqm2_97 hFqm1_97 rfl)]; exact hFqm2_97
              have hFqm3_98 : F98 (qm 3) = cD (cy 0) 6 Dd.2.1 := by rw [eF98, va_up_ne _ _ (pl_ne hFqm3_97 hFqm1_97 rfl)]; exact hFqm3_97
              have hFqm4_98 : F98 (qm 4) = cD (cy 0) 6 Dd.2.2.1 := by rw [eF98, va_up_ne _ _ (pl_ne hFqm4_97 hFqm1_97 rfl)]; exact hFqm4_97
              have hFqm5_98 : F98 (qm 5) = cJ (cy 2) 6 Dd.2.2.2 := by rw [eF98, va_up_ne _ _ (pl_ne hFqm5_97 hFqm1_97 rfl)]; exact hFqm5_97
              have hFqm6_98 : F98 (qm 6) = cI (cy 1) 8 Sl.1 := by rw [eF98, va_up_ne _ _ (pl_ne hFqm6_97 hFqm1_97 rfl)]; exact hFqm6_97
              have hFqm7_98 : F98 (qm 7) = cJ (cy 2) 128 Sl.2 := by rw [eF98, va_up_ne _ _ (pl_ne hFqm7_97 hFqm1_97 rfl)]; exact hFqm7_97
              have hFqm8_98 : F98 (qm 8) = cI (cy 1) 30 Pp.2.1 := by rw [eF98, va_up_ne _ _ (pl_ne hFqm8_97 hFqm1_97 rfl)]; exact hFqm8_97
              have hFqm9_98 : F98 (qm 9) = cI (cy 3) 30 Pp.2.2 := by rw [eF98, va_up_ne _ _ (pl_ne hFqm9_97 hFqm1_97 rfl)]; exact hFqm9_97
              have hFqm10_98 : F98 (qm 10) = cI (cy 1) 5 Kr.1 := by rw [eF98, va_up_ne _ _ (pl_ne hFqm10_97 hFqm1_97 rfl)]; exact hFqm10_97
              have hFqm11_98 : F98 (qm 11) = cI (cy 3) 5 Kr.2.1 := by rw [eF98, va_up_ne _ _ (pl_ne hFqm11_97 hFqm1_97 rfl)]; exact hFqm11_97
              have hFqm12_98 : F98 (qm 12) = cI (cy 1) 60 Kr.2.2 := by rw [eF98, va_up_ne _ _ (pl_ne hFqm12_97 hFqm1_97 rfl)]; exact hFqm12_97
              have hFqm13_98 : F98 (qm 13) = cI (cy 1) 4 Bk.1 := by rw [eF98, va_up_ne _ _ (pl_ne hFqm13_97 hFqm1_97 rfl)]; exact hFqm13_97
              have hFqm14_98 : F98 (qm 14) = cD (cy 0) 4 Bk.2 := by rw [eF98, va_up_ne _ _ (pl_ne hFqm14_97 hFqm1_97 rfl)]; exact hFqm14_97
              have hFqm15_98 : F98 (qm 15) = cI (cy 1) 6 Xx.2 := by rw [eF98, va_up_ne _ _ (pl_ne hFqm15_97 hFqm1_97 rfl)]; exact hFqm15_97
              refine lv_aload_n hx hb dX9_reckon_228 rfl (lv_at hl 3 rfl) ?_
              refine lv_iload hx hb dX9_reckon_229 (lv_at hl 2 rfl) ?_
              refine va_calli (va_runV (As := [.int (mx (Mm.1 j_x) (Mm.1 j_y))]) (rest := []) ⟨hx, hb, hml, hown, hts⟩ (c9_answers_0 l G cy L F98 H.size o qm 0 Pp.1 v94 hmo hFo_98 Xx.2 hm15 hFqm15_98 (mx (Mm.1 j_x) (Mm.1 j_y))) (cwV 1 hts gX9_reckon_X9_answers rfl rfl rfl (by decide +kernel) ⟨Nat.le_of_ble_eq_true rfl, Nat.le_of_ble_eq_true rfl⟩) (preV_of okQ (⟨rfl, hP, hK, hD.top⟩) (pl_recv hK hP (ci := 8) rfl hmo hFo_98)) rfl rfl hl.1 rfl (lv_room (Nat.le_of_ble_eq_true rfl)) dX9_reckon_231 ⟨Nat.le_of_ble_eq_true rfl, Nat.le_of_ble_eq_true rfl⟩) hS (fun q _ h => pl_free hD hS hA q h) (pl_free hD hS hA) (fun r100 F99 t H1 locs ht hvm hw hP1 hz1 hk1 hS => ?_)
              have hP1 : va_P G vwCl (va_pl L F99) t.heap := hP1
              rw [ht] at hP1
              have hP := hP1
              generalize H1 = H at hP hS ⊢
              obtain ⟨hqr100, eF99⟩ := hw
              have hFo_F99 : F99 o = .inr (8, [.int 0, .ref (qm 0), .ref (qm 1), .ref (qm 2), .ref (qm 3), .ref (qm 4), .ref (qm 5), .ref (qm 6), .ref (qm 7), .int Pp.1, .ref (qm 8), .ref (qm 9), .ref (qm 10), .ref (qm 11), .ref (qm 12), .ref (qm 13), .ref (qm 14), .int 0, .ref (qm 15), .long v94]) := by rw [eF99]; exact hFo_98
              have hFqm0_F99 : F99 (qm 0) = cI (cy 1) 10 (upd Mm.1 j_into (mx (Mm.1 j_x) (Mm.1 j_y))) := by rw [eF99]; exact hFqm0_98
              have hFqm1_F99 : F99 (qm 1) = cJ (cy 2) 10 (vp_updL Mm.2 j_into v94) := by rw [eF99]; exact hFqm1_98
              have hFqm2_F99 : F99 (qm 2) = cD (cy 0) 6 Dd.1 := by rw [eF99]; exact hFqm2_98
              have hFqm3_F99 : F99 (qm 3) = cD (cy 0) 6 Dd.2.1 := by rw [eF99]; exact hFqm3_98
              have hFqm4_F99 : F99 (qm 4) = cD (cy 0) 6 Dd.2.2.1 := by rw [eF99]; exact hFqm4_98
              have hFqm5_F99 : F99 (qm 5) = cJ (cy 2) 6 Dd.2.2.2 := by rw [eF99]; exact hFqm5_98
              have hFqm6_F99 : F99 (qm 6) = cI (cy 1) 8 Sl.1 := by rw [eF99]; exact hFqm6_98
              have hFqm7_F99 : F99 (qm 7) = cJ (cy 2) 128 Sl.2 := by rw [eF99]; exact hFqm7_98
              have hFqm8_F99 : F99 (qm 8) = cI (cy 1) 30 Pp.2.1 := by rw [eF99]; exact hFqm8_98
              have hFqm9_F99 : F99 (qm 9) = cI (cy 3) 30 Pp.2.2 := by rw [eF99]; exact hFqm9_98
              have hFqm10_F99 : F99 (qm 10) = cI (cy 1) 5 Kr.1 := by rw [eF99]; exact hFqm10_98
              have hFqm11_F99 : F99 (qm 11) = cI (cy 3) 5 Kr.2.1 := by rw [eF99]; exact hFqm11_98
              have hFqm12_F99 : F99 (qm 12) = cI (cy 1) 60 Kr.2.2 := by rw [eF99]; exact hFqm12_98
              have hFqm13_F99 : F99 (qm 13) = cI (cy 1) 4 Bk.1 := by rw [eF99]; exact hFqm13_98
              have hFqm14_F99 : F99 (qm 14) = cD (cy 0) 4 Bk.2 := by rw [eF99]; exact hFqm14_98
              have hFqm15_F99 : F99 (qm 15) = cI (cy 1) 6 Xx.2 := by rw [eF99]; exact hFqm15_98
              have hr100 := hqr100
              exact W.iret (v := r100) hx hb hr (fun t ht hW => ⟨⟨r100, F99, rfl, (by subst hr100 ev94 ev93 hr47 ev46 ev45 hr44 ev43 ev42 ev37; have hc140 := c86; have hsp : sp_reckon Mm Xx 2 (nI j_x) (nI j_y) (nI j_into) = (mx (Mm.1 j_x) (Mm.1 j_y), setM Mm j_into (mx (Mm.1 j_x) (Mm.1 j_y)) (rkL 2 (tn (Mm.1 j_x) (Mm.2 j_x) (mx (Mm.1 j_x) (Mm.1 j_y))) (tn (Mm.1 j_y) (Mm.2 j_y) (mx (Mm.1 j_x) (Mm.1 j_y)))).toInt32.toInt64, goodX Xx) := (by unfold sp_reckon; rw [hi_x, hi_y, hi_into, ixk.2.2.1]; show rk Mm Xx 2 j_x j_y j_into = _; unfold rk; rw [if_pos (hmx.1 h1l).2.1]; rw [if_neg (fun q => absurd q.1 (by decide)), if_pos hc140]); rw [hsp]; exact ⟨rfl, (by exact ⟨⟨_, _, hmo, hFo_F99⟩, ⟨hm0, hFqm0_F99⟩, ⟨hm1, hFqm1_F99⟩, ⟨hm2, hFqm2_F99⟩, ⟨hm3, hFqm3_F99⟩, ⟨hm4, hFqm4_F99⟩, ⟨hm5, hFqm5_F99⟩, ⟨hm6, hFqm6_F99⟩, ⟨hm7, hFqm7_F99⟩, ⟨hm8, hFqm8_F99⟩, ⟨hm9, hFqm9_F99⟩, ⟨hm10, hFqm10_F99⟩, ⟨hm11, hFqm11_F99⟩, ⟨hm12, hFqm12_F99⟩, ⟨hm13, hFqm13_F99⟩, ⟨hm14, hFqm14_F99⟩, ⟨hm15, hFqm15_F99⟩, hne⟩)⟩), (by show va_P _ _ _ t.heap; rw [ht]; exact hP)⟩, hS.F ht⟩) hS.2.2 dX9_reckon_234
        · refine lv_aload_n hx hb dX9_reckon_52 rfl (lv_at hl 0 rfl) ?_
          refine pg_get (ci := 8) (C := RX9) (T := TX9) (N := 20) hx hb hts hinX9 hown hK hP hmo hFo_40 rfl 1 (by decide) (hts (.fieldLink RX9 7 "RopeDrumsModel" "laneOf" "[I") (by decide +kernel)) (fun _ h9 => h9) rfl dX9_reckon_53 ?_
          refine lv_iload_n hx hb dX9_reckon_56 rfl (lv_at hl 2 rfl) ?_
          refine pg_iald hx hb hK hP 1 hm0 hFqm0_40 rfl (vp_in_nI (by omega) (by decide)) dX9_reckon_57 ?_
          refine lv_topi (fun v101 ev101 => ?_)
          rw [nI_clamp (by omega)] at ev101
          refine lv_aload_n hx hb dX9_reckon_58 rfl (lv_at hl 0 rfl) ?_
          refine pg_get (ci := 8) (C := RX9) (T := TX9) (N := 20) hx hb hts hinX9 hown hK hP hmo hFo_40 rfl 1 (by decide) (hts (.fieldLink RX9 7 "RopeDrumsModel" "laneOf" "[I") (by decide +kernel)) (fun _ h9 => h9) rfl dX9_reckon_59 ?_
          refine lv_iload_n hx hb dX9_reckon_62 rfl (lv_at hl 3 rfl) ?_
          refine pg_iald hx hb hK hP 1 hm0 hFqm0_40 rfl (vp_in_nI (by omega) (by decide)) dX9_reckon_63 ?_
          refine lv_topi (fun v102 ev102 => ?_)
          rw [nI_clamp (by omega)] at ev102
          refine lv_icmp_le (tgt := 76) hx hb dX9_reckon_64 (by decide) (fun c103 => ?_) (fun c103 => ?_)
          · refine lv_aload_n hx hb dX9_reckon_76 rfl (lv_at hl 0 rfl) ?_
            refine pg_get (ci := 8) (C := RX9) (T := TX9) (N := 20) hx hb hts hinX9 hown hK hP hmo hFo_40 rfl 1 (by decide) (hts (.fieldLink RX9 7 "RopeDrumsModel" "laneOf" "[I") (by decide +kernel)) (fun _ h9 => h9) rfl dX9_reckon_77 ?_
            refine lv_iload_n hx hb dX9_reckon_80 rfl (lv_at hl 3 rfl) ?_
            refine pg_iald hx hb hK hP 1 hm0 hFqm0_40 rfl (vp_in_nI (by omega) (by decide)) dX9_reckon_81 ?_
            refine lv_topi (fun v104 ev104 => ?_)
            rw [nI_clamp (by omega)] at ev104
            exact K _ ((by have hc := c103; rw [ev101, ev102] at hc; rw [ev104]; exact (if_neg (Int32.not_lt.mpr hc)).symm))
          · refine lv_aload_n hx hb dX9_reckon_67 rfl (lv_at hl 0 rfl) ?_
            refine pg_get (ci := 8) (C := RX9) (T := TX9) (N := 20) hx hb hts hinX9 hown hK hP hmo hFo_40 rfl 1 (by decide) (hts (.fieldLink RX9 7 "RopeDrumsModel" "laneOf" "[I") (by decide +kernel)) (fun _ h9 => h9) rfl dX9_reckon_68 ?_
            refine lv_iload_n hx hb dX9_reckon_71 rfl (lv_at hl 2 rfl) ?_
            refine pg_iald hx hb hK hP 1 hm0 hFqm0_40 rfl (vp_in_nI (by omega) (by decide)) dX9_reckon_72 ?_
            refine lv_topi (fun v105 ev105 => ?_)
            rw [nI_clamp (by omega)] at ev105
            refine lv_goto (tgt := 82) hx hb dX9_reckon_73 (by decide) ?_
            exact K _ ((by have hc := c103; rw [ev101, ev102] at hc; rw [ev105]; exact (if_pos (Int32.not_le.mp hc)).symm))

set_option maxHeartbeats 8000000 in
set_option maxRecDepth 100000 in
theorem n_reckon_3 (l : Launch) (G : va_G) (cy : Nat → ClassId) (L : List Nat) (F : Nat → va_E) (sz : Nat) (o : Nat) (qm : Nat → Nat) (Mm : SM) (Dd : SD) (Sl : SL) (Pp : SP) (Kr : SR) (Bk : SB) (Xx : SX) (hR : RepM cy L o qm Mm Dd Sl Pp Kr Bk Xx F) (hV : Val Mm Dd Sl Pp Kr Bk) (x y into : Int32)  : Met l yX9_reckon wsX9_reckon ({ frames := 3, cells := 0, slots := 0, locals := 73 }) (va_Pc [.ref o, .int 3, .int x, .int y, .int into] (fun U => bQ G cy L F sz U U.heap)) (va_Qi (fun (r : Int32) (F' : Nat → va_E) => r = (sp_reckon Mm Xx 3 x y into).1 ∧ RepM cy L o qm (sp_reckon Mm Xx 3 x y into).2.1 Dd Sl Pp Kr Bk (sp_reckon Mm Xx 3 x y into).2.2 F') (fun F' t => va_P G vwCl (va_pl L F') t.heap) (va_A (va_pl L F) sz)) 0 0 (va_A (va_pl L F) sz) := by
  refine Met.ofW (cc := cX9_reckon) (maxL := 10) (ret := (some .int)) (by decide) rfl ?_
  intro p e s m args below meth c s₁ B hml hv
  obtain ⟨rfl, hsz, hP, hK, hD0⟩ := hv
  have hx := B.exec
  have hb := B.bytes
  have hr := B.returns
  have hts := atoms_spec (ws := wsX9_reckon) B.pre
  have hown : s.vm.findClass RX9 = some m.cls := findClass_of_methodNamed B.named
  have hlocks := B.notSynchronized
  have hinX9 : ∀ w ∈ wsX90, w ∈ wsX9_reckon := by decide +kernel
  subst hsz
  have hD := hD0.self F s.heap.size
  generalize hAe : va_A (va_pl L F) s.heap.size = A at hD ⊢
  have hA : ∀ q : Nat, s.heap.size ≤ q → A q := fun q h => by rw [← hAe]; exact Or.inr h
  have hS : va_S A s.heap s.heap [] := va_S.rf
  obtain ⟨⟨th, oc, hmo, hFo⟩, ⟨hm0, hF0⟩, ⟨hm1, hF1⟩, ⟨hm2, hF2⟩, ⟨hm3, hF3⟩, ⟨hm4, hF4⟩, ⟨hm5, hF5⟩, ⟨hm6, hF6⟩, ⟨hm7, hF7⟩, ⟨hm8, hF8⟩, ⟨hm9, hF9⟩, ⟨hm10, hF10⟩, ⟨hm11, hF11⟩, ⟨hm12, hF12⟩, ⟨hm13, hF13⟩, ⟨hm14, hF14⟩, ⟨hm15, hF15⟩, hne⟩ := id hR
  obtain ⟨hVM, hVD, hVS, hVP, hVK, hVB⟩ := hV
  have hl := lv_entry ([.ref o, .int 3, .int x, .int y, .int into]) (n := 10) (Nat.le_of_ble_eq_true rfl)
  rw [lg_entry_eq]
  generalize (lg_sl ([.ref o, .int 3, .int x, .int y, .int into]) ++ List.replicate (10 - (lg_sl ([.ref o, .int 3, .int x, .int y, .int into])).length) Slot.unset).toArray = ls at hl ⊢
  have hl : lv_has ls 10 [(0, .ref o), (1, .int 3), (2, .int x), (3, .int y), (4, .int into)] := hl
  rcases ixc 10 x with hi_x | ⟨j_x, hj_x, hi_x, ei_x⟩
  · rcases ixc 10 y with hi_y | ⟨j_y, hj_y, hi_y, ei_y⟩
    · rcases ixc 10 into with hi_into | ⟨j_into, hj_into, hi_into, ei_into⟩
      · refine lv_aload_n hx hb dX9_reckon_0 rfl (lv_at hl 0 rfl) ?_
        refine lv_iconst (v := 0) hx hb dX9_reckon_1 (by decide) ?_
        refine pg_put (ci := 8) (v := .int 0) (ty := .int) (C := RX9) (T := TX9) (N := 20) hx hb hts hinX9 tyX9 tyX9_ok nmX9 hown hK hP hD hS hmo hFo rfl 0 (by decide) (hts (.fieldLink RX9 61 "RopeDrumsModel" "thrown" "I") (by decide +kernel)) (fun _ h9 => h9) rfl (by decide +kernel) (rfl) (rfl) (Nat.le_of_ble_eq_true rfl) dX9_reckon_2 (fun H locs F1 eF1 hP hS => ?_)
        have eF1 : F1 = va_up F o (.inr (8, [.int 0, .ref (qm 0), .ref (qm 1), .ref (qm 2), .ref (qm 3), .ref (qm 4), .ref (qm 5), .ref (qm 6), .ref (qm 7), .int Pp.1, .ref (qm 8), .ref (qm 9), .ref (qm 10), .ref (qm 11), .ref (qm 12), .ref (qm 13), .ref (qm 14), .int Xx.1, .ref (qm 15), .long oc])) := eF1
        have hFo_1 : F1 o = .inr (8, [.int 0, .ref (qm 0), .ref (qm 1), .ref (qm 2), .ref (qm 3), .ref (qm 4), .ref (qm 5), .ref (qm 6), .ref (qm 7), .int Pp.1, .ref (qm 8), .ref (qm 9), .ref (qm 10), .ref (qm 11), .ref (qm 12), .ref (qm 13), .ref (qm 14), .int Xx.1, .ref (qm 15), .long oc]) := by rw [eF1]; exact va_up_self _ _ _
        have hFqm0_1 : F1 (qm 0) = cI (cy 1) 10 Mm.1 := by rw [eF1, va_up_ne _ _ (pl_ne hF0 hFo rfl)]; exact hF0
        have hFqm1_1 : F1 (qm 1) = cJ (cy 2) 10 Mm.2 := by rw [eF1, va_up_ne _ _ (pl_ne hF1 hFo rfl)]; exact hF1
        have hFqm2_1 : F1 (qm 2) = cD (cy 0) 6 Dd.1 := by rw [eF1, va_up_ne _ _ (pl_ne hF2 hFo rfl)]; exact hF2
        have hFqm3_1 : F1 (qm 3) = cD (cy 0) 6 Dd.2.1 := by rw [eF1, va_up_ne _ _ (pl_ne hF3 hFo rfl)]; exact hF3
        have hFqm4_1 : F1 (qm 4) = cD (cy 0) 6 Dd.2.2.1 := by rw [eF1, va_up_ne _ _ (pl_ne hF4 hFo rfl)]; exact hF4
        have hFqm5_1 : F1 (qm 5) = cJ (cy 2) 6 Dd.2.2.2 := by rw [eF1, va_up_ne _ _ (pl_ne hF5 hFo rfl)]; exact hF5
        have hFqm6_1 : F1 (qm 6) = cI (cy 1) 8 Sl.1 := by rw [eF1, va_up_ne _ _ (pl_ne hF6 hFo rfl)]; exact hF6
        have hFqm7_1 : F1 (qm 7) = cJ (cy 2) 128 Sl.2 := by rw [eF1, va_up_ne _ _ (pl_ne hF7 hFo rfl)]; exact hF7
        have hFqm8_1 : F1 (qm 8) = cI (cy 1) 30 Pp.2.1 := by rw [eF1, va_up_ne _ _ (pl_ne hF8 hFo rfl)]; exact hF8
        have hFqm9_1 : F1 (qm 9) = cI (cy 3) 30 Pp.2.2 := by rw [eF1, va_up_ne _ _ (pl_ne hF9 hFo rfl)]; exact hF9
        have hFqm10_1 : F1 (qm 10) = cI (cy 1) 5 Kr.1 := by rw [eF1, va_up_ne _ _ (pl_ne hF10 hFo rfl)]; exact hF10
        have hFqm11_1 : F1 (qm 11) = cI (cy 3) 5 Kr.2.1 := by rw [eF1, va_up_ne _ _ (pl_ne hF11 hFo rfl)]; exact hF11
        have hFqm12_1 : F1 (qm 12) = cI (cy 1) 60 Kr.2.2 := by rw [eF1, va_up_ne _ _ (pl_ne hF12 hFo rfl)]; exact hF12
        have hFqm13_1 : F1 (qm 13) = cI (cy 1) 4 Bk.1 := by rw [eF1, va_up_ne _ _ (pl_ne hF13 hFo rfl)]; exact hF13
        have hFqm14_1 : F1 (qm 14) = cD (cy 0) 4 Bk.2 := by rw [eF1, va_up_ne _ _ (pl_ne hF14 hFo rfl)]; exact hF14
        have hFqm15_1 : F1 (qm 15) = cI (cy 1) 6 Xx.2 := by rw [eF1, va_up_ne _ _ (pl_ne hF15 hFo rfl)]; exact hF15
        refine lv_iload_n hx hb dX9_reckon_5 rfl (lv_at hl 2 rfl) ?_
        refine vp_callSi (W.runS (As := [.int x]) (rest := []) ⟨hx, hb, hml, hown, hts⟩ (c9_isMeter l x) (va_cwS 1 hts gX9_reckon_X9_isMeter rfl rfl rfl (by decide +kernel) ⟨Nat.le_of_ble_eq_true rfl, Nat.le_of_ble_eq_true rfl⟩) (preS_of okT (trivial)) rfl rfl hl.1 rfl (lv_room (Nat.le_of_ble_eq_true rfl)) dX9_reckon_6 ⟨Nat.le_of_ble_eq_true rfl, Nat.le_of_ble_eq_true rfl⟩) (fun r2 hr2 => ?_)
        rw [isx0 hi_x] at hr2
        subst hr2
        refine lv_if_eq (tgt := 27) hx hb dX9_reckon_9 (by decide) (fun c3 => ?_) (fun c3 => absurd (by decide) c3)
        refine lv_sipush (v := -1001) hx hb dX9_reckon_27 (by decide) ?_
        exact W.iret (v := -1001) hx hb hr (fun t ht hW => ⟨⟨-1001, F1, rfl, (by have hsp : sp_reckon Mm Xx 3 x y into = (-1001, Mm, Xx) := (by unfold sp_reckon; rw [hi_x]); rw [hsp]; exact ⟨rfl, (by exact ⟨⟨_, _, hmo, hFo_1⟩, ⟨hm0, hFqm0_1⟩, ⟨hm1, hFqm1_1⟩, ⟨hm2, hFqm2_1⟩, ⟨hm3, hFqm3_1⟩, ⟨hm4, hFqm4_1⟩, ⟨hm5, hFqm5_1⟩, ⟨hm6, hFqm6_1⟩, ⟨hm7, hFqm7_1⟩, ⟨hm8, hFqm8_1⟩, ⟨hm9, hFqm9_1⟩, ⟨hm10, hFqm10_1⟩, ⟨hm11, hFqm11_1⟩, ⟨hm12, hFqm12_1⟩, ⟨hm13, hFqm13_1⟩, ⟨hm14, hFqm14_1⟩, ⟨hm15, hFqm15_1⟩, hne⟩)⟩), (by show va_P _ _ _ t.heap; rw [ht]; exact hP)⟩, hS.F ht⟩) hS.2.2 dX9_reckon_30
      · subst ei_into
        refine lv_aload_n hx hb dX9_reckon_0 rfl (lv_at hl 0 rfl) ?_
        refine lv_iconst (v := 0) hx hb dX9_reckon_1 (by decide) ?_
        refine pg_put (ci := 8) (v := .int 0) (ty := .int) (C := RX9) (T := TX9) (N := 20) hx hb hts hinX9 tyX9 tyX9_ok nmX9 hown hK hP hD hS hmo hFo rfl 0 (by decide) (hts (.fieldLink RX9 61 "RopeDrumsModel" "thrown" "I") (by decide +kernel)) (fun _ h9 => h9) rfl (by decide +kernel) (rfl) (rfl) (Nat.le_of_ble_eq_true rfl) dX9_reckon_2 (fun H locs F4 eF4 hP hS => ?_)
        have eF4 : F4 = va_up F o (.inr (8, [.int 0, .ref (qm 0), .ref (qm 1), .ref (qm 2), .ref (qm 3), .ref (qm 4), .ref (qm 5), .ref (qm 6), .ref (qm 7), .int Pp.1, .ref (qm 8), .ref (qm 9), .ref (qm 10), .ref (qm 11), .ref (qm 12), .ref (qm 13), .ref (qm 14), .int Xx.1, .ref (qm 15), .long oc])) := eF4
        have hFo_4 : F4 o = .inr (8, [.int 0, .ref (qm 0), .ref (qm 1), .ref (qm 2), .ref (qm 3), .ref (qm 4), .ref (qm 5), .ref (qm 6), .ref (qm 7), .int Pp.1, .ref (qm 8), .ref (qm 9), .ref (qm 10), .ref (qm 11), .ref (qm 12), .ref (qm 13), .ref (qm 14), .int Xx.1, .ref (qm 15), .long oc]) := by rw [eF4]; exact va_up_self _ _ _
        have hFqm0_4 : F4 (qm 0) = cI (cy 1) 10 Mm.1 := by rw [eF4, va_up_ne _ _ (pl_ne hF0 hFo rfl)]; exact hF0
        have hFqm1_4 : F4 (qm 1) = cJ (cy 2) 10 Mm.2 := by rw [eF4, va_up_ne _ _ (pl_ne hF1 hFo rfl)]; exact hF1
        have hFqm2_4 : F4 (qm 2) = cD (cy 0) 6 Dd.1 := by rw [eF4, va_up_ne _ _ (pl_ne hF2 hFo rfl)]; exact hF2
        have hFqm3_4 : F4 (qm 3) = cD (cy 0) 6 Dd.2.1 := by rw [eF4, va_up_ne _ _ (pl_ne hF3 hFo rfl)]; exact hF3
        have hFqm4_4 : F4 (qm 4) = cD (cy 0) 6 Dd.2.2.1 := by rw [eF4, va_up_ne _ _ (pl_ne hF4 hFo rfl)]; exact hF4
        have hFqm5_4 : F4 (qm 5) = cJ (cy 2) 6 Dd.2.2.2 := by rw [eF4, va_up_ne _ _ (pl_ne hF5 hFo rfl)]; exact hF5
        have hFqm6_4 : F4 (qm 6) = cI (cy 1) 8 Sl.1 := by rw [eF4, va_up_ne _ _ (pl_ne hF6 hFo rfl)]; exact hF6
        have hFqm7_4 : F4 (qm 7) = cJ (cy 2) 128 Sl.2 := by rw [eF4, va_up_ne _ _ (pl_ne hF7 hFo rfl)]; exact hF7
        have hFqm8_4 : F4 (qm 8) = cI (cy 1) 30 Pp.2.1 := by rw [eF4, va_up_ne _ _ (pl_ne hF8 hFo rfl)]; exact hF8
        have hFqm9_4 : F4 (qm 9) = cI (cy 3) 30 Pp.2.2 := by rw [eF4, va_up_ne _ _ (pl_ne hF9 hFo rfl)]; exact hF9
        have hFqm10_4 : F4 (qm 10) = cI (cy 1) 5 Kr.1 := by rw [eF4, va_up_ne _ _ (pl_ne hF10 hFo rfl)]; exact hF10
        have hFqm11_4 : F4 (qm 11) = cI (cy 3) 5 Kr.2.1 := by rw [eF4, va_up_ne _ _ (pl_ne hF11 hFo rfl)]; exact hF11
        have hFqm12_4 : F4 (qm 12) = cI (cy 1) 60 Kr.2.2 := by rw [eF4, va_up_ne _ _ (pl_ne hF12 hFo rfl)]; exact hF12
        have hFqm13_4 : F4 (qm 13) = cI (cy 1) 4 Bk.1 := by rw [eF4, va_up_ne _ _ (pl_ne hF13 hFo rfl)]; exact hF13
        have hFqm14_4 : F4 (qm 14) = cD (cy 0) 4 Bk.2 := by rw [eF4, va_up_ne _ _ (pl_ne hF14 hFo rfl)]; exact hF14
        have hFqm15_4 : F4 (qm 15) = cI (cy 1) 6 Xx.2 := by rw [eF4, va_up_ne _ _ (pl_ne hF15 hFo rfl)]; exact hF15
        refine lv_iload_n hx hb dX9_reckon_5 rfl (lv_at hl 2 rfl) ?_
        refine vp_callSi (W.runS (As := [.int x]) (rest := []) ⟨hx, hb, hml, hown, hts⟩ (c9_isMeter l x) (va_cwS 1 hts gX9_reckon_X9_isMeter rfl rfl rfl (by decide +kernel) ⟨Nat.le_of_ble_eq_true rfl, Nat.le_of_ble_eq_true rfl⟩) (preS_of okT (trivial)) rfl rfl hl.1 rfl (lv_room (Nat.le_of_ble_eq_true rfl)) dX9_reckon_6 ⟨Nat.le_of_ble_eq_true rfl, Nat.le_of_ble_eq_true rfl⟩) (fun r5 hr5 => ?_)
        rw [isx0 hi_x] at hr5
        subst hr5
        refine lv_if_eq (tgt := 27) hx hb dX9_reckon_9 (by decide) (fun c6 => ?_) (fun c6 => absurd (by decide) c6)
        refine lv_sipush (v := -1001) hx hb dX9_reckon_27 (by decide) ?_
        exact W.iret (v := -1001) hx hb hr (fun t ht hW => ⟨⟨-1001, F4, rfl, (by have hsp : sp_reckon Mm Xx 3 x y (nI j_into) = (-1001, Mm, Xx) := (by unfold sp_reckon; rw [hi_x]); rw [hsp]; exact ⟨rfl, (by exact ⟨⟨_, _, hmo, hFo_4⟩, ⟨hm0, hFqm0_4⟩, ⟨hm1, hFqm1_4⟩, ⟨hm2, hFqm2_4⟩, ⟨hm3, hFqm3_4⟩, ⟨hm4, hFqm4_4⟩, ⟨hm5, hFqm5_4⟩, ⟨hm6, hFqm6_4⟩, ⟨hm7, hFqm7_4⟩, ⟨hm8, hFqm8_4⟩, ⟨hm9, hFqm9_4⟩, ⟨hm10, hFqm10_4⟩, ⟨hm11, hFqm11_4⟩, ⟨hm12, hFqm12_4⟩, ⟨hm13, hFqm13_4⟩, ⟨hm14, hFqm14_4⟩, ⟨hm15, hFqm15_4⟩, hne⟩)⟩), (by show va_P _ _ _ t.heap; rw [ht]; exact hP)⟩, hS.F ht⟩) hS.2.2 dX9_reckon_30
    · subst ei_y
      rcases ixc 10 into with hi_into | ⟨j_into, hj_into, hi_into, ei_into⟩
      · refine lv_aload_n hx hb dX9_reckon_0 rfl (lv_at hl 0 rfl) ?_
        refine lv_iconst (v := 0) hx hb dX9_reckon_1 (by decide) ?_
        refine pg_put (ci := 8) (v := .int 0) (ty := .int) (C := RX9) (T := TX9) (N := 20) hx hb hts hinX9 tyX9 tyX9_ok nmX9 hown hK hP hD hS hmo hFo rfl 0 (by decide) (hts (.fieldLink RX9 61 "RopeDrumsModel" "thrown" "I") (by decide +kernel)) (fun _ h9 => h9) rfl (by decide +kernel) (rfl) (rfl) (Nat.le_of_ble_eq_true rfl) dX9_reckon_2 (fun H locs F7 eF7 hP hS => ?_)
        have eF7 : F7 = va_up F o (.inr (8, [.int 0, .ref (qm 0), .ref (qm 1), .ref (qm 2), .ref (qm 3), .ref (qm 4), .ref (qm 5), .ref (qm 6), .ref (qm 7), .int Pp.1, .ref (qm 8), .ref (qm 9), .ref (qm 10), .ref (qm 11), .ref (qm 12), .ref (qm 13), .ref (qm 14), .int Xx.1, .ref (qm 15), .long oc])) := eF7
        have hFo_7 : F7 o = .inr (8, [.int 0, .ref (qm 0), .ref (qm 1), .ref (qm 2), .ref (qm 3), .ref (qm 4), .ref (qm 5), .ref (qm 6), .ref (qm 7), .int Pp.1, .ref (qm 8), .ref (qm 9), .ref (qm 10), .ref (qm 11), .ref (qm 12), .ref (qm 13), .ref (qm 14), .int Xx.1, .ref (qm 15), .long oc]) := by rw [eF7]; exact va_up_self _ _ _
        have hFqm0_7 : F7 (qm 0) = cI (cy 1) 10 Mm.1 := by rw [eF7, va_up_ne _ _ (pl_ne hF0 hFo rfl)]; exact hF0
        have hFqm1_7 : F7 (qm 1) = cJ (cy 2) 10 Mm.2 := by rw [eF7, va_up_ne _ _ (pl_ne hF1 hFo rfl)]; exact hF1
        have hFqm2_7 : F7 (qm 2) = cD (cy 0) 6 Dd.1 := by rw [eF7, va_up_ne _ _ (pl_ne hF2 hFo rfl)]; exact hF2
        have hFqm3_7 : F7 (qm 3) = cD (cy 0) 6 Dd.2.1 := by rw [eF7, va_up_ne _ _ (pl_ne hF3 hFo rfl)]; exact hF3
        have hFqm4_7 : F7 (qm 4) = cD (cy 0) 6 Dd.2.2.1 := by rw [eF7, va_up_ne _ _ (pl_ne hF4 hFo rfl)]; exact hF4
        have hFqm5_7 : F7 (qm 5) = cJ (cy 2) 6 Dd.2.2.2 := by rw [eF7, va_up_ne _ _ (pl_ne hF5 hFo rfl)]; exact hF5
        have hFqm6_7 : F7 (qm 6) = cI (cy 1) 8 Sl.1 := by rw [eF7, va_up_ne _ _ (pl_ne hF6 hFo rfl)]; exact hF6
        have hFqm7_7 : F7 (qm 7) = cJ (cy 2) 128 Sl.2 := by rw [eF7, va_up_ne _ _ (pl_ne hF7 hFo rfl)]; exact hF7
        have hFqm8_7 : F7 (qm 8) = cI (cy 1) 30 Pp.2.1 := by rw [eF7, va_up_ne _ _ (pl_ne hF8 hFo rfl)]; exact hF8
        have hFqm9_7 : F7 (qm 9) = cI (cy 3) 30 Pp.2.2 := by rw [eF7, va_up_ne _ _ (pl_ne hF9 hFo rfl)]; exact hF9
        have hFqm10_7 : F7 (qm 10) = cI (cy 1) 5 Kr.1 := by rw [eF7, va_up_ne _ _ (pl_ne hF10 hFo rfl)]; exact hF10
        have hFqm11_7 : F7 (qm 11) = cI (cy 3) 5 Kr.2.1 := by rw [eF7, va_up_ne _ _ (pl_ne hF11 hFo rfl)]; exact hF11
        have hFqm12_7 : F7 (qm 12) = cI (cy 1) 60 Kr.2.2 := by rw [eF7, va_up_ne _ _ (pl_ne hF12 hFo rfl)]; exact hF12
        have hFqm13_7 : F7 (qm 13) = cI (cy 1) 4 Bk.1 := by rw [eF7, va_up_ne _ _ (pl_ne hF13 hFo rfl)]; exact hF13
        have hFqm14_7 : F7 (qm 14) = cD (cy 0) 4 Bk.2 := by rw [eF7, va_up_ne _ _ (pl_ne hF14 hFo rfl)]; exact hF14
        have hFqm15_7 : F7 (qm 15) = cI (cy 1) 6 Xx.2 := by rw [eF7, va_up_ne _ _ (pl_ne hF15 hFo rfl)]; exact hF15
        refine lv_iload_n hx hb dX9_reckon_5 rfl (lv_at hl 2 rfl) ?_
        refine vp_callSi (W.runS (As := [.int x]) (rest := []) ⟨hx, hb, hml, hown, hts⟩ (c9_isMeter l x) (va_cwS 1 hts gX9_reckon_X9_isMeter rfl rfl rfl (by decide +kernel) ⟨Nat.le_of_ble_eq_true rfl, Nat.le_of_ble_eq_true rfl⟩) (preS_of okT (trivial)) rfl rfl hl.1 rfl (lv_room (Nat.le_of_ble_eq_true rfl)) dX9_reckon_6 ⟨Nat.le_of_ble_eq_true rfl, Nat.le_of_ble_eq_true rfl⟩) (fun r8 hr8 => ?_)
        rw [isx0 hi_x] at hr8
        subst hr8
        refine lv_if_eq (tgt := 27) hx hb dX9_reckon_9 (by decide) (fun c9 => ?_) (fun c9 => absurd (by decide) c9)
        refine lv_sipush (v := -1001) hx hb dX9_reckon_27 (by decide) ?_
        exact W.iret (v := -1001) hx hb hr (fun t ht hW => ⟨⟨-1001, F7, rfl, (by have hsp : sp_reckon Mm Xx 3 x (nI j_y) into = (-1001, Mm, Xx) := (by unfold sp_reckon; rw [hi_x]); rw [hsp]; exact ⟨rfl, (by exact ⟨⟨_, _, hmo, hFo_7⟩, ⟨hm0, hFqm0_7⟩, ⟨hm1, hFqm1_7⟩, ⟨hm2, hFqm2_7⟩, ⟨hm3, hFqm3_7⟩, ⟨hm4, hFqm4_7⟩, ⟨hm5, hFqm5_7⟩, ⟨hm6, hFqm6_7⟩, ⟨hm7, hFqm7_7⟩, ⟨hm8, hFqm8_7⟩, ⟨hm9, hFqm9_7⟩, ⟨hm10, hFqm10_7⟩, ⟨hm11, hFqm11_7⟩, ⟨hm12, hFqm12_7⟩, ⟨hm13, hFqm13_7⟩, ⟨hm14, hFqm14_7⟩, ⟨hm15, hFqm15_7⟩, hne⟩)⟩), (by show va_P _ _ _ t.heap; rw [ht]; exact hP)⟩, hS.F ht⟩) hS.2.2 dX9_reckon_30
      · subst ei_into
        refine lv_aload_n hx hb dX9_reckon_0 rfl (lv_at hl 0 rfl) ?_
        refine lv_iconst (v := 0) hx hb dX9_reckon_1 (by decide) ?_
        refine pg_put (ci := 8) (v := .int 0) (ty := .int) (C := RX9) (T := TX9) (N := 20) hx hb hts hinX9 tyX9 tyX9_ok nmX9 hown hK hP hD hS hmo hFo rfl 0 (by decide) (hts (.fieldLink RX9 61 "RopeDrumsModel" "thrown" "I") (by decide +kernel)) (fun _ h9 => h9) rfl (by decide +kernel) (rfl) (rfl) (Nat.le_of_ble_eq_true rfl) dX9_reckon_2 (fun H locs F10 eF10 hP hS => ?_)
        have eF10 : F10 = va_up F o (.inr (8, [.int 0, .ref (qm 0), .ref (qm 1), .ref (qm 2), .ref (qm 3), .ref (qm 4), .ref (qm 5), .ref (qm 6), .ref (qm 7), .int Pp.1, .ref (qm 8), .ref (qm 9), .ref (qm 10), .ref (qm 11), .ref (qm 12), .ref (qm 13), .ref (qm 14), .int Xx.1, .ref (qm 15), .long oc])) := eF10
        have hFo_10 : F10 o = .inr (8, [.int 0, .ref (qm 0), .ref (qm 1), .ref (qm 2), .ref (qm 3), .ref (qm 4), .ref (qm 5), .ref (qm 6), .ref (qm 7), .int Pp.1, .ref (qm 8), .ref (qm 9), .ref (qm 10), .ref (qm 11), .ref (qm 12), .ref (qm 13), .ref (qm 14), .int Xx.1, .ref (qm 15), .long oc]) := by rw [eF10]; exact va_up_self _ _ _
        have hFqm0_10 : F10 (qm 0) = cI (cy 1) 10 Mm.1 := by rw [eF10, va_up_ne _ _ (pl_ne hF0 hFo rfl)]; exact hF0
        have hFqm1_10 : F10 (qm 1) = cJ (cy 2) 10 Mm.2 := by rw [eF10, va_up_ne _ _ (pl_ne hF1 hFo rfl)]; exact hF1
        have hFqm2_10 : F10 (qm 2) = cD (cy 0) 6 Dd.1 := by rw [eF10, va_up_ne _ _ (pl_ne hF2 hFo rfl)]; exact hF2
        have hFqm3_10 : F10 (qm 3) = cD (cy 0) 6 Dd.2.1 := by rw [eF10, va_up_ne _ _ (pl_ne hF3 hFo rfl)]; exact hF3
        have hFqm4_10 : F10 (qm 4) = cD (cy 0) 6 Dd.2.2.1 := by rw [eF10, va_up_ne _ _ (pl_ne hF4 hFo rfl)]; exact hF4
        have hFqm5_10 : F10 (qm 5) = cJ (cy 2) 6 Dd.2.2.2 := by rw [eF10, va_up_ne _ _ (pl_ne hF5 hFo rfl)]; exact hF5
        have hFqm6_10 : F10 (qm 6) = cI (cy 1) 8 Sl.1 := by rw [eF10, va_up_ne _ _ (pl_ne hF6 hFo rfl)]; exact hF6
        have hFqm7_10 : F10 (qm 7) = cJ (cy 2) 128 Sl.2 := by rw [eF10, va_up_ne _ _ (pl_ne hF7 hFo rfl)]; exact hF7
        have hFqm8_10 : F10 (qm 8) = cI (cy 1) 30 Pp.2.1 := by rw [eF10, va_up_ne _ _ (pl_ne hF8 hFo rfl)]; exact hF8
        have hFqm9_10 : F10 (qm 9) = cI (cy 3) 30 Pp.2.2 := by rw [eF10, va_up_ne _ _ (pl_ne hF9 hFo rfl)]; exact hF9
        have hFqm10_10 : F10 (qm 10) = cI (cy 1) 5 Kr.1 := by rw [eF10, va_up_ne _ _ (pl_ne hF10 hFo rfl)]; exact hF10
        have hFqm11_10 : F10 (qm 11) = cI (cy 3) 5 Kr.2.1 := by rw [eF10, va_up_ne _ _ (pl_ne hF11 hFo rfl)]; exact hF11
        have hFqm12_10 : F10 (qm 12) = cI (cy 1) 60 Kr.2.2 := by rw [eF10, va_up_ne _ _ (pl_ne hF12 hFo rfl)]; exact hF12
        have hFqm13_10 : F10 (qm 13) = cI (cy 1) 4 Bk.1 := by rw [eF10, va_up_ne _ _ (pl_ne hF13 hFo rfl)]; exact hF13
        have hFqm14_10 : F10 (qm 14) = cD (cy 0) 4 Bk.2 := by rw [eF10, va_up_ne _ _ (pl_ne hF14 hFo rfl)]; exact hF14
        have hFqm15_10 : F10 (qm 15) = cI (cy 1) 6 Xx.2 := by rw [eF10, va_up_ne _ _ (pl_ne hF15 hFo rfl)]; exact hF15
        refine lv_iload_n hx hb dX9_reckon_5 rfl (lv_at hl 2 rfl) ?_
        refine vp_callSi (W.runS (As := [.int x]) (rest := []) ⟨hx, hb, hml, hown, hts⟩ (c9_isMeter l x) (va_cwS 1 hts gX9_reckon_X9_isMeter rfl rfl rfl (by decide +kernel) ⟨Nat.le_of_ble_eq_true rfl, Nat.le_of_ble_eq_true rfl⟩) (preS_of okT (trivial)) rfl rfl hl.1 rfl (lv_room (Nat.le_of_ble_eq_true rfl)) dX9_reckon_6 ⟨Nat.le_of_ble_eq_true rfl, Nat.le_of_ble_eq_true rfl⟩) (fun r11 hr11 => ?_)
        rw [isx0 hi_x] at hr11
        subst hr11
        refine lv_if_eq (tgt := 27) hx hb dX9_reckon_9 (by decide) (fun c12 => ?_) (fun c12 => absurd (by decide) c12)
        refine lv_sipush (v := -1001) hx hb dX9_reckon_27 (by decide) ?_
        exact W.iret (v := -1001) hx hb hr (fun t ht hW => ⟨⟨-1001, F10, rfl, (by have hsp : sp_reckon Mm Xx 3 x (nI j_y) (nI j_into) = (-1001, Mm, Xx) := (by unfold sp_reckon; rw [hi_x]); rw [hsp]; exact ⟨rfl, (by exact ⟨⟨_, _, hmo, hFo_10⟩, ⟨hm0, hFqm0_10⟩, ⟨hm1, hFqm1_10⟩, ⟨hm2, hFqm2_10⟩, ⟨hm3, hFqm3_10⟩, ⟨hm4, hFqm4_10⟩, ⟨hm5, hFqm5_10⟩, ⟨hm6, hFqm6_10⟩, ⟨hm7, hFqm7_10⟩, ⟨hm8, hFqm8_10⟩, ⟨hm9, hFqm9_10⟩, ⟨hm10, hFqm10_10⟩, ⟨hm11, hFqm11_10⟩, ⟨hm12, hFqm12_10⟩, ⟨hm13, hFqm13_10⟩, ⟨hm14, hFqm14_10⟩, ⟨hm15, hFqm15_10⟩, hne⟩)⟩), (by show va_P _ _ _ t.heap; rw [ht]; exact hP)⟩, hS.F ht⟩) hS.2.2 dX9_reckon_30
  · subst ei_x
    rcases ixc 10 y with hi_y | ⟨j_y, hj_y, hi_y, ei_y⟩
    · rcases ixc 10 into with hi_into | ⟨j_into, hj_into, hi_into, ei_into⟩
      · refine lv_aload_n hx hb dX9_reckon_0 rfl (lv_at hl 0 rfl) ?_
        refine lv_iconst (v := 0) hx hb dX9_reckon_1 (by decide) ?_
        refine pg_put (ci := 8) (v := .int 0) (ty := .int) (C := RX9) (T := TX9) (N := 20) hx hb hts hinX9 tyX9 tyX9_ok nmX9 hown hK hP hD hS hmo hFo rfl 0 (by decide) (hts (.fieldLink RX9 61 "RopeDrumsModel" "thrown" "I") (by decide +kernel)) (fun _ h9 => h9) rfl (by decide +kernel) (rfl) (rfl) (Nat.le_of_ble_eq_true rfl) dX9_reckon_2 (fun H locs F13 eF13 hP hS => ?_)
        have eF13 : F13 = va_up F o (.inr (8, [.int 0, .ref (qm 0), .ref (qm 1), .ref (qm 2), .ref (qm 3), .ref (qm 4), .ref (qm 5), .ref (qm 6), .ref (qm 7), .int Pp.1, .ref (qm 8), .ref (qm 9), .ref (qm 10), .ref (qm 11), .ref (qm 12), .ref (qm 13), .ref (qm 14), .int Xx.1, .ref (qm 15), .long oc])) := eF13
        have hFo_13 : F13 o = .inr (8, [.int 0, .ref (qm 0), .ref (qm 1), .ref (qm 2), .ref (qm 3), .ref (qm 4), .ref (qm 5), .ref (qm 6), .ref (qm 7), .int Pp.1, .ref (qm 8), .ref (qm 9), .ref (qm 10), .ref (qm 11), .ref (qm 12), .ref (qm 13), .ref (qm 14), .int Xx.1, .ref (qm 15), .long oc]) := by rw [eF13]; exact va_up_self _ _ _
        have hFqm0_13 : F13 (qm 0) = cI (cy 1) 10 Mm.1 := by rw [eF13, va_up_ne _ _ (pl_ne hF0 hFo rfl)]; exact hF0
        have hFqm1_13 : F13 (qm 1) = cJ (cy 2) 10 Mm.2 := by rw [eF13, va_up_ne _ _ (pl_ne hF1 hFo rfl)]; exact hF1
        have hFqm2_13 : F13 (qm 2) = cD (cy 0) 6 Dd.1 := by rw [eF13, va_up_ne _ _ (pl_ne hF2 hFo rfl)]; exact hF2
        have hFqm3_13 : F13 (qm 3) = cD (cy 0) 6 Dd.2.1 := by rw [eF13, va_up_ne _ _ (pl_ne hF3 hFo rfl)]; exact hF3
        have hFqm4_13 : F13 (qm 4) = cD (cy 0) 6 Dd.2.2.1 := by rw [eF13, va_up_ne _ _ (pl_ne hF4 hFo rfl)]; exact hF4
        have hFqm5_13 : F13 (qm 5) = cJ (cy 2) 6 Dd.2.2.2 := by rw [eF13, va_up_ne _ _ (pl_ne hF5 hFo rfl)]; exact hF5
        have hFqm6_13 : F13 (qm 6) = cI (cy 1) 8 Sl.1 := by rw [eF13, va_up_ne _ _ (pl_ne hF6 hFo rfl)]; exact hF6
        have hFqm7_13 : F13 (qm 7) = cJ (cy 2) 128 Sl.2 := by rw [eF13, va_up_ne _ _ (pl_ne hF7 hFo rfl)]; exact hF7
        have hFqm8_13 : F13 (qm 8) = cI (cy 1) 30 Pp.2.1 := by rw [eF13, va_up_ne _ _ (pl_ne hF8 hFo rfl)]; exact hF8
        have hFqm9_13 : F13 (qm 9) = cI (cy 3) 30 Pp.2.2 := by rw [eF13, va_up_ne _ _ (pl_ne hF9 hFo rfl)]; exact hF9
        have hFqm10_13 : F13 (qm 10) = cI (cy 1) 5 Kr.1 := by rw [eF13, va_up_ne _ _ (pl_ne hF10 hFo rfl)]; exact hF10
        have hFqm11_13 : F13 (qm 11) = cI (cy 3) 5 Kr.2.1 := by rw [eF13, va_up_ne _ _ (pl_ne hF11 hFo rfl)]; exact hF11
        have hFqm12_13 : F13 (qm 12) = cI (cy 1) 60 Kr.2.2 := by rw [eF13, va_up_ne _ _ (pl_ne hF12 hFo rfl)]; exact hF12
        have hFqm13_13 : F13 (qm 13) = cI (cy 1) 4 Bk.1 := by rw [eF13, va_up_ne _ _ (pl_ne hF13 hFo rfl)]; exact hF13
        have hFqm14_13 : F13 (qm 14) = cD (cy 0) 4 Bk.2 := by rw [eF13, va_up_ne _ _ (pl_ne hF14 hFo rfl)]; exact hF14
        have hFqm15_13 : F13 (qm 15) = cI (cy 1) 6 Xx.2 := by rw [eF13, va_up_ne _ _ (pl_ne hF15 hFo rfl)]; exact hF15
        refine lv_iload_n hx hb dX9_reckon_5 rfl (lv_at hl 2 rfl) ?_
        refine vp_callSi (W.runS (As := [.int (nI j_x)]) (rest := []) ⟨hx, hb, hml, hown, hts⟩ (c9_isMeter l (nI j_x)) (va_cwS 1 hts gX9_reckon_X9_isMeter rfl rfl rfl (by decide +kernel) ⟨Nat.le_of_ble_eq_true rfl, Nat.le_of_ble_eq_true rfl⟩) (preS_of okT (trivial)) rfl rfl hl.1 rfl (lv_room (Nat.le_of_ble_eq_true rfl)) dX9_reckon_6 ⟨Nat.le_of_ble_eq_true rfl, Nat.le_of_ble_eq_true rfl⟩) (fun r14 hr14 => ?_)
        rw [isx1 hi_x] at hr14
        subst hr14
        refine lv_if_eq (tgt := 27) hx hb dX9_reckon_9 (by decide) (fun c15 => absurd c15 (by decide)) (fun c15 => ?_)
        refine lv_iload_n hx hb dX9_reckon_12 rfl (lv_at hl 3 rfl) ?_
        refine vp_callSi (W.runS (As := [.int y]) (rest := []) ⟨hx, hb, hml, hown, hts⟩ (c9_isMeter l y) (va_cwS 1 hts gX9_reckon_X9_isMeter rfl rfl rfl (by decide +kernel) ⟨Nat.le_of_ble_eq_true rfl, Nat.le_of_ble_eq_true rfl⟩) (preS_of okT (trivial)) rfl rfl hl.1 rfl (lv_room (Nat.le_of_ble_eq_true rfl)) dX9_reckon_13 ⟨Nat.le_of_ble_eq_true rfl, Nat.le_of_ble_eq_true rfl⟩) (fun r16 hr16 => ?_)
        rw [isx0 hi_y] at hr16
        subst hr16
        refine lv_if_eq (tgt := 27) hx hb dX9_reckon_16 (by decide) (fun c17 => ?_) (fun c17 => absurd (by decide) c17)
        refine lv_sipush (v := -1001) hx hb dX9_reckon_27 (by decide) ?_
        exact W.iret (v := -1001) hx hb hr (fun t ht hW => ⟨⟨-1001, F13, rfl, (by have hsp : sp_reckon Mm Xx 3 (nI j_x) y into = (-1001, Mm, Xx) := (by unfold sp_reckon; rw [hi_x, hi_y]); rw [hsp]; exact ⟨rfl, (by exact ⟨⟨_, _, hmo, hFo_13⟩, ⟨hm0, hFqm0_13⟩, ⟨hm1, hFqm1_13⟩, ⟨hm2, hFqm2_13⟩, ⟨hm3, hFqm3_13⟩, ⟨hm4, hFqm4_13⟩, ⟨hm5, hFqm5_13⟩, ⟨hm6, hFqm6_13⟩, ⟨hm7, hFqm7_13⟩, ⟨hm8, hFqm8_13⟩, ⟨hm9, hFqm9_13⟩, ⟨hm10, hFqm10_13⟩, ⟨hm11, hFqm11_13⟩, ⟨hm12, hFqm12_13⟩, ⟨hm13, hFqm13_13⟩, ⟨hm14, hFqm14_13⟩, ⟨hm15, hFqm15_13⟩, hne⟩)⟩), (by show va_P _ _ _ t.heap; rw [ht]; exact hP)⟩, hS.F ht⟩) hS.2.2 dX9_reckon_30
      · subst ei_into
        refine lv_aload_n hx hb dX9_reckon_0 rfl (lv_at hl 0 rfl) ?_
        refine lv_iconst (v := 0) hx hb dX9_reckon_1 (by decide) ?_
        refine pg_put (ci := 8) (v := .int 0) (ty := .int) (C := RX9) (T := TX9) (N := 20) hx hb hts hinX9 tyX9 tyX9_ok nmX9 hown hK hP hD hS hmo hFo rfl 0 (by decide) (hts (.fieldLink RX9 61 "RopeDrumsModel" "thrown" "I") (by decide +kernel)) (fun _ h9 => h9) rfl (by decide +kernel) (rfl) (rfl) (Nat.le_of_ble_eq_true rfl) dX9_reckon_2 (fun H locs F18 eF18 hP hS => ?_)
        have eF18 : F18 = va_up F o (.inr (8, [.int 0, .ref (qm 0), .ref (qm 1), .ref (qm 2), .ref (qm 3), .ref (qm 4), .ref (qm 5), .ref (qm 6), .ref (qm 7), .int Pp.1, .ref (qm 8), .ref (qm 9), .ref (qm 10), .ref (qm 11), .ref (qm 12), .ref (qm 13), .ref (qm 14), .int Xx.1, .ref (qm 15), .long oc])) := eF18
        have hFo_18 : F18 o = .inr (8, [.int 0, .ref (qm 0), .ref (qm 1), .ref (qm 2), .ref (qm 3), .ref (qm 4), .ref (qm 5), .ref (qm 6), .ref (qm 7), .int Pp.1, .ref (qm 8), .ref (qm 9), .ref (qm 10), .ref (qm 11), .ref (qm 12), .ref (qm 13), .ref (qm 14), .int Xx.1, .ref (qm 15), .long oc]) := by rw [eF18]; exact va_up_self _ _ _
        have hFqm0_18 : F18 (qm 0) = cI (cy 1) 10 Mm.1 := by rw [eF18, va_up_ne _ _ (pl_ne hF0 hFo rfl)]; exact hF0
        have hFqm1_18 : F18 (qm 1) = cJ (cy 2) 10 Mm.2 := by rw [eF18, va_up_ne _ _ (pl_ne hF1 hFo rfl)]; exact hF1
        have hFqm2_18 : F18 (qm 2) = cD (cy 0) 6 Dd.1 := by rw [eF18, va_up_ne _ _ (pl_ne hF2 hFo rfl)]; exact hF2
        have hFqm3_18 : F18 (qm 3) = cD (cy 0) 6 Dd.2.1 := by rw [eF18, va_up_ne _ _ (pl_ne hF3 hFo rfl)]; exact hF3
        have hFqm4_18 : F18 (qm 4) = cD (cy 0) 6 Dd.2.2.1 := by rw [eF18, va_up_ne _ _ (pl_ne hF4 hFo rfl)]; exact hF4
        have hFqm5_18 : F18 (qm 5) = cJ (cy 2) 6 Dd.2.2.2 := by rw [eF18, va_up_ne _ _ (pl_ne hF5 hFo rfl)]; exact hF5
        have hFqm6_18 : F18 (qm 6) = cI (cy 1) 8 Sl.1 := by rw [eF18, va_up_ne _ _ (pl_ne hF6 hFo rfl)]; exact hF6
        have hFqm7_18 : F18 (qm 7) = cJ (cy 2) 128 Sl.2 := by rw [eF18, va_up_ne _ _ (pl_ne hF7 hFo rfl)]; exact hF7
        have hFqm8_18 : F18 (qm 8) = cI (cy 1) 30 Pp.2.1 := by rw [eF18, va_up_ne _ _ (pl_ne hF8 hFo rfl)]; exact hF8
        have hFqm9_18 : F18 (qm 9) = cI (cy 3) 30 Pp.2.2 := by rw [eF18, va_up_ne _ _ (pl_ne hF9 hFo rfl)]; exact hF9
        have hFqm10_18 : F18 (qm 10) = cI (cy 1) 5 Kr.1 := by rw [eF18, va_up_ne _ _ (pl_ne hF10 hFo rfl)]; exact hF10
        have hFqm11_18 : F18 (qm 11) = cI (cy 3) 5 Kr.2.1 := by rw [eF18, va_up_ne _ _ (pl_ne hF11 hFo rfl)]; exact hF11
        have hFqm12_18 : F18 (qm 12) = cI (cy 1) 60 Kr.2.2 := by rw [eF18, va_up_ne _ _ (pl_ne hF12 hFo rfl)]; exact hF12
        have hFqm13_18 : F18 (qm 13) = cI (cy 1) 4 Bk.1 := by rw [eF18, va_up_ne _ _ (pl_ne hF13 hFo rfl)]; exact hF13
        have hFqm14_18 : F18 (qm 14) = cD (cy 0) 4 Bk.2 := by rw [eF18, va_up_ne _ _ (pl_ne hF14 hFo rfl)]; exact hF14
        have hFqm15_18 : F18 (qm 15) = cI (cy 1) 6 Xx.2 := by rw [eF18, va_up_ne _ _ (pl_ne hF15 hFo rfl)]; exact hF15
        refine lv_iload_n hx hb dX9_reckon_5 rfl (lv_at hl 2 rfl) ?_
        refine vp_callSi (W.runS (As := [.int (nI j_x)]) (rest := []) ⟨hx, hb, hml, hown, hts⟩ (c9_isMeter l (nI j_x)) (va_cwS 1 hts gX9_reckon_X9_isMeter rfl rfl rfl (by decide +kernel) ⟨Nat.le_of_ble_eq_true rfl, Nat.le_of_ble_eq_true rfl⟩) (preS_of okT (trivial)) rfl rfl hl.1 rfl (lv_room (Nat.le_of_ble_eq_true rfl)) dX9_reckon_6 ⟨Nat.le_of_ble_eq_true rfl, Nat.le_of_ble_eq_true rfl⟩) (fun r19 hr19 => ?_)
        rw [isx1 hi_x] at hr19
        subst hr19
        refine lv_if_eq (tgt := 27) hx hb dX9_reckon_9 (by decide) (fun c20 => absurd c20 (by decide)) (fun c20 => ?_)
        refine lv_iload_n hx hb dX9_reckon_12 rfl (lv_at hl 3 rfl) ?_
        refine vp_callSi (W.runS (As := [.int y]) (rest := []) ⟨hx, hb, hml, hown, hts⟩ (c9_isMeter l y) (va_cwS 1 hts gX9_reckon_X9_isMeter rfl rfl rfl (by decide +kernel) ⟨Nat.le_of_ble_eq_true rfl, Nat.le_of_ble_eq_true rfl⟩) (preS_of okT (trivial)) rfl rfl hl.1 rfl (lv_room (Nat.le_of_ble_eq_true rfl)) dX9_reckon_13 ⟨Nat.le_of_ble_eq_true rfl, Nat.le_of_ble_eq_true rfl⟩) (fun r21 hr21 => ?_)
        rw [isx0 hi_y] at hr21
        subst hr21
        refine lv_if_eq (tgt := 27) hx hb dX9_reckon_16 (by decide) (fun c22 => ?_) (fun c22 => absurd (by decide) c22)
        refine lv_sipush (v := -1001) hx hb dX9_reckon_27 (by decide) ?_
        exact W.iret (v := -1001) hx hb hr (fun t ht hW => ⟨⟨-1001, F18, rfl, (by have hsp : sp_reckon Mm Xx 3 (nI j_x) y (nI j_into) = (-1001, Mm, Xx) := (by unfold sp_reckon; rw [hi_x, hi_y]); rw [hsp]; exact ⟨rfl, (by exact ⟨⟨_, _, hmo, hFo_18⟩, ⟨hm0, hFqm0_18⟩, ⟨hm1, hFqm1_18⟩, ⟨hm2, hFqm2_18⟩, ⟨hm3, hFqm3_18⟩, ⟨hm4, hFqm4_18⟩, ⟨hm5, hFqm5_18⟩, ⟨hm6, hFqm6_18⟩, ⟨hm7, hFqm7_18⟩, ⟨hm8, hFqm8_18⟩, ⟨hm9, hFqm9_18⟩, ⟨hm10, hFqm10_18⟩, ⟨hm11, hFqm11_18⟩, ⟨hm12, hFqm12_18⟩, ⟨hm13, hFqm13_18⟩, ⟨hm14, hFqm14_18⟩, ⟨hm15, hFqm15_18⟩, hne⟩)⟩), (by show va_P _ _ _ t.heap; rw [ht]; exact hP)⟩, hS.F ht⟩) hS.2.2 dX9_reckon_30
    · subst ei_y
      rcases ixc 10 into with hi_into | ⟨j_into, hj_into, hi_into, ei_into⟩
      · refine lv_aload_n hx hb dX9_reckon_0 rfl (lv_at hl 0 rfl) ?_
        refine lv_iconst (v := 0) hx hb dX9_reckon_1 (by decide) ?_
        refine pg_put (ci := 8) (v := .int 0) (ty := .int) (C := RX9) (T := TX9) (N := 20) hx hb hts hinX9 tyX9 tyX9_ok nmX9 hown hK hP hD hS hmo hFo rfl 0 (by decide) (hts (.fieldLink RX9 61 "RopeDrumsModel" "thrown" "I") (by decide +kernel)) (fun _ h9 => h9) rfl (by decide +kernel) (rfl) (rfl) (Nat.le_of_ble_eq_true rfl) dX9_reckon_2 (fun H locs F23 eF23 hP hS => ?_)
        have eF23 : F23 = va_up F o (.inr (8, [.int 0, .ref (qm 0), .ref (qm 1), .ref (qm 2), .ref (qm 3), .ref (qm 4), .ref (qm 5), .ref (qm 6), .ref (qm 7), .int Pp.1, .ref (qm 8), .ref (qm 9), .ref (qm 10), .ref (qm 11), .ref (qm 12), .ref (qm 13), .ref (qm 14), .int Xx.1, .ref (qm 15), .long oc])) := eF23
        have hFo_23 : F23 o = .inr (8, [.int 0, .ref (qm 0), .ref (qm 1), .ref (qm 2), .ref (qm 3), .ref (qm 4), .ref (qm 5), .ref (qm 6), .ref (qm 7), .int Pp.1, .ref (qm 8), .ref (qm 9), .ref (qm 10), .ref (qm 11), .ref (qm 12), .ref (qm 13), .ref (qm 14), .int Xx.1, .ref (qm 15), .long oc]) := by rw [eF23]; exact va_up_self _ _ _
        have hFqm0_23 : F23 (qm 0) = cI (cy 1) 10 Mm.1 := by rw [eF23, va_up_ne _ _ (pl_ne hF0 hFo rfl)]; exact hF0
        have hFqm1_23 : F23 (qm 1) = cJ (cy 2) 10 Mm.2 := by rw [eF23, va_up_ne _ _ (pl_ne hF1 hFo rfl)]; exact hF1
        have hFqm2_23 : F23 (qm 2) = cD (cy 0) 6 Dd.1 := by rw [eF23, va_up_ne _ _ (pl_ne hF2 hFo rfl)]; exact hF2
        have hFqm3_23 : F23 (qm 3) = cD (cy 0) 6 Dd.2.1 := by rw [eF23, va_up_ne _ _ (pl_ne hF3 hFo rfl)]; exact hF3
        have hFqm4_23 : F23 (qm 4) = cD (cy 0) 6 Dd.2.2.1 := by rw [eF23, va_up_ne _ _ (pl_ne hF4 hFo rfl)]; exact hF4
        have hFqm5_23 : F23 (qm 5) = cJ (cy 2) 6 Dd.2.2.2 := by rw [eF23, va_up_ne _ _ (pl_ne hF5 hFo rfl)]; exact hF5
        have hFqm6_23 : F23 (qm 6) = cI (cy 1) 8 Sl.1 := by rw [eF23, va_up_ne _ _ (pl_ne hF6 hFo rfl)]; exact hF6
        have hFqm7_23 : F23 (qm 7) = cJ (cy 2) 128 Sl.2 := by rw [eF23, va_up_ne _ _ (pl_ne hF7 hFo rfl)]; exact hF7
        have hFqm8_23 : F23 (qm 8) = cI (cy 1) 30 Pp.2.1 := by rw [eF23, va_up_ne _ _ (pl_ne hF8 hFo rfl)]; exact hF8
        have hFqm9_23 : F23 (qm 9) = cI (cy 3) 30 Pp.2.2 := by rw [eF23, va_up_ne _ _ (pl_ne hF9 hFo rfl)]; exact hF9
        have hFqm10_23 : F23 (qm 10) = cI (cy 1) 5 Kr.1 := by rw [eF23, va_up_ne _ _ (pl_ne hF10 hFo rfl)]; exact hF10
        have hFqm11_23 : F23 (qm 11) = cI (cy 3) 5 Kr.2.1 := by rw [eF23, va_up_ne _ _ (pl_ne hF11 hFo rfl)]; exact hF11
        have hFqm12_23 : F23 (qm 12) = cI (cy 1) 60 Kr.2.2 := by rw [eF23, va_up_ne _ _ (pl_ne hF12 hFo rfl)]; exact hF12
        have hFqm13_23 : F23 (qm 13) = cI (cy 1) 4 Bk.1 := by rw [eF23, va_up_ne _ _ (pl_ne hF13 hFo rfl)]; exact hF13
        have hFqm14_23 : F23 (qm 14) = cD (cy 0) 4 Bk.2 := by rw [eF23, va_up_ne _ _ (pl_ne hF14 hFo rfl)]; exact hF14
        have hFqm15_23 : F23 (qm 15) = cI (cy 1) 6 Xx.2 := by rw [eF23, va_up_ne _ _ (pl_ne hF15 hFo rfl)]; exact hF15
        refine lv_iload_n hx hb dX9_reckon_5 rfl (lv_at hl 2 rfl) ?_
        refine vp_callSi (W.runS (As := [.int (nI j_x)]) (rest := []) ⟨hx, hb, hml, hown, hts⟩ (c9_isMeter l (nI j_x)) (va_cwS 1 hts gX9_reckon_X9_isMeter rfl rfl rfl (by decide +kernel) ⟨Nat.le_of_ble_eq_true rfl, Nat.le_of_ble_eq_true rfl⟩) (preS_of okT (trivial)) rfl rfl hl.1 rfl (lv_room (Nat.le_of_ble_eq_true rfl)) dX9_reckon_6 ⟨Nat.le_of_ble_eq_true rfl, Nat.le_of_ble_eq_true rfl⟩) (fun r24 hr24 => ?_)
        rw [isx1 hi_x] at hr24
        subst hr24
        refine lv_if_eq (tgt := 27) hx hb dX9_reckon_9 (by decide) (fun c25 => absurd c25 (by decide)) (fun c25 => ?_)
        refine lv_iload_n hx hb dX9_reckon_12 rfl (lv_at hl 3 rfl) ?_
        refine vp_callSi (W.runS (As := [.int (nI j_y)]) (rest := []) ⟨hx, hb, hml, hown, hts⟩ (c9_isMeter l (nI j_y)) (va_cwS 1 hts gX9_reckon_X9_isMeter rfl rfl rfl (by decide +kernel) ⟨Nat.le_of_ble_eq_true rfl, Nat.le_of_ble_eq_true rfl⟩) (preS_of okT (trivial)) rfl rfl hl.1 rfl (lv_room (Nat.le_of_ble_eq_true rfl)) dX9_reckon_13 ⟨Nat.le_of_ble_eq_true rfl, Nat.le_of_ble_eq_true rfl⟩) (fun r26 hr26 => ?_)
        rw [isx1 hi_y] at hr26
        subst hr26
        refine lv_if_eq (tgt := 27) hx hb dX9_reckon_16 (by decide) (fun c27 => absurd c27 (by decide)) (fun c27 => ?_)
        refine lv_iload hx hb dX9_reckon_19 (lv_at hl 4 rfl) ?_
        refine vp_callSi (W.runS (As := [.int into]) (rest := []) ⟨hx, hb, hml, hown, hts⟩ (c9_isMeter l into) (va_cwS 1 hts gX9_reckon_X9_isMeter rfl rfl rfl (by decide +kernel) ⟨Nat.le_of_ble_eq_true rfl, Nat.le_of_ble_eq_true rfl⟩) (preS_of okT (trivial)) rfl rfl hl.1 rfl (lv_room (Nat.le_of_ble_eq_true rfl)) dX9_reckon_21 ⟨Nat.le_of_ble_eq_true rfl, Nat.le_of_ble_eq_true rfl⟩) (fun r28 hr28 => ?_)
        rw [isx0 hi_into] at hr28
        subst hr28
        refine lv_if_ne (tgt := 31) hx hb dX9_reckon_24 (by decide) (fun c29 => absurd (by decide) c29) (fun c29 => ?_)
        refine lv_sipush (v := -1001) hx hb dX9_reckon_27 (by decide) ?_
        exact W.iret (v := -1001) hx hb hr (fun t ht hW => ⟨⟨-1001, F23, rfl, (by have hsp : sp_reckon Mm Xx 3 (nI j_x) (nI j_y) into = (-1001, Mm, Xx) := (by unfold sp_reckon; rw [hi_x, hi_y, hi_into]); rw [hsp]; exact ⟨rfl, (by exact ⟨⟨_, _, hmo, hFo_23⟩, ⟨hm0, hFqm0_23⟩, ⟨hm1, hFqm1_23⟩, ⟨hm2, hFqm2_23⟩, ⟨hm3, hFqm3_23⟩, ⟨hm4, hFqm4_23⟩, ⟨hm5, hFqm5_23⟩, ⟨hm6, hFqm6_23⟩, ⟨hm7, hFqm7_23⟩, ⟨hm8, hFqm8_23⟩, ⟨hm9, hFqm9_23⟩, ⟨hm10, hFqm10_23⟩, ⟨hm11, hFqm11_23⟩, ⟨hm12, hFqm12_23⟩, ⟨hm13, hFqm13_23⟩, ⟨hm14, hFqm14_23⟩, ⟨hm15, hFqm15_23⟩, hne⟩)⟩), (by show va_P _ _ _ t.heap; rw [ht]; exact hP)⟩, hS.F ht⟩) hS.2.2 dX9_reckon_30
      · subst ei_into
        refine lv_aload_n hx hb dX9_reckon_0 rfl (lv_at hl 0 rfl) ?_
        refine lv_iconst (v := 0) hx hb dX9_reckon_1 (by decide) ?_
        refine pg_put (ci := 8) (v := .int 0) (ty := .int) (C := RX9) (T := TX9) (N := 20) hx hb hts hinX9 tyX9 tyX9_ok nmX9 hown hK hP hD hS hmo hFo rfl 0 (by decide) (hts (.fieldLink RX9 61 "RopeDrumsModel" "thrown" "I") (by decide +kernel)) (fun _ h9 => h9) rfl (by decide +kernel) (rfl) (rfl) (Nat.le_of_ble_eq_true rfl) dX9_reckon_2 (fun H locs F30 eF30 hP hS => ?_)
        have eF30 : F30 = va_up F o (.inr (8, [.int 0, .ref (qm 0), .ref (qm 1), .ref (qm 2), .ref (qm 3), .ref (qm 4), .ref (qm 5), .ref (qm 6), .ref (qm 7), .int Pp.1, .ref (qm 8), .ref (qm 9), .ref (qm 10), .ref (qm 11), .ref (qm 12), .ref (qm 13), .ref (qm 14), .int Xx.1, .ref (qm 15), .long oc])) := eF30
        have hFo_30 : F30 o = .inr (8, [.int 0, .ref (qm 0), .ref (qm 1), .ref (qm 2), .ref (qm 3), .ref (qm 4), .ref (qm 5), .ref (qm 6), .ref (qm 7), .int Pp.1, .ref (qm 8), .ref (qm 9), .ref (qm 10), .ref (qm 11), .ref (qm 12), .ref (qm 13), .ref (qm 14), .int Xx.1, .ref (qm 15), .long oc]) := by rw [eF30]; exact va_up_self _ _ _
        have hFqm0_30 : F30 (qm 0) = cI (cy 1) 10 Mm.1 := by rw [eF30, va_up_ne _ _ (pl_ne hF0 hFo rfl)]; exact hF0
        have hFqm1_30 : F30 (qm 1) = cJ (cy 2) 10 Mm.2 := by rw [eF30, va_up_ne _ _ (pl_ne hF1 hFo rfl)]; exact hF1
        have hFqm2_30 : F30 (qm 2) = cD (cy 0) 6 Dd.1 := by rw [eF30, va_up_ne _ _ (pl_ne hF2 hFo rfl)]; exact hF2
        have hFqm3_30 : F30 (qm 3) = cD (cy 0) 6 Dd.2.1 := by rw [eF30, va_up_ne _ _ (pl_ne hF3 hFo rfl)]; exact hF3
        have hFqm4_30 : F30 (qm 4) = cD (cy 0) 6 Dd.2.2.1 := by rw [eF30, va_up_ne _ _ (pl_ne hF4 hFo rfl)]; exact hF4
        have hFqm5_30 : F30 (qm 5) = cJ (cy 2) 6 Dd.2.2.2 := by rw [eF30, va_up_ne _ _ (pl_ne hF5 hFo rfl)]; exact hF5
        have hFqm6_30 : F30 (qm 6) = cI (cy 1) 8 Sl.1 := by rw [eF30, va_up_ne _ _ (pl_ne hF6 hFo rfl)]; exact hF6
        have hFqm7_30 : F30 (qm 7) = cJ (cy 2) 128 Sl.2 := by rw [eF30, va_up_ne _ _ (pl_ne hF7 hFo rfl)]; exact hF7
        have hFqm8_30 : F30 (qm 8) = cI (cy 1) 30 Pp.2.1 := by rw [eF30, va_up_ne _ _ (pl_ne hF8 hFo rfl)]; exact hF8
        have hFqm9_30 : F30 (qm 9) = cI (cy 3) 30 Pp.2.2 := by rw [eF30, va_up_ne _ _ (pl_ne hF9 hFo rfl)]; exact hF9
        have hFqm10_30 : F30 (qm 10) = cI (cy 1) 5 Kr.1 := by rw [eF30, va_up_ne _ _ (pl_ne hF10 hFo rfl)]; exact hF10
        have hFqm11_30 : F30 (qm 11) = cI (cy 3) 5 Kr.2.1 := by rw [eF30, va_up_ne _ _ (pl_ne hF11 hFo rfl)]; exact hF11
        have hFqm12_30 : F30 (qm 12) = cI (cy 1) 60 Kr.2.2 := by rw [eF30, va_up_ne _ _ (pl_ne hF12 hFo rfl)]; exact hF12
        have hFqm13_30 : F30 (qm 13) = cI (cy 1) 4 Bk.1 := by rw [eF30, va_up_ne _ _ (pl_ne hF13 hFo rfl)]; exact hF13
        have hFqm14_30 : F30 (qm 14) = cD (cy 0) 4 Bk.2 := by rw [eF30, va_up_ne _ _ (pl_ne hF14 hFo rfl)]; exact hF14
        have hFqm15_30 : F30 (qm 15) = cI (cy 1) 6 Xx.2 := by rw [eF30, va_up_ne _ _ (pl_ne hF15 hFo rfl)]; exact hF15
        refine lv_iload_n hx hb dX9_reckon_5 rfl (lv_at hl 2 rfl) ?_
        refine vp_callSi (W.runS (As := [.int (nI j_x)]) (rest := []) ⟨hx, hb, hml, hown, hts⟩ (c9_isMeter l (nI j_x)) (va_cwS 1 hts gX9_reckon_X9_isMeter rfl rfl rfl (by decide +kernel) ⟨Nat.le_of_ble_eq_true rfl, Nat.le_of_ble_eq_true rfl⟩) (preS_of okT (trivial)) rfl rfl hl.1 rfl (lv_room (Nat.le_of_ble_eq_true rfl)) dX9_reckon_6 ⟨Nat.le_of_ble_eq_true rfl, Nat.le_of_ble_eq_true rfl⟩) (fun r31 hr31 => ?_)
        rw [isx1 hi_x] at hr31
        subst hr31
        refine lv_if_eq (tgt := 27) hx hb dX9_reckon_9 (by decide) (fun c32 => absurd c32 (by decide)) (fun c32 => ?_)
        refine lv_iload_n hx hb dX9_reckon_12 rfl (lv_at hl 3 rfl) ?_
        refine vp_callSi (W.runS (As := [.int (nI j_y)]) (rest := []) ⟨hx, hb, hml, hown, hts⟩ (c9_isMeter l (nI j_y)) (va_cwS 1 hts gX9_reckon_X9_isMeter rfl rfl rfl (by decide +kernel) ⟨Nat.le_of_ble_eq_true rfl, Nat.le_of_ble_eq_true rfl⟩) (preS_of okT (trivial)) rfl rfl hl.1 rfl (lv_room (Nat.le_of_ble_eq_true rfl)) dX9_reckon_13 ⟨Nat.le_of_ble_eq_true rfl, Nat.le_of_ble_eq_true rfl⟩) (fun r33 hr33 => ?_)
        rw [isx1 hi_y] at hr33
        subst hr33
        refine lv_if_eq (tgt := 27) hx hb dX9_reckon_16 (by decide) (fun c34 => absurd c34 (by decide)) (fun c34 => ?_)
        refine lv_iload hx hb dX9_reckon_19 (lv_at hl 4 rfl) ?_
        refine vp_callSi (W.runS (As := [.int (nI j_into)]) (rest := []) ⟨hx, hb, hml, hown, hts⟩ (c9_isMeter l (nI j_into)) (va_cwS 1 hts gX9_reckon_X9_isMeter rfl rfl rfl (by decide +kernel) ⟨Nat.le_of_ble_eq_true rfl, Nat.le_of_ble_eq_true rfl⟩) (preS_of okT (trivial)) rfl rfl hl.1 rfl (lv_room (Nat.le_of_ble_eq_true rfl)) dX9_reckon_21 ⟨Nat.le_of_ble_eq_true rfl, Nat.le_of_ble_eq_true rfl⟩) (fun r35 hr35 => ?_)
        rw [isx1 hi_into] at hr35
        subst hr35
        refine lv_if_ne (tgt := 31) hx hb dX9_reckon_24 (by decide) (fun c36 => ?_) (fun c36 => absurd c36 (by decide))
        refine lv_iload_n hx hb dX9_reckon_31 rfl (lv_at hl 1 rfl) ?_
        refine lv_i2l hx hb dX9_reckon_32 rfl ?_
        refine lv_topl (fun v37 ev37 => ?_)
        refine lv_lconst (v := 0) hx hb dX9_reckon_33 (by decide) ?_
        refine lv_ldc2 hx hb hown (hts (.constantLong RX9 143 (4)) (by decide +kernel)) dX9_reckon_34 ?_
        refine vp_callSi (W.runS (As := [.long v37, .long 0, .long 4]) (rest := []) ⟨hx, hb, hml, hown, hts⟩ (c9_in l v37 0 4) (va_cwS 3 hts gX9_reckon_X9_in rfl rfl rfl (by decide +kernel) ⟨Nat.le_of_ble_eq_true rfl, Nat.le_of_ble_eq_true rfl⟩) (preS_of okT (trivial)) rfl rfl hl.1 rfl (lv_room (Nat.le_of_ble_eq_true rfl)) dX9_reckon_37 ⟨Nat.le_of_ble_eq_true rfl, Nat.le_of_ble_eq_true rfl⟩) (fun r38 hr38 => ?_)
        have hzr38 : r38 = 1 := by rw [hr38, ev37, inq_i (y := 0) (z := 4) (by decide) (by decide)]; exact if_pos (by decide)
        subst hzr38
        refine lv_if_ne (tgt := 47) hx hb dX9_reckon_40 (by decide) (fun c39 => ?_) (fun c39 => absurd c39 (by decide))
        refine lv_aload_n hx hb dX9_reckon_47 rfl (lv_at hl 0 rfl) ?_
        refine lv_iconst (v := 0) hx hb dX9_reckon_48 (by decide) ?_
        refine pg_put (ci := 8) (v := .int 0) (ty := .int) (C := RX9) (T := TX9) (N := 20) hx hb hts hinX9 tyX9 tyX9_ok nmX9 hown hK hP hD hS hmo hFo_30 rfl 17 (by decide) (hts (.fieldLink RX9 65 "RopeDrumsModel" "failed" "I") (by decide +kernel)) (fun _ h9 => h9) rfl (by decide +kernel) (rfl) (rfl) (Nat.le_of_ble_eq_true rfl) dX9_reckon_49 (fun H locs F40 eF40 hP hS => ?_)
        have eF40 : F40 = va_up F30 o (.inr (8, [.int 0, .ref (qm 0), .ref (qm 1), .ref (qm 2), .ref (qm 3), .ref (qm 4), .ref (qm 5), .ref (qm 6), .ref (qm 7), .int Pp.1, .ref (qm 8), .ref (qm 9), .ref (qm 10), .ref (qm 11), .ref (qm 12), .ref (qm 13), .ref (qm 14), .int 0, .ref (qm 15), .long oc])) := eF40
        have hFo_40 : F40 o = .inr (8, [.int 0, .ref (qm 0), .ref (qm 1), .ref (qm 2), .ref (qm 3), .ref (qm 4), .ref (qm 5), .ref (qm 6), .ref (qm 7), .int Pp.1, .ref (qm 8), .ref (qm 9), .ref (qm 10), .ref (qm 11), .ref (qm 12), .ref (qm 13), .ref (qm 14), .int 0, .ref (qm 15), .long oc]) := by rw [eF40]; exact va_up_self _ _ _
        have hFqm0_40 : F40 (qm 0) = cI (cy 1) 10 Mm.1 := by rw [eF40, va_up_ne _ _ (pl_ne hFqm0_30 hFo_30 rfl)]; exact hFqm0_30
        have hFqm1_40 : F40 (qm 1) = cJ (cy 2) 10 Mm.2 := by rw [eF40, va_up_ne _ _ (pl_ne hFqm1_30 hFo_30 rfl)]; exact hFqm1_30
        have hFqm2_40 : F40 (qm 2) = cD (cy 0) 6 Dd.1 := by rw [eF40, va_up_ne _ _ (pl_ne hFqm2_30 hFo_30 rfl)]; exact hFqm2_30
        have hFqm3_40 : F40 (qm 3) = cD (cy 0) 6 Dd.2.1 := by rw [eF40, va_up_ne _ _ (pl_ne hFqm3_30 hFo_30 rfl)]; exact hFqm3_30
        have hFqm4_40 : F40 (qm 4) = cD (cy 0) 6 Dd.2.2.1 := by rw [eF40, va_up_ne _ _ (pl_ne hFqm4_30 hFo_30 rfl)]; exact hFqm4_30
        have hFqm5_40 : F40 (qm 5) = cJ (cy 2) 6 Dd.2.2.2 := by rw [eF40, va_up_ne _ _ (pl_ne hFqm5_30 hFo_30 rfl)]; exact hFqm5_30
        have hFqm6_40 : F40 (qm 6) = cI (cy 1) 8 Sl.1 := by rw [eF40, va_up_ne _ _ (pl_ne hFqm6_30 hFo_30 rfl)]; exact hFqm6_30
        have hFqm7_40 : F40 (qm 7) = cJ (cy 2) 128 Sl.2 := by rw [eF40, va_up_ne _ _ (pl_ne hFqm7_30 hFo_30 rfl)]; exact hFqm7_30
        have hFqm8_40 : F40 (qm 8) = cI (cy 1) 30 Pp.2.1 := by rw [eF40, va_up_ne _ _ (pl_ne hFqm8_30 hFo_30 rfl)]; exact hFqm8_30
        have hFqm9_40 : F40 (qm 9) = cI (cy 3) 30 Pp.2.2 := by rw [eF40, va_up_ne _ _ (pl_ne hFqm9_30 hFo_30 rfl)]; exact hFqm9_30
        have hFqm10_40 : F40 (qm 10) = cI (cy 1) 5 Kr.1 := by rw [eF40, va_up_ne _ _ (pl_ne hFqm10_30 hFo_30 rfl)]; exact hFqm10_30
        have hFqm11_40 : F40 (qm 11) = cI (cy 3) 5 Kr.2.1 := by rw [eF40, va_up_ne _ _ (pl_ne hFqm11_30 hFo_30 rfl)]; exact hFqm11_30
        have hFqm12_40 : F40 (qm 12) = cI (cy 1) 60 Kr.2.2 := by rw [eF40, va_up_ne _ _ (pl_ne hFqm12_30 hFo_30 rfl)]; exact hFqm12_30
        have hFqm13_40 : F40 (qm 13) = cI (cy 1) 4 Bk.1 := by rw [eF40, va_up_ne _ _ (pl_ne hFqm13_30 hFo_30 rfl)]; exact hFqm13_30
        have hFqm14_40 : F40 (qm 14) = cD (cy 0) 4 Bk.2 := by rw [eF40, va_up_ne _ _ (pl_ne hFqm14_30 hFo_30 rfl)]; exact hFqm14_30
        have hFqm15_40 : F40 (qm 15) = cI (cy 1) 6 Xx.2 := by rw [eF40, va_up_ne _ _ (pl_ne hFqm15_30 hFo_30 rfl)]; exact hFqm15_30
        refine jn_i (pc := 82) (ls := ls) (rest := []) (fun vv => vv = mx (Mm.1 j_x) (Mm.1 j_y)) (fun j41 hj41 => ?_) (fun K => ?_)
        · subst hj41
          refine lv_istore (lv' := [(5, .int (mx (Mm.1 j_x) (Mm.1 j_y))), (0, .ref o), (1, .int 3), (2, .int (nI j_x)), (3, .int (nI j_y)), (4, .int (nI j_into))]) hx hb dX9_reckon_82 hl (by decide) rfl (fun ls hl => ?_)
          refine lv_aload_n hx hb dX9_reckon_84 rfl (lv_at hl 1 rfl) ?_
          refine pg_get (ci := 8) (C := RX9) (T := TX9) (N := 20) hx hb hts hinX9 hown hK hP hmo hFo_40 rfl 1 (by decide) (hts (.fieldLink RX9 7 "RopeDrumsModel" "laneOf" "[I") (by decide +kernel)) (fun _ h9 => h9) rfl dX9_reckon_85 ?_
          refine lv_iload_n hx hb dX9_reckon_88 rfl (lv_at hl 3 rfl) ?_
          refine pg_iald hx hb hK hP 1 hm0 hFqm0_40 rfl (vp_in_nI (by omega) (by decide)) dX9_reckon_89 ?_
          refine lv_topi (fun v42 ev42 => ?_)
          rw [nI_clamp (by omega)] at ev42
          refine lv_aload_n hx hb dX9_reckon_90 rfl (lv_at hl 1 rfl) ?_
          refine pg_get (ci := 8) (C := RX9) (T := TX9) (N := 20) hx hb hts hinX9 hown hK hP hmo hFo_40 rfl 2 (by decide) (hts (.fieldLink RX9 13 "RopeDrumsModel" "held" "[J") (by decide +kernel)) (fun _ h9 => h9) rfl dX9_reckon_91 ?_
          refine lv_iload_n hx hb dX9_reckon_94 rfl (lv_at hl 3 rfl) ?_
          refine pg_lald hx hb hK hP 2 hm1 hFqm1_40 rfl (vp_in_nI (by omega) (by decide)) dX9_reckon_95 ?_
          refine lv_topl (fun v43 ev43 => ?_)
          rw [nI_clamp (by omega)] at ev43
          refine lv_iload hx hb dX9_reckon_96 (lv_at hl 0 rfl) ?_
          refine vp_callSl (W.runS (As := [.int v42, .long v43, .int (mx (Mm.1 j_x) (Mm.1 j_y))]) (rest := []) ⟨hx, hb, hml, hown, hts⟩ (c9_turned l v42 (mx (Mm.1 j_x) (Mm.1 j_y)) v43 (by rw [ev42, ev43]; exact (hVM j_x hj_x))) (va_cwS 3 hts gX9_reckon_X9_turned rfl rfl rfl (by decide +kernel) ⟨Nat.le_of_ble_eq_true rfl, Nat.le_of_ble_eq_true rfl⟩) (preS_of okT (trivial)) rfl rfl hl.1 rfl (lv_room (Nat.le_of_ble_eq_true rfl)) dX9_reckon_98 ⟨Nat.le_of_ble_eq_true rfl, Nat.le_of_ble_eq_true rfl⟩) (fun r44 hr44 => ?_)
          refine lv_lstore (lv' := [(6, .long r44), (5, .int (mx (Mm.1 j_x) (Mm.1 j_y))), (0, .ref o), (1, .int 3), (2, .int (nI j_x)), (3, .int (nI j_y)), (4, .int (nI j_into))]) hx hb dX9_reckon_101 hl (by decide) rfl (fun ls hl => ?_)
          refine lv_aload_n hx hb dX9_reckon_103 rfl (lv_at hl 2 rfl) ?_
          refine pg_get (ci := 8) (C := RX9) (T := TX9) (N := 20) hx hb hts hinX9 hown hK hP hmo hFo_40 rfl 1 (by decide) (hts (.fieldLink RX9 7 "RopeDrumsModel" "laneOf" "[I") (by decide +kernel)) (fun _ h9 => h9) rfl dX9_reckon_104 ?_
          refine lv_iload_n hx hb dX9_reckon_107 rfl (lv_at hl 5 rfl) ?_
          refine pg_iald hx hb hK hP 1 hm0 hFqm0_40 rfl (vp_in_nI (by omega) (by decide)) dX9_reckon_108 ?_
          refine lv_topi (fun v45 ev45 => ?_)
          rw [nI_clamp (by omega)] at ev45
          refine lv_aload_n hx hb dX9_reckon_109 rfl (lv_at hl 2 rfl) ?_
          refine pg_get (ci := 8) (C := RX9) (T := TX9) (N := 20) hx hb hts hinX9 hown hK hP hmo hFo_40 rfl 2 (by decide) (hts (.fieldLink RX9 13 "RopeDrumsModel" "held" "[J") (by decide +kernel)) (fun _ h9 => h9) rfl dX9_reckon_110 ?_
          refine lv_iload_n hx hb dX9_reckon_113 rfl (lv_at hl 5 rfl) ?_
          refine pg_lald hx hb hK hP 2 hm1 hFqm1_40 rfl (vp_in_nI (by omega) (by decide)) dX9_reckon_114 ?_
          refine lv_topl (fun v46 ev46 => ?_)
          rw [nI_clamp (by omega)] at ev46
          refine lv_iload hx hb dX9_reckon_115 (lv_at hl 1 rfl) ?_
          refine vp_callSl (W.runS (As := [.int v45, .long v46, .int (mx (Mm.1 j_x) (Mm.1 j_y))]) (rest := []) ⟨hx, hb, hml, hown, hts⟩ (c9_turned l v45 (mx (Mm.1 j_x) (Mm.1 j_y)) v46 (by rw [ev45, ev46]; exact (hVM j_y hj_y))) (va_cwS 3 hts gX9_reckon_X9_turned rfl rfl rfl (by decide +kernel) ⟨Nat.le_of_ble_eq_true rfl, Nat.le_of_ble_eq_true rfl⟩) (preS_of okT (trivial)) rfl rfl hl.1 rfl (lv_room (Nat.le_of_ble_eq_true rfl)) dX9_reckon_117 ⟨Nat.le_of_ble_eq_true rfl, Nat.le_of_ble_eq_true rfl⟩) (fun r47 hr47 => ?_)
          refine lv_lstore (lv' := [(8, .long r47), (6, .long r44), (5, .int (mx (Mm.1 j_x) (Mm.1 j_y))), (0, .ref o), (1, .int 3), (2, .int (nI j_x)), (3, .int (nI j_y)), (4, .int (nI j_into))]) hx hb dX9_reckon_120 hl (by decide) rfl (fun ls hl => ?_)
          have hmx := mx_v (hVM j_x hj_x).lane (hVM j_y hj_y).lane
          by_cases h1l : (1 : Int32) < mx (Mm.1 j_x) (Mm.1 j_y)
          · rcases (hmx.2 h1l).1 with hmxl | hmxl
            · by_cases hnan0 : FP.Core.fIsNaN (rkF 3 (fl (tn (Mm.1 j_x) (Mm.2 j_x) 2)) (fl (tn (Mm.1 j_y) (Mm.2 j_y) 2))) = true
              · refine lv_iload hx hb dX9_reckon_122 (lv_at hl 2 rfl) ?_
                refine lv_iconst (v := 2) hx hb dX9_reckon_124 (by decide) ?_
                refine lv_icmp_ge (tgt := 162) hx hb dX9_reckon_125 (by decide) (fun c48 => ?_) (fun c48 => absurd (by rw [hmxl]; decide) c48)
                refine lv_iload hx hb dX9_reckon_162 (lv_at hl 2 rfl) ?_
                refine lv_iconst (v := 2) hx hb dX9_reckon_164 (by decide) ?_
                refine lv_icmp_ne (tgt := 186) hx hb dX9_reckon_165 (by decide) (fun c49 => absurd (hmxl) c49) (fun c49 => ?_)
                refine lv_aload_n hx hb dX9_reckon_168 rfl (lv_at hl 3 rfl) ?_
                refine lv_iload_n hx hb dX9_reckon_169 rfl (lv_at hl 4 rfl) ?_
                refine lv_lload hx hb dX9_reckon_170 (lv_at hl 1 rfl) ?_
                refine vp_callSf (W.runS (As := [.long r44]) (rest := [.int 3, .ref o]) ⟨hx, hb, hml, hown, hts⟩ (c9_floatOf l r44 (by rw [hr44, ev42, ev43]; exact (by rw [hmxl]; exact tn2_ok (hVM j_x hj_x)))) (va_cwS 1 hts gX9_reckon_X9_floatOf rfl rfl rfl (by decide +kernel) ⟨Nat.le_of_ble_eq_true rfl, Nat.le_of_ble_eq_true rfl⟩) (preS_of okT (trivial)) rfl rfl hl.1 rfl (lv_room (Nat.le_of_ble_eq_true rfl)) dX9_reckon_172 ⟨Nat.le_of_ble_eq_true rfl, Nat.le_of_ble_eq_true rfl⟩) (fun r50 hr50 => ?_)
                refine lv_lload hx hb dX9_reckon_175 (lv_at hl 0 rfl) ?_
                refine vp_callSf (W.runS (As := [.long r47]) (rest := [.float r50, .int 3, .ref o]) ⟨hx, hb, hml, hown, hts⟩ (c9_floatOf l r47 (by rw [hr47, ev45, ev46]; exact (by rw [hmxl]; exact tn2_ok (hVM j_y hj_y)))) (va_cwS 1 hts gX9_reckon_X9_floatOf rfl rfl rfl (by decide +kernel) ⟨Nat.le_of_ble_eq_true rfl, Nat.le_of_ble_eq_true rfl⟩) (preS_of okT (trivial)) rfl rfl hl.1 rfl (lv_room (Nat.le_of_ble_eq_true rfl)) dX9_reckon_177 ⟨Nat.le_of_ble_eq_true rfl, Nat.le_of_ble_eq_true rfl⟩) (fun r51 hr51 => ?_)
                refine va_callv (va_runV (As := [.int 3, .float r50, .float r51]) (rest := []) ⟨hx, hb, hml, hown, hts⟩ (c9_rF_3_no l G cy L F40 H.size o qm 0 Pp.1 0 oc hmo hFo_40 r50 r51 (by rw [hr50, hr44, ev42, ev43, hmxl]; exact tn2_ok (hVM j_x hj_x)) (by rw [hr51, hr47, ev45, ev46, hmxl]; exact tn2_ok (hVM j_y hj_y)) (by rw [hr50, hr44, ev42, ev43, hr51, hr47, ev45, ev46, hmxl]; exact hnan0)) (cwV 3 hts gX9_reckon_X9_reckonFloats rfl rfl rfl (by decide +kernel) ⟨Nat.le_of_ble_eq_true rfl, Nat.le_of_ble_eq_true rfl⟩) (preV_of okQ (⟨rfl, hP, hK, hD.top⟩) (pl_recv hK hP (ci := 8) rfl hmo hFo_40)) rfl rfl hl.1 rfl (lv_room (Nat.le_of_ble_eq_true rfl)) dX9_reckon_180 ⟨Nat.le_of_ble_eq_true rfl, Nat.le_of_ble_eq_true rfl⟩) hS (fun q _ h => pl_free hD hS hA q h) (pl_free hD hS hA) (fun F52 t H1 locs ht hvm hw hP1 hz1 hk1 hS => ?_)
                have hP1 : va_P G vwCl (va_pl L F52) t.heap := hP1
                rw [ht] at hP1
                have hP := hP1
                generalize H1 = H at hP hS ⊢
                have eF52 : F52 = va_up F40 o (.inr (8, [.int 0, .ref (qm 0), .ref (qm 1), .ref (qm 2), .ref (qm 3), .ref (qm 4), .ref (qm 5), .ref (qm 6), .ref (qm 7), .int Pp.1, .ref (qm 8), .ref (qm 9), .ref (qm 10), .ref (qm 11), .ref (qm 12), .ref (qm 13), .ref (qm 14), .int 5, .ref (qm 15), .long oc])) := hw
                have hFo_52 : F52 o = .inr (8, [.int 0, .ref (qm 0), .ref (qm 1), .ref (qm 2), .ref (qm 3), .ref (qm 4), .ref (qm 5), .ref (qm 6), .ref (qm 7), .int Pp.1, .ref (qm 8), .ref (qm 9), .ref (qm 10), .ref (qm 11), .ref (qm 12), .ref (qm 13), .ref (qm 14), .int 5, .ref (qm 15), .long oc]) := by rw [eF52]; exact va_up_self _ _ _
                have hFqm0_52 : F52 (qm 0) = cI (cy 1) 10 Mm.1 := by rw [eF52, va_up_ne _ _ (pl_ne hFqm0_40 hFo_40 rfl)]; exact hFqm0_40
                have hFqm1_52 : F52 (qm 1) = cJ (cy 2) 10 Mm.2 := by rw [eF52, va_up_ne _ _ (pl_ne hFqm1_40 hFo_40 rfl)]; exact hFqm1_40
                have hFqm2_52 : F52 (qm 2) = cD (cy 0) 6 Dd.1 := by rw [eF52, va_up_ne _ _ (pl_ne hFqm2_40 hFo_40 rfl)]; exact hFqm2_40
                have hFqm3_52 : F52 (qm 3) = cD (cy 0) 6 Dd.2.1 := by rw [eF52, va_up_ne _ _ (pl_ne hFqm3_40 hFo_40 rfl)]; exact hFqm3_40
                have hFqm4_52 : F52 (qm 4) = cD (cy 0) 6 Dd.2.2.1 := by rw [eF52, va_up_ne _ _ (pl_ne hFqm4_40 hFo_40 rfl)]; exact hFqm4_40
                have hFqm5_52 : F52 (qm 5) = cJ (cy 2) 6 Dd.2.2.2 := by rw [eF52, va_up_ne _ _ (pl_ne hFqm5_40 hFo_40 rfl)]; exact hFqm5_40
                have hFqm6_52 : F52 (qm 6) = cI (cy 1) 8 Sl.1 := by rw [eF52, va_up_ne _ _ (pl_ne hFqm6_40 hFo_40 rfl)]; exact hFqm6_40
                have hFqm7_52 : F52 (qm 7) = cJ (cy 2) 128 Sl.2 := by rw [eF52, va_up_ne _ _ (pl_ne hFqm7_40 hFo_40 rfl)]; exact hFqm7_40
                have hFqm8_52 : F52 (qm 8) = cI (cy 1) 30 Pp.2.1 := by rw [eF52, va_up_ne _ _ (pl_ne hFqm8_40 hFo_40 rfl)]; exact hFqm8_40
                have hFqm9_52 : F52 (qm 9) = cI (cy 3) 30 Pp.2.2 := by rw [eF52, va_up_ne _ _ (pl_ne hFqm9_40 hFo_40 rfl)]; exact hFqm9_40
                have hFqm10_52 : F52 (qm 10) = cI (cy 1) 5 Kr.1 := by rw [eF52, va_up_ne _ _ (pl_ne hFqm10_40 hFo_40 rfl)]; exact hFqm10_40
                have hFqm11_52 : F52 (qm 11) = cI (cy 3) 5 Kr.2.1 := by rw [eF52, va_up_ne _ _ (pl_ne hFqm11_40 hFo_40 rfl)]; exact hFqm11_40
                have hFqm12_52 : F52 (qm 12) = cI (cy 1) 60 Kr.2.2 := by rw [eF52, va_up_ne _ _ (pl_ne hFqm12_40 hFo_40 rfl)]; exact hFqm12_40
                have hFqm13_52 : F52 (qm 13) = cI (cy 1) 4 Bk.1 := by rw [eF52, va_up_ne _ _ (pl_ne hFqm13_40 hFo_40 rfl)]; exact hFqm13_40
                have hFqm14_52 : F52 (qm 14) = cD (cy 0) 4 Bk.2 := by rw [eF52, va_up_ne _ _ (pl_ne hFqm14_40 hFo_40 rfl)]; exact hFqm14_40
                have hFqm15_52 : F52 (qm 15) = cI (cy 1) 6 Xx.2 := by rw [eF52, va_up_ne _ _ (pl_ne hFqm15_40 hFo_40 rfl)]; exact hFqm15_40
                refine lv_goto (tgt := 201) hx hb dX9_reckon_183 (by decide) ?_
                refine lv_aload_n hx hb dX9_reckon_201 rfl (lv_at hl 3 rfl) ?_
                refine pg_get (ci := 8) (C := RX9) (T := TX9) (N := 20) hx hb hts hinX9 hown hK hP hmo hFo_52 rfl 17 (by decide) (hts (.fieldLink RX9 65 "RopeDrumsModel" "failed" "I") (by decide +kernel)) (fun _ h9 => h9) rfl dX9_reckon_202 ?_
                refine lv_if_ne (tgt := 228) hx hb dX9_reckon_205 (by decide) (fun c53 => ?_) (fun c53 => absurd c53 (by decide))
                refine lv_aload_n hx hb dX9_reckon_228 rfl (lv_at hl 3 rfl) ?_
                refine lv_iload hx hb dX9_reckon_229 (lv_at hl 2 rfl) ?_
                refine va_calli (va_runV (As := [.int (mx (Mm.1 j_x) (Mm.1 j_y))]) (rest := []) ⟨hx, hb, hml, hown, hts⟩ (c9_answers_5 l G cy L F52 H.size o qm 0 Pp.1 oc hmo hFo_52 Xx.2 hm15 hFqm15_52 (mx (Mm.1 j_x) (Mm.1 j_y))) (cwV 1 hts gX9_reckon_X9_answers rfl rfl rfl (by decide +kernel) ⟨Nat.le_of_ble_eq_true rfl, Nat.le_of_ble_eq_true rfl⟩) (preV_of okQ (⟨rfl, hP, hK, hD.top⟩) (pl_recv hK hP (ci := 8) rfl hmo hFo_52)) rfl rfl hl.1 rfl (lv_room (Nat.le_of_ble_eq_true rfl)) dX9_reckon_231 ⟨Nat.le_of_ble_eq_true rfl, Nat.le_of_ble_eq_true rfl⟩) hS (fun q _ h => pl_free hD hS hA q h) (pl_free hD hS hA) (fun r55 F54 t H1 locs ht hvm hw hP1 hz1 hk1 hS => ?_)
                have hP1 : va_P G vwCl (va_pl L F54) t.heap := hP1
                rw [ht] at hP1
                have hP := hP1
                generalize H1 = H at hP hS ⊢
                obtain ⟨hqr55, eF54⟩ := hw
                have eF54 : F54 = va_up F52 (qm 15) (cI (cy 1) 6 (upd Xx.2 5 (Xx.2 5 + 1))) := eF54
                have hFo_55 : F54 o = .inr (8, [.int 0, .ref (qm 0), .ref (qm 1), .ref (qm 2), .ref (qm 3), .ref (qm 4), .ref (qm 5), .ref (qm 6), .ref (qm 7), .int Pp.1, .ref (qm 8), .ref (qm 9), .ref (qm 10), .ref (qm 11), .ref (qm 12), .ref (qm 13), .ref (qm 14), .int 5, .ref (qm 15), .long oc]) := by rw [eF54, va_up_ne _ _ (pl_ne hFo_52 hFqm15_52 rfl)]; exact hFo_52
                have hFqm0_55 : F54 (qm 0) = cI (cy 1) 10 Mm.1 := by rw [eF54, va_up_ne _ _ (pl_ne hFqm0_52 hFqm15_52 rfl)]; exact hFqm0_52
                have hFqm1_55 : F54 (qm 1) = cJ (cy 2) 10 Mm.2 := by rw [eF54, va_up_ne _ _ (pl_ne hFqm1_52 hFqm15_52 rfl)]; exact hFqm1_52
                have hFqm2_55 : F54 (qm 2) = cD (cy 0) 6 Dd.1 := by rw [eF54, va_up_ne _ _ (pl_ne hFqm2_52 hFqm15_52 rfl)]; exact hFqm2_52
                have hFqm3_55 : F54 (qm 3) = cD (cy 0) 6 Dd.2.1 := by rw [eF54, va_up_ne _ _ (pl_ne hFqm3_52 hFqm15_52 rfl)]; exact hFqm3_52
                have hFqm4_55 : F54 (qm 4) = cD (cy 0) 6 Dd.2.2.1 := by rw [eF54, va_up_ne _ _ (pl_ne hFqm4_52 hFqm15_52 rfl)]; exact hFqm4_52
                have hFqm5_55 : F54 (qm 5) = cJ (cy 2) 6 Dd.2.2.2 := by rw [eF54, va_up_ne _ _ (pl_ne hFqm5_52 hFqm15_52 rfl)]; exact hFqm5_52
                have hFqm6_55 : F54 (qm 6) = cI (cy 1) 8 Sl.1 := by rw [eF54, va_up_ne _ _ (pl_ne hFqm6_52 hFqm15_52 rfl)]; exact hFqm6_52
                have hFqm7_55 : F54 (qm 7) = cJ (cy 2) 128 Sl.2 := by rw [eF54, va_up_ne _ _ (pl_ne hFqm7_52 hFqm15_52 rfl)]; exact hFqm7_52
                have hFqm8_55 : F54 (qm 8) = cI (cy 1) 30 Pp.2.1 := by rw [eF54, va_up_ne _ _ (pl_ne hFqm8_52 hFqm15_52 rfl)]; exact hFqm8_52
                have hFqm9_55 : F54 (qm 9) = cI (cy 3) 30 Pp.2.2 := by rw [eF54, va_up_ne _ _ (pl_ne hFqm9_52 hFqm15_52 rfl)]; exact hFqm9_52
                have hFqm10_55 : F54 (qm 10) = cI (cy 1) 5 Kr.1 := by rw [eF54, va_up_ne _ _ (pl_ne hFqm10_52 hFqm15_52 rfl)]; exact hFqm10_52
                have hFqm11_55 : F54 (qm 11) = cI (cy 3) 5 Kr.2.1 := by rw [eF54, va_up_ne _ _ (pl_ne hFqm11_52 hFqm15_52 rfl)]; exact hFqm11_52
                have hFqm12_55 : F54 (qm 12) = cI (cy 1) 60 Kr.2.2 := by rw [eF54, va_up_ne _ _ (pl_ne hFqm12_52 hFqm15_52 rfl)]; exact hFqm12_52
                have hFqm13_55 : F54 (qm 13) = cI (cy 1) 4 Bk.1 := by rw [eF54, va_up_ne _ _ (pl_ne hFqm13_52 hFqm15_52 rfl)]; exact hFqm13_52
                have hFqm14_55 : F54 (qm 14) = cD (cy 0) 4 Bk.2 := by rw [eF54, va_up_ne _ _ (pl_ne hFqm14_52 hFqm15_52 rfl)]; exact hFqm14_52
                have hFqm15_55 : F54 (qm 15) = cI (cy 1) 6 (upd Xx.2 5 (Xx.2 5 + 1)) := by rw [eF54]; exact va_up_self _ _ _
                have hr55 := hqr55
                exact W.iret (v := r55) hx hb hr (fun t ht hW => ⟨⟨r55, F54, rfl, (by subst hr55 hr51 hr50 hr47 ev46 ev45 hr44 ev43 ev42 ev37; have hsp : sp_reckon Mm Xx 3 (nI j_x) (nI j_y) (nI j_into) = (-15, Mm, failX Xx 5) := (by unfold sp_reckon; rw [hi_x, hi_y, hi_into, ixk.2.2.2.1]; show rk Mm Xx 3 j_x j_y j_into = _; unfold rk; rw [if_neg (hmx.2 h1l).2, if_pos hmxl]; exact if_pos hnan0); rw [hsp]; exact ⟨rfl, (by exact ⟨⟨_, _, hmo, hFo_55⟩, ⟨hm0, hFqm0_55⟩, ⟨hm1, hFqm1_55⟩, ⟨hm2, hFqm2_55⟩, ⟨hm3, hFqm3_55⟩, ⟨hm4, hFqm4_55⟩, ⟨hm5, hFqm5_55⟩, ⟨hm6, hFqm6_55⟩, ⟨hm7, hFqm7_55⟩, ⟨hm8, hFqm8_55⟩, ⟨hm9, hFqm9_55⟩, ⟨hm10, hFqm10_55⟩, ⟨hm11, hFqm11_55⟩, ⟨hm12, hFqm12_55⟩, ⟨hm13, hFqm13_55⟩, ⟨hm14, hFqm14_55⟩, ⟨hm15, hFqm15_55⟩, hne⟩)⟩), (by show va_P _ _ _ t.heap; rw [ht]; exact hP)⟩, hS.F ht⟩) hS.2.2 dX9_reckon_234
              · have hnan : FP.Core.fIsNaN (rkF 3 (fl (tn (Mm.1 j_x) (Mm.2 j_x) 2)) (fl (tn (Mm.1 j_y) (Mm.2 j_y) 2))) = false := Bool.eq_false_iff.mpr hnan0
                refine lv_iload hx hb dX9_reckon_122 (lv_at hl 2 rfl) ?_
                refine lv_iconst (v := 2) hx hb dX9_reckon_124 (by decide) ?_
                refine lv_icmp_ge (tgt := 162) hx hb dX9_reckon_125 (by decide) (fun c56 => ?_) (fun c56 => absurd (by rw [hmxl]; decide) c56)
                refine lv_iload hx hb dX9_reckon_162 (lv_at hl 2 rfl) ?_
                refine lv_iconst (v := 2) hx hb dX9_reckon_164 (by decide) ?_
                refine lv_icmp_ne (tgt := 186) hx hb dX9_reckon_165 (by decide) (fun c57 => absurd (hmxl) c57) (fun c57 => ?_)
                refine lv_aload_n hx hb dX9_reckon_168 rfl (lv_at hl 3 rfl) ?_
                refine lv_iload_n hx hb dX9_reckon_169 rfl (lv_at hl 4 rfl) ?_
                refine lv_lload hx hb dX9_reckon_170 (lv_at hl 1 rfl) ?_
                refine vp_callSf (W.runS (As := [.long r44]) (rest := [.int 3, .ref o]) ⟨hx, hb, hml, hown, hts⟩ (c9_floatOf l r44 (by rw [hr44, ev42, ev43]; exact (by rw [hmxl]; exact tn2_ok (hVM j_x hj_x)))) (va_cwS 1 hts gX9_reckon_X9_floatOf rfl rfl rfl (by decide +kernel) ⟨Nat.le_of_ble_eq_true rfl, Nat.le_of_ble_eq_true rfl⟩) (preS_of okT (trivial)) rfl rfl hl.1 rfl (lv_room (Nat.le_of_ble_eq_true rfl)) dX9_reckon_172 ⟨Nat.le_of_ble_eq_true rfl, Nat.le_of_ble_eq_true rfl⟩) (fun r58 hr58 => ?_)
                refine lv_lload hx hb dX9_reckon_175 (lv_at hl 0 rfl) ?_
                refine vp_callSf (W.runS (As := [.long r47]) (rest := [.float r58, .int 3, .ref o]) ⟨hx, hb, hml, hown, hts⟩ (c9_floatOf l r47 (by rw [hr47, ev45, ev46]; exact (by rw [hmxl]; exact tn2_ok (hVM j_y hj_y)))) (va_cwS 1 hts gX9_reckon_X9_floatOf rfl rfl rfl (by decide +kernel) ⟨Nat.le_of_ble_eq_true rfl, Nat.le_of_ble_eq_true rfl⟩) (preS_of okT (trivial)) rfl rfl hl.1 rfl (lv_room (Nat.le_of_ble_eq_true rfl)) dX9_reckon_177 ⟨Nat.le_of_ble_eq_true rfl, Nat.le_of_ble_eq_true rfl⟩) (fun r59 hr59 => ?_)
                refine va_callv (va_runV (As := [.int 3, .float r58, .float r59]) (rest := []) ⟨hx, hb, hml, hown, hts⟩ (c9_rF_3 l G cy L F40 H.size o qm 0 Pp.1 0 oc hmo hFo_40 r58 r59 (by rw [hr58, hr44, ev42, ev43, hmxl]; exact tn2_ok (hVM j_x hj_x)) (by rw [hr59, hr47, ev45, ev46, hmxl]; exact tn2_ok (hVM j_y hj_y)) (by rw [hr58, hr44, ev42, ev43, hr59, hr47, ev45, ev46, hmxl]; exact hnan)) (cwV 3 hts gX9_reckon_X9_reckonFloats rfl rfl rfl (by decide +kernel) ⟨Nat.le_of_ble_eq_true rfl, Nat.le_of_ble_eq_true rfl⟩) (preV_of okQ (⟨rfl, hP, hK, hD.top⟩) (pl_recv hK hP (ci := 8) rfl hmo hFo_40)) rfl rfl hl.1 rfl (lv_room (Nat.le_of_ble_eq_true rfl)) dX9_reckon_180 ⟨Nat.le_of_ble_eq_true rfl, Nat.le_of_ble_eq_true rfl⟩) hS (fun q _ h => pl_free hD hS hA q h) (pl_free hD hS hA) (fun F60 t H1 locs ht hvm hw hP1 hz1 hk1 hS => ?_)
                have hP1 : va_P G vwCl (va_pl L F60) t.heap := hP1
                rw [ht] at hP1
                have hP := hP1
                generalize H1 = H at hP hS ⊢
                have eF60 : F60 = va_up F40 o (.inr (8, [.int 0, .ref (qm 0), .ref (qm 1), .ref (qm 2), .ref (qm 3), .ref (qm 4), .ref (qm 5), .ref (qm 6), .ref (qm 7), .int Pp.1, .ref (qm 8), .ref (qm 9), .ref (qm 10), .ref (qm 11), .ref (qm 12), .ref (qm 13), .ref (qm 14), .int 0, .ref (qm 15), .long ((FP.fdiv r58 r59).toInt32.toInt64)])) := hw
                have hFo_60 : F60 o = .inr (8, [.int 0, .ref (qm 0), .ref (qm 1), .ref (qm 2), .ref (qm 3), .ref (qm 4), .ref (qm 5), .ref (qm 6), .ref (qm 7), .int Pp.1, .ref (qm 8), .ref (qm 9), .ref (qm 10), .ref (qm 11), .ref (qm 12), .ref (qm 13), .ref (qm 14), .int 0, .ref (qm 15), .long ((FP.fdiv r58 r59).toInt32.toInt64)]) := by rw [eF60]; exact va_up_self _ _ _
                have hFqm0_60 : F60 (qm 0) = cI (cy 1) 10 Mm.1 := by rw [eF60, va_up_ne _ _ (pl_ne hFqm0_40 hFo_40 rfl)]; exact hFqm0_40
                have hFqm1_60 : F60 (qm 1) = cJ (cy 2) 10 Mm.2 := by rw [eF60, va_up_ne _ _ (pl_ne hFqm1_40 hFo_40 rfl)]; exact hFqm1_40
                have hFqm2_60 : F60 (qm 2) = cD (cy 0) 6 Dd.1 := by rw [eF60, va_up_ne _ _ (pl_ne hFqm2_40 hFo_40 rfl)]; exact hFqm2_40
                have hFqm3_60 : F60 (qm 3) = cD (cy 0) 6 Dd.2.1 := by rw [eF60, va_up_ne _ _ (pl_ne hFqm3_40 hFo_40 rfl)]; exact hFqm3_40
                have hFqm4_60 : F60 (qm 4) = cD (cy 0) 6 Dd.2.2.1 := by rw [eF60, va_up_ne _ _ (pl_ne hFqm4_40 hFo_40 rfl)]; exact hFqm4_40
                have hFqm5_60 : F60 (qm 5) = cJ (cy 2) 6 Dd.2.2.2 := by rw [eF60, va_up_ne _ _ (pl_ne hFqm5_40 hFo_40 rfl)]; exact hFqm5_40
                have hFqm6_60 : F60 (qm 6) = cI (cy 1) 8 Sl.1 := by rw [eF60, va_up_ne _ _ (pl_ne hFqm6_40 hFo_40 rfl)]; exact hFqm6_40
                have hFqm7_60 : F60 (qm 7) = cJ (cy 2) 128 Sl.2 := by rw [eF60, va_up_ne _ _ (pl_ne hFqm7_40 hFo_40 rfl)]; exact hFqm7_40
                have hFqm8_60 : F60 (qm 8) = cI (cy 1) 30 Pp.2.1 := by rw [eF60, va_up_ne _ _ (pl_ne hFqm8_40 hFo_40 rfl)]; exact hFqm8_40
                have hFqm9_60 : F60 (qm 9) = cI (cy 3) 30 Pp.2.2 := by rw [eF60, va_up_ne _ _ (pl_ne hFqm9_40 hFo_40 rfl)]; exact hFqm9_40
                have hFqm10_60 : F60 (qm 10) = cI (cy 1) 5 Kr.1 := by rw [eF60, va_up_ne _ _ (pl_ne hFqm10_40 hFo_40 rfl)]; exact hFqm10_40
                have hFqm11_60 : F60 (qm 11) = cI (cy 3) 5 Kr.2.1 := by rw [eF60, va_up_ne _ _ (pl_ne hFqm11_40 hFo_40 rfl)]; exact hFqm11_40
                have hFqm12_60 : F60 (qm 12) = cI (cy 1) 60 Kr.2.2 := by rw [eF60, va_up_ne _ _ (pl_ne hFqm12_40 hFo_40 rfl)]; exact hFqm12_40
                have hFqm13_60 : F60 (qm 13) = cI (cy 1) 4 Bk.1 := by rw [eF60, va_up_ne _ _ (pl_ne hFqm13_40 hFo_40 rfl)]; exact hFqm13_40
                have hFqm14_60 : F60 (qm 14) = cD (cy 0) 4 Bk.2 := by rw [eF60, va_up_ne _ _ (pl_ne hFqm14_40 hFo_40 rfl)]; exact hFqm14_40
                have hFqm15_60 : F60 (qm 15) = cI (cy 1) 6 Xx.2 := by rw [eF60, va_up_ne _ _ (pl_ne hFqm15_40 hFo_40 rfl)]; exact hFqm15_40
                refine lv_goto (tgt := 201) hx hb dX9_reckon_183 (by decide) ?_
                refine lv_aload_n hx hb dX9_reckon_201 rfl (lv_at hl 3 rfl) ?_
                refine pg_get (ci := 8) (C := RX9) (T := TX9) (N := 20) hx hb hts hinX9 hown hK hP hmo hFo_60 rfl 17 (by decide) (hts (.fieldLink RX9 65 "RopeDrumsModel" "failed" "I") (by decide +kernel)) (fun _ h9 => h9) rfl dX9_reckon_202 ?_
                refine lv_if_ne (tgt := 228) hx hb dX9_reckon_205 (by decide) (fun c61 => absurd (by decide) c61) (fun c61 => ?_)
                refine lv_aload_n hx hb dX9_reckon_208 rfl (lv_at hl 3 rfl) ?_
                refine pg_get (ci := 8) (C := RX9) (T := TX9) (N := 20) hx hb hts hinX9 hown hK hP hmo hFo_60 rfl 1 (by decide) (hts (.fieldLink RX9 7 "RopeDrumsModel" "laneOf" "[I") (by decide +kernel)) (fun _ h9 => h9) rfl dX9_reckon_209 ?_
                refine lv_iload hx hb dX9_reckon_212 (lv_at hl 7 rfl) ?_
                refine lv_iload hx hb dX9_reckon_214 (lv_at hl 2 rfl) ?_
                refine pg_iast hx hb hK hP hD hS 1 hm0 hFqm0_60 rfl (vp_in_nI (by omega) (by decide)) dX9_reckon_216 (fun H locs F62 eF62 hP hS => ?_)
                rw [nI_clamp (by omega)] at eF62
                have hFo_62 : F62 o = .inr (8, [.int 0, .ref (qm 0), .ref (qm 1), .ref (qm 2), .ref (qm 3), .ref (qm 4), .ref (qm 5), .ref (qm 6), .ref (qm 7), .int Pp.1, .ref (qm 8), .ref (qm 9), .ref (qm 10), .ref (qm 11), .ref (qm 12), .ref (qm 13), .ref (qm 14), .int 0, .ref (qm 15), .long ((FP.fdiv r58 r59).toInt32.toInt64)]) := by rw [eF62, va_up_ne _ _ (pl_ne hFo_60 hFqm0_60 rfl)]; exact hFo_60
                have hFqm0_62 : F62 (qm 0) = cI (cy 1) 10 (upd Mm.1 j_into (mx (Mm.1 j_x) (Mm.1 j_y))) := by rw [eF62]; exact va_up_self _ _ _
                have hFqm1_62 : F62 (qm 1) = cJ (cy 2) 10 Mm.2 := by rw [eF62, va_up_ne _ _ (pl_ne hFqm1_60 hFqm0_60 rfl)]; exact hFqm1_60
                have hFqm2_62 : F62 (qm 2) = cD (cy 0) 6 Dd.1 := by rw [eF62, va_up_ne _ _ (pl_ne hFqm2_60 hFqm0_60 rfl)]; exact hFqm2_60
                have hFqm3_62 : F62 (qm 3) = cD (cy 0) 6 Dd.2.1 := by rw [eF62, va_up_ne _ _ (pl_ne hFqm3_60 hFqm0_60 rfl)]; exact hFqm3_60
                have hFqm4_62 : F62 (qm 4) = cD (cy 0) 6 Dd.2.2.1 := by rw [eF62, va_up_ne _ _ (pl_ne hFqm4_60 hFqm0_60 rfl)]; exact hFqm4_60
                have hFqm5_62 : F62 (qm 5) = cJ (cy 2) 6 Dd.2.2.2 := by rw [eF62, va_up_ne _ _ (pl_ne hFqm5_60 hFqm0_60 rfl)]; exact hFqm5_60
                have hFqm6_62 : F62 (qm 6) = cI (cy 1) 8 Sl.1 := by rw [eF62, va_up_ne _ _ (pl_ne hFqm6_60 hFqm0_60 rfl)]; exact hFqm6_60
                have hFqm7_62 : F62 (qm 7) = cJ (cy 2) 128 Sl.2 := by rw [eF62, va_up_ne _ _ (pl_ne hFqm7_60 hFqm0_60 rfl)]; exact hFqm7_60
                have hFqm8_62 : F62 (qm 8) = cI (cy 1) 30 Pp.2.1 := by rw [eF62, va_up_ne _ _ (pl_ne hFqm8_60 hFqm0_60 rfl)]; exact hFqm8_60
                have hFqm9_62 : F62 (qm 9) = cI (cy 3) 30 Pp.2.2 := by rw [eF62, va_up_ne _ _ (pl_ne hFqm9_60 hFqm0_60 rfl)]; exact hFqm9_60
                have hFqm10_62 : F62 (qm 10) = cI (cy 1) 5 Kr.1 := by rw [eF62, va_up_ne _ _ (pl_ne hFqm10_60 hFqm0_60 rfl)]; exact hFqm10_60
                have hFqm11_62 : F62 (qm 11) = cI (cy 3) 5 Kr.2.1 := by rw [eF62, va_up_ne _ _ (pl_ne hFqm11_60 hFqm0_60 rfl)]; exact hFqm11_60
                have hFqm12_62 : F62 (qm 12) = cI (cy 1) 60 Kr.2.2 := by rw [eF62, va_up_ne _ _ (pl_ne hFqm12_60 hFqm0_60 rfl)]; exact hFqm12_60
                have hFqm13_62 : F62 (qm 13) = cI (cy 1) 4 Bk.1 := by rw [eF62, va_up_ne _ _ (pl_ne hFqm13_60 hFqm0_60 rfl)]; exact hFqm13_60
                have hFqm14_62 : F62 (qm 14) = cD (cy 0) 4 Bk.2 := by rw [eF62, va_up_ne _ _ (pl_ne hFqm14_60 hFqm0_60 rfl)]; exact hFqm14_60
                have hFqm15_62 : F62 (qm 15) = cI (cy 1) 6 Xx.2 := by rw [eF62, va_up_ne _ _ (pl_ne hFqm15_60 hFqm0_60 rfl)]; exact hFqm15_60
                refine lv_aload_n hx hb dX9_reckon_217 rfl (lv_at hl 3 rfl) ?_
                refine pg_get (ci := 8) (C := RX9) (T := TX9) (N := 20) hx hb hts hinX9 hown hK hP hmo hFo_62 rfl 2 (by decide) (hts (.fieldLink RX9 13 "RopeDrumsModel" "held" "[J") (by decide +kernel)) (fun _ h9 => h9) rfl dX9_reckon_218 ?_
                refine lv_iload hx hb dX9_reckon_221 (lv_at hl 7 rfl) ?_
                refine lv_aload_n hx hb dX9_reckon_223 rfl (lv_at hl 3 rfl) ?_
                refine pg_get (ci := 8) (C := RX9) (T := TX9) (N := 20) hx hb hts hinX9 hown hK hP hmo hFo_62 rfl 19 (by decide) (hts (.fieldLink RX9 131 "RopeDrumsModel" "outcome" "J") (by decide +kernel)) (fun _ h9 => h9) rfl dX9_reckon_224 ?_
                refine pg_last hx hb hK hP hD hS 2 hm1 hFqm1_62 rfl (vp_in_nI (by omega) (by decide)) dX9_reckon_227 (fun H locs F63 eF63 hP hS => ?_)
                rw [nI_clamp (by omega)] at eF63
                have hFo_63 : F63 o = .inr (8, [.int 0, .ref (qm 0), .ref (qm 1), .ref (qm 2), .ref (qm 3), .ref (qm 4), .ref (qm 5), .ref (qm 6), .ref (qm 7), .int Pp.1, .ref (qm 8), .ref (qm 9), .ref (qm 10), .ref (qm 11), .ref (qm 12), .ref (qm 13), .ref (qm 14), .int 0, .ref (qm 15), .long ((FP.fdiv r58 r59).toInt32.toInt64)]) := by rw [eF63, va_up_ne _ _ (pl_ne hFo_62 hFqm1_62 rfl)]; exact hFo_62
                have hFqm0_63 : F63 (qm 0) = cI (cy 1) 10 (upd Mm.1 j_into (mx (Mm.1 j_x) (Mm.1 j_y))) := by rw [eF63, va_up_ne _ _ (pl_ne hFqm0_62 hFqm1_62 rfl)]; exact hFqm0_62
                have hFqm1_63 : F63 (qm 1) = cJ (cy 2) 10 (vp_updL Mm.2 j_into ((FP.fdiv r58 r59).toInt32.toInt64)) := by rw [eF63]; exact va_up_self _ _ _
                have hFqm2_63 : F63 (qm 2) = cD (cy 0) 6 Dd.1 := by rw [eF63, va_up_ne _ _ (pl_ne hFqm2_62 hFqm1_62 rfl)]; exact hFqm2_62
                have hFqm3_63 : F63 (qm 3) = cD (cy 0) 6 Dd.2.1 := by rw [eF63, va_up_ne _ _ (pl_ne hFqm3_62 hFqm1_62 rfl)]; exact hFqm3_62
                have hFqm4_63 : F63 (qm 4) = cD (cy 0) 6 Dd.2.2.1 := by rw [eF63, va_up_ne _ _ (pl_ne hFqm4_62 hFqm1_62 rfl)]; exact hFqm4_62
                have hFqm5_63 : F63 (qm 5) = cJ (cy 2) 6 Dd.2.2.2 := by rw [eF63, va_up_ne _ _ (pl_ne hFqm5_62 hFqm1_62 rfl)]; exact hFqm5_62
                have hFqm6_63 : F63 (qm 6) = cI (cy 1) 8 Sl.1 := by rw [eF63, va_up_ne _ _ (pl_ne hFqm6_62 hFqm1_62 rfl)]; exact hFqm6_62
                have hFqm7_63 : F63 (qm 7) = cJ (cy 2) 128 Sl.2 := by rw [eF63, va_up_ne _ _ (pl_ne hFqm7_62 hFqm1_62 rfl)]; exact hFqm7_62
                have hFqm8_63 : F63 (qm 8) = cI (cy 1) 30 Pp.2.1 := by rw [eF63, va_up_ne _ _ (pl_ne hFqm8_62 hFqm1_62 rfl)]; exact hFqm8_62
                have hFqm9_63 : F63 (qm 9) = cI (cy 3) 30 Pp.2.2 := by rw [eF63, va_up_ne _ _ (pl_ne hFqm9_62 hFqm1_62 rfl)]; exact hFqm9_62
                have hFqm10_63 : F63 (qm 10) = cI (cy 1) 5 Kr.1 := by rw [eF63, va_up_ne _ _ (pl_ne hFqm10_62 hFqm1_62 rfl)]; exact hFqm10_62
                have hFqm11_63 : F63 (qm 11) = cI (cy 3) 5 Kr.2.1 := by rw [eF63, va_up_ne _ _ (pl_ne hFqm11_62 hFqm1_62 rfl)]; exact hFqm11_62
                have hFqm12_63 : F63 (qm 12) = cI (cy 1) 60 Kr.2.2 := by rw [eF63, va_up_ne _ _ (pl_ne hFqm12_62 hFqm1_62 rfl)]; exact hFqm12_62
                have hFqm13_63 : F63 (qm 13) = cI (cy 1) 4 Bk.1 := by rw [eF63, va_up_ne _ _ (pl_ne hFqm13_62 hFqm1_62 rfl)]; exact hFqm13_62
                have hFqm14_63 : F63 (qm 14) = cD (cy 0) 4 Bk.2 := by rw [eF63, va_up_ne _ _ (pl_ne hFqm14_62 hFqm1_62 rfl)]; exact hFqm14_62
                have hFqm15_63 : F63 (qm 15) = cI (cy 1) 6 Xx.2 := by rw [eF63, va_up_ne _ _ (pl_ne hFqm15_62 hFqm1_62 rfl)]; exact hFqm15_62
                refine lv_aload_n hx hb dX9_reckon_228 rfl (lv_at hl 3 rfl) ?_
                refine lv_iload hx hb dX9_reckon_229 (lv_at hl 2 rfl) ?_
                refine va_calli (va_runV (As := [.int (mx (Mm.1 j_x) (Mm.1 j_y))]) (rest := []) ⟨hx, hb, hml, hown, hts⟩ (c9_answers_0 l G cy L F63 H.size o qm 0 Pp.1 ((FP.fdiv r58 r59).toInt32.toInt64) hmo hFo_63 Xx.2 hm15 hFqm15_63 (mx (Mm.1 j_x) (Mm.1 j_y))) (cwV 1 hts gX9_reckon_X9_answers rfl rfl rfl (by decide +kernel) ⟨Nat.le_of_ble_eq_true rfl, Nat.le_of_ble_eq_true rfl⟩) (preV_of okQ (⟨rfl, hP, hK, hD.top⟩) (pl_recv hK hP (ci := 8) rfl hmo hFo_63)) rfl rfl hl.1 rfl (lv_room (Nat.le_of_ble_eq_true rfl)) dX9_reckon_231 ⟨Nat.le_of_ble_eq_true rfl, Nat.le_of_ble_eq_true rfl⟩) hS (fun q _ h => pl_free hD hS hA q h) (pl_free hD hS hA) (fun r65 F64 t H1 locs ht hvm hw hP1 hz1 hk1 hS => ?_)
                have hP1 : va_P G vwCl (va_pl L F64) t.heap := hP1
                rw [ht] at hP1
                have hP := hP1
                generalize H1 = H at hP hS ⊢
                obtain ⟨hqr65, eF64⟩ := hw
                have hFo_F64 : F64 o = .inr (8, [.int 0, .ref (qm 0), .ref (qm 1), .ref (qm 2), .ref (qm 3), .ref (qm 4), .ref (qm 5), .ref (qm 6), .ref (qm 7), .int Pp.1, .ref (qm 8), .ref (qm 9), .ref (qm 10), .ref (qm 11), .ref (qm 12), .ref (qm 13), .ref (qm 14), .int 0, .ref (qm 15), .long ((FP.fdiv r58 r59).toInt32.toInt64)]) := by rw [eF64]; exact hFo_63
                have hFqm0_F64 : F64 (qm 0) = cI (cy 1) 10 (upd Mm.1 j_into (mx (Mm.1 j_x) (Mm.1 j_y))) := by rw [eF64]; exact hFqm0_63
                have hFqm1_F64 : F64 (qm 1) = cJ (cy 2) 10 (vp_updL Mm.2 j_into ((FP.fdiv r58 r59).toInt32.toInt64)) := by rw [eF64]; exact hFqm1_63
                have hFqm2_F64 : F64 (qm 2) = cD (cy 0) 6 Dd.1 := by rw [eF64]; exact hFqm2_63
                have hFqm3_F64 : F64 (qm 3) = cD (cy 0) 6 Dd.2.1 := by rw [eF64]; exact hFqm3_63
                have hFqm4_F64 : F64 (qm 4) = cD (cy 0) 6 Dd.2.2.1 := by rw [eF64]; exact hFqm4_63
                have hFqm5_F64 : F64 (qm 5) = cJ (cy 2) 6 Dd.2.2.2 := by rw [eF64]; exact hFqm5_63
                have hFqm6_F64 : F64 (qm 6) = cI (cy 1) 8 Sl.1 := by rw [eF64]; exact hFqm6_63
                have hFqm7_F64 : F64 (qm 7) = cJ (cy 2) 128 Sl.2 := by rw [eF64]; exact hFqm7_63
                have hFqm8_F64 : F64 (qm 8) = cI (cy 1) 30 Pp.2.1 := by rw [eF64]; exact hFqm8_63
                have hFqm9_F64 : F64 (qm 9) = cI (cy 3) 30 Pp.2.2 := by rw [eF64]; exact hFqm9_63
                have hFqm10_F64 : F64 (qm 10) = cI (cy 1) 5 Kr.1 := by rw [eF64]; exact hFqm10_63
                have hFqm11_F64 : F64 (qm 11) = cI (cy 3) 5 Kr.2.1 := by rw [eF64]; exact hFqm11_63
                have hFqm12_F64 : F64 (qm 12) = cI (cy 1) 60 Kr.2.2 := by rw [eF64]; exact hFqm12_63
                have hFqm13_F64 : F64 (qm 13) = cI (cy 1) 4 Bk.1 := by rw [eF64]; exact hFqm13_63
                have hFqm14_F64 : F64 (qm 14) = cD (cy 0) 4 Bk.2 := by rw [eF64]; exact hFqm14_63
                have hFqm15_F64 : F64 (qm 15) = cI (cy 1) 6 Xx.2 := by rw [eF64]; exact hFqm15_63
                have hr65 := hqr65
                exact W.iret (v := r65) hx hb hr (fun t ht hW => ⟨⟨r65, F64, rfl, (by subst hr65 hr59 hr58 hr47 ev46 ev45 hr44 ev43 ev42 ev37; have hsp : sp_reckon Mm Xx 3 (nI j_x) (nI j_y) (nI j_into) = (2, setM Mm j_into 2 (rkF 3 (fl (tn (Mm.1 j_x) (Mm.2 j_x) 2)) (fl (tn (Mm.1 j_y) (Mm.2 j_y) 2))).toInt32.toInt64, goodX Xx) := (by unfold sp_reckon; rw [hi_x, hi_y, hi_into, ixk.2.2.2.1]; show rk Mm Xx 3 j_x j_y j_into = _; unfold rk; rw [if_neg (hmx.2 h1l).2, if_pos hmxl]; exact if_neg (by rw [hnan]; decide)); rw [hsp]; have hh := hFqm1_F64; have hh0 := hFqm0_F64; rw [hmxl] at hh hh0; exact ⟨hmxl, ⟨⟨_, _, hmo, hFo_F64⟩, ⟨hm0, hh0⟩, ⟨hm1, hh⟩, ⟨hm2, hFqm2_F64⟩, ⟨hm3, hFqm3_F64⟩, ⟨hm4, hFqm4_F64⟩, ⟨hm5, hFqm5_F64⟩, ⟨hm6, hFqm6_F64⟩, ⟨hm7, hFqm7_F64⟩, ⟨hm8, hFqm8_F64⟩, ⟨hm9, hFqm9_F64⟩, ⟨hm10, hFqm10_F64⟩, ⟨hm11, hFqm11_F64⟩, ⟨hm12, hFqm12_F64⟩, ⟨hm13, hFqm13_F64⟩, ⟨hm14, hFqm14_F64⟩, ⟨hm15, hFqm15_F64⟩, hne⟩⟩), (by show va_P _ _ _ t.heap; rw [ht]; exact hP)⟩, hS.F ht⟩) hS.2.2 dX9_reckon_234
            · by_cases hnan0 : FP.Core.dIsNaN (rkD 3 (db (tn (Mm.1 j_x) (Mm.2 j_x) 3)) (db (tn (Mm.1 j_y) (Mm.2 j_y) 3))) = true
              · refine lv_iload hx hb dX9_reckon_122 (lv_at hl 2 rfl) ?_
                refine lv_iconst (v := 2) hx hb dX9_reckon_124 (by decide) ?_
                refine lv_icmp_ge (tgt := 162) hx hb dX9_reckon_125 (by decide) (fun c66 => ?_) (fun c66 => absurd (by rw [hmxl]; decide) c66)
                refine lv_iload hx hb dX9_reckon_162 (lv_at hl 2 rfl) ?_
                refine lv_iconst (v := 2) hx hb dX9_reckon_164 (by decide) ?_
                refine lv_icmp_ne (tgt := 186) hx hb dX9_reckon_165 (by decide) (fun c67 => ?_) (fun c67 => absurd c67 (by rw [hmxl]; decide))
                refine lv_aload_n hx hb dX9_reckon_186 rfl (lv_at hl 3 rfl) ?_
                refine lv_iload_n hx hb dX9_reckon_187 rfl (lv_at hl 4 rfl) ?_
                refine lv_lload hx hb dX9_reckon_188 (lv_at hl 1 rfl) ?_
                refine vp_callSd (W.runS (As := [.long r44]) (rest := [.int 3, .ref o]) ⟨hx, hb, hml, hown, hts⟩ (c9_doubleOf l r44 (by rw [hr44, ev42, ev43]; exact (by rw [hmxl]; exact tn3_ok (hVM j_x hj_x)))) (va_cwS 1 hts gX9_reckon_X9_doubleOf rfl rfl rfl (by decide +kernel) ⟨Nat.le_of_ble_eq_true rfl, Nat.le_of_ble_eq_true rfl⟩) (preS_of okT (trivial)) rfl rfl hl.1 rfl (lv_room (Nat.le_of_ble_eq_true rfl)) dX9_reckon_190 ⟨Nat.le_of_ble_eq_true rfl, Nat.le_of_ble_eq_true rfl⟩) (fun r68 hr68 => ?_)
                refine lv_lload hx hb dX9_reckon_193 (lv_at hl 0 rfl) ?_
                refine vp_callSd (W.runS (As := [.long r47]) (rest := [.double r68, .int 3, .ref o]) ⟨hx, hb, hml, hown, hts⟩ (c9_doubleOf l r47 (by rw [hr47, ev45, ev46]; exact (by rw [hmxl]; exact tn3_ok (hVM j_y hj_y)))) (va_cwS 1 hts gX9_reckon_X9_doubleOf rfl rfl rfl (by decide +kernel) ⟨Nat.le_of_ble_eq_true rfl, Nat.le_of_ble_eq_true rfl⟩) (preS_of okT (trivial)) rfl rfl hl.1 rfl (lv_room (Nat.le_of_ble_eq_true rfl)) dX9_reckon_195 ⟨Nat.le_of_ble_eq_true rfl, Nat.le_of_ble_eq_true rfl⟩) (fun r69 hr69 => ?_)
                refine va_callv (va_runV (As := [.int 3, .double r68, .double r69]) (rest := []) ⟨hx, hb, hml, hown, hts⟩ (c9_rD_3_no l G cy L F40 H.size o qm 0 Pp.1 0 oc hmo hFo_40 r68 r69 (by rw [hr68, hr44, ev42, ev43, hmxl]; exact tn3_ok (hVM j_x hj_x)) (by rw [hr69, hr47, ev45, ev46, hmxl]; exact tn3_ok (hVM j_y hj_y)) (by rw [hr68, hr44, ev42, ev43, hr69, hr47, ev45, ev46, hmxl]; exact hnan0)) (cwV 3 hts gX9_reckon_X9_reckonDoubles rfl rfl rfl (by decide +kernel) ⟨Nat.le_of_ble_eq_true rfl, Nat.le_of_ble_eq_true rfl⟩) (preV_of okQ (⟨rfl, hP, hK, hD.top⟩) (pl_recv hK hP (ci := 8) rfl hmo hFo_40)) rfl rfl hl.1 rfl (lv_room (Nat.le_of_ble_eq_true rfl)) dX9_reckon_198 ⟨Nat.le_of_ble_eq_true rfl, Nat.le_of_ble_eq_true rfl⟩) hS (fun q _ h => pl_free hD hS hA q h) (pl_free hD hS hA) (fun F70 t H1 locs ht hvm hw hP1 hz1 hk1 hS => ?_)
                have hP1 : va_P G vwCl (va_pl L F70) t.heap := hP1
                rw [ht] at hP1
                have hP := hP1
                generalize H1 = H at hP hS ⊢
                have eF70 : F70 = va_up F40 o (.inr (8, [.int 0, .ref (qm 0), .ref (qm 1), .ref (qm 2), .ref (qm 3), .ref (qm 4), .ref (qm 5), .ref (qm 6), .ref (qm 7), .int Pp.1, .ref (qm 8), .ref (qm 9), .ref (qm 10), .ref (qm 11), .ref (qm 12), .ref (qm 13), .ref (qm 14), .int 5, .ref (qm 15), .long oc])) := hw
                have hFo_70 : F70 o = .inr (8, [.int 0, .ref (qm 0), .ref (qm 1), .ref (qm 2), .ref (qm 3), .ref (qm 4), .ref (qm 5), .ref (qm 6), .ref (qm 7), .int Pp.1, .ref (qm 8), .ref (qm 9), .ref (qm 10), .ref (qm 11), .ref (qm 12), .ref (qm 13), .ref (qm 14), .int 5, .ref (qm 15), .long oc]) := by rw [eF70]; exact va_up_self _ _ _
                have hFqm0_70 : F70 (qm 0) = cI (cy 1) 10 Mm.1 := by rw [eF70, va_up_ne _ _ (pl_ne hFqm0_40 hFo_40 rfl)]; exact hFqm0_40
                have hFqm1_70 : F70 (qm 1) = cJ (cy 2) 10 Mm.2 := by rw [eF70, va_up_ne _ _ (pl_ne hFqm1_40 hFo_40 rfl)]; exact hFqm1_40
                have hFqm2_70 : F70 (qm 2) = cD (cy 0) 6 Dd.1 := by rw [eF70, va_up_ne _ _ (pl_ne hFqm2_40 hFo_40 rfl)]; exact hFqm2_40
                have hFqm3_70 : F70 (qm 3) = cD (cy 0) 6 Dd.2.1 := by rw [eF70, va_up_ne _ _ (pl_ne hFqm3_40 hFo_40 rfl)]; exact hFqm3_40
                have hFqm4_70 : F70 (qm 4) = cD (cy 0) 6 Dd.2.2.1 := by rw [eF70, va_up_ne _ _ (pl_ne hFqm4_40 hFo_40 rfl)]; exact hFqm4_40
                have hFqm5_70 : F70 (qm 5) = cJ (cy 2) 6 Dd.2.2.2 := by rw [eF70, va_up_ne _ _ (pl_ne hFqm5_40 hFo_40 rfl)]; exact hFqm5_40
                have hFqm6_70 : F70 (qm 6) = cI (cy 1) 8 Sl.1 := by rw [eF70, va_up_ne _ _ (pl_ne hFqm6_40 hFo_40 rfl)]; exact hFqm6_40
                have hFqm7_70 : F70 (qm 7) = cJ (cy 2) 128 Sl.2 := by rw [eF70, va_up_ne _ _ (pl_ne hFqm7_40 hFo_40 rfl)]; exact hFqm7_40
                have hFqm8_70 : F70 (qm 8) = cI (cy 1) 30 Pp.2.1 := by rw [eF70, va_up_ne _ _ (pl_ne hFqm8_40 hFo_40 rfl)]; exact hFqm8_40
                have hFqm9_70 : F70 (qm 9) = cI (cy 3) 30 Pp.2.2 := by rw [eF70, va_up_ne _ _ (pl_ne hFqm9_40 hFo_40 rfl)]; exact hFqm9_40
                have hFqm10_70 : F70 (qm 10) = cI (cy 1) 5 Kr.1 := by rw [eF70, va_up_ne _ _ (pl_ne hFqm10_40 hFo_40 rfl)]; exact hFqm10_40
                have hFqm11_70 : F70 (qm 11) = cI (cy 3) 5 Kr.2.1 := by rw [eF70, va_up_ne _ _ (pl_ne hFqm11_40 hFo_40 rfl)]; exact hFqm11_40
                have hFqm12_70 : F70 (qm 12) = cI (cy 1) 60 Kr.2.2 := by rw [eF70, va_up_ne _ _ (pl_ne hFqm12_40 hFo_40 rfl)]; exact hFqm12_40
                have hFqm13_70 : F70 (qm 13) = cI (cy 1) 4 Bk.1 := by rw [eF70, va_up_ne _ _ (pl_ne hFqm13_40 hFo_40 rfl)]; exact hFqm13_40
                have hFqm14_70 : F70 (qm 14) = cD (cy 0) 4 Bk.2 := by rw [eF70, va_up_ne _ _ (pl_ne hFqm14_40 hFo_40 rfl)]; exact hFqm14_40
                have hFqm15_70 : F70 (qm 15) = cI (cy 1) 6 Xx.2 := by rw [eF70, va_up_ne _ _ (pl_ne hFqm15_40 hFo_40 rfl)]; exact hFqm15_40
                refine lv_aload_n hx hb dX9_reckon_201 rfl (lv_at hl 3 rfl) ?_
                refine pg_get (ci := 8) (C := RX9) (T := TX9) (N := 20) hx hb hts hinX9 hown hK hP hmo hFo_70 rfl 17 (by decide) (hts (.fieldLink RX9 65 "RopeDrumsModel" "failed" "I") (by decide +kernel)) (fun _ h9 => h9) rfl dX9_reckon_202 ?_
                refine lv_if_ne (tgt := 228) hx hb dX9_reckon_205 (by decide) (fun c71 => ?_) (fun c71 => absurd c71 (by decide))
                refine lv_aload_n hx hb dX9_reckon_228 rfl (lv_at hl 3 rfl) ?_
                refine lv_iload hx hb dX9_reckon_229 (lv_at hl 2 rfl) ?_
                refine va_calli (va_runV (As := [.int (mx (Mm.1 j_x) (Mm.1 j_y))]) (rest := []) ⟨hx, hb, hml, hown, hts⟩ (c9_answers_5 l G cy L F70 H.size o qm 0 Pp.1 oc hmo hFo_70 Xx.2 hm15 hFqm15_70 (mx (Mm.1 j_x) (Mm.1 j_y))) (cwV 1 hts gX9_reckon_X9_answers rfl rfl rfl (by decide +kernel) ⟨Nat.le_of_ble_eq_true rfl, Nat.le_of_ble_eq_true rfl⟩) (preV_of okQ (⟨rfl, hP, hK, hD.top⟩) (pl_recv hK hP (ci := 8) rfl hmo hFo_70)) rfl rfl hl.1 rfl (lv_room (Nat.le_of_ble_eq_true rfl)) dX9_reckon_231 ⟨Nat.le_of_ble_eq_true rfl, Nat.le_of_ble_eq_true rfl⟩) hS (fun q _ h => pl_free hD hS hA q h) (pl_free hD hS hA) (fun r73 F72 t H1 locs ht hvm hw hP1 hz1 hk1 hS => ?_)
                have hP1 : va_P G vwCl (va_pl L F72) t.heap := hP1
                rw [ht] at hP1
                have hP := hP1
                generalize H1 = H at hP hS ⊢
                obtain ⟨hqr73, eF72⟩ := hw
                have eF72 : F72 = va_up F70 (qm 15) (cI (cy 1) 6 (upd Xx.2 5 (Xx.2 5 + 1))) := eF72
                have hFo_73 : F72 o = .inr (8, [.int 0, .ref (qm 0), .ref (qm 1), .ref (qm 2), .ref (qm 3), .ref (qm 4), .ref (qm 5), .ref (qm 6), .ref (qm 7), .int Pp.1, .ref (qm 8), .ref (qm 9), .ref (qm 10), .ref (qm 11), .ref (qm 12), .ref (qm 13), .ref (qm 14), .int 5, .ref (qm 15), .long oc]) := by rw [eF72, va_up_ne _ _ (pl_ne hFo_70 hFqm15_70 rfl)]; exact hFo_70
                have hFqm0_73 : F72 (qm 0) = cI (cy 1) 10 Mm.1 := by rw [eF72, va_up_ne _ _ (pl_ne hFqm0_70 hFqm15_70 rfl)]; exact hFqm0_70
                have hFqm1_73 : F72 (qm 1) = cJ (cy 2) 10 Mm.2 := by rw [eF72, va_up_ne _ _ (pl_ne hFqm1_70 hFqm15_70 rfl)]; exact hFqm1_70
                have hFqm2_73 : F72 (qm 2) = cD (cy 0) 6 Dd.1 := by rw [eF72, va_up_ne _ _ (pl_ne hFqm2_70 hFqm15_70 rfl)]; exact hFqm2_70
                have hFqm3_73 : F72 (qm 3) = cD (cy 0) 6 Dd.2.1 := by rw [eF72, va_up_ne _ _ (pl_ne hFqm3_70 hFqm15_70 rfl)]; exact hFqm3_70
                have hFqm4_73 : F72 (qm 4) = cD (cy 0) 6 Dd.2.2.1 := by rw [eF72, va_up_ne _ _ (pl_ne hFqm4_70 hFqm15_70 rfl)]; exact hFqm4_70
                have hFqm5_73 : F72 (qm 5) = cJ (cy 2) 6 Dd.2.2.2 := by rw [eF72, va_up_ne _ _ (pl_ne hFqm5_70 hFqm15_70 rfl)]; exact hFqm5_70
                have hFqm6_73 : F72 (qm 6) = cI (cy 1) 8 Sl.1 := by rw [eF72, va_up_ne _ _ (pl_ne hFqm6_70 hFqm15_70 rfl)]; exact hFqm6_70
                have hFqm7_73 : F72 (qm 7) = cJ (cy 2) 128 Sl.2 := by rw [eF72, va_up_ne _ _ (pl_ne hFqm7_70 hFqm15_70 rfl)]; exact hFqm7_70
                have hFqm8_73 : F72 (qm 8) = cI (cy 1) 30 Pp.2.1 := by rw [eF72, va_up_ne _ _ (pl_ne hFqm8_70 hFqm15_70 rfl)]; exact hFqm8_70
                have hFqm9_73 : F72 (qm 9) = cI (cy 3) 30 Pp.2.2 := by rw [eF72, va_up_ne _ _ (pl_ne hFqm9_70 hFqm15_70 rfl)]; exact hFqm9_70
                have hFqm10_73 : F72 (qm 10) = cI (cy 1) 5 Kr.1 := by rw [eF72, va_up_ne _ _ (pl_ne hFqm10_70 hFqm15_70 rfl)]; exact hFqm10_70
                have hFqm11_73 : F72 (qm 11) = cI (cy 3) 5 Kr.2.1 := by rw [eF72, va_up_ne _ _ (pl_ne hFqm11_70 hFqm15_70 rfl)]; exact hFqm11_70
                have hFqm12_73 : F72 (qm 12) = cI (cy 1) 60 Kr.2.2 := by rw [eF72, va_up_ne _ _ (pl_ne hFqm12_70 hFqm15_70 rfl)]; exact hFqm12_70
                have hFqm13_73 : F72 (qm 13) = cI (cy 1) 4 Bk.1 := by rw [eF72, va_up_ne _ _ (pl_ne hFqm13_70 hFqm15_70 rfl)]; exact hFqm13_70
                have hFqm14_73 : F72 (qm 14) = cD (cy 0) 4 Bk.2 := by rw [eF72, va_up_ne _ _ (pl_ne hFqm14_70 hFqm15_70 rfl)]; exact hFqm14_70
                have hFqm15_73 : F72 (qm 15) = cI (cy 1) 6 (upd Xx.2 5 (Xx.2 5 + 1)) := by rw [eF72]; exact va_up_self _ _ _
                have hr73 := hqr73
                exact W.iret (v := r73) hx hb hr (fun t ht hW => ⟨⟨r73, F72, rfl, (by subst hr73 hr69 hr68 hr47 ev46 ev45 hr44 ev43 ev42 ev37; have hsp : sp_reckon Mm Xx 3 (nI j_x) (nI j_y) (nI j_into) = (-15, Mm, failX Xx 5) := (by unfold sp_reckon; rw [hi_x, hi_y, hi_into, ixk.2.2.2.1]; show rk Mm Xx 3 j_x j_y j_into = _; unfold rk; rw [if_neg (hmx.2 h1l).2, if_neg (by rw [hmxl]; decide)]; exact if_pos hnan0); rw [hsp]; exact ⟨rfl, (by exact ⟨⟨_, _, hmo, hFo_73⟩, ⟨hm0, hFqm0_73⟩, ⟨hm1, hFqm1_73⟩, ⟨hm2, hFqm2_73⟩, ⟨hm3, hFqm3_73⟩, ⟨hm4, hFqm4_73⟩, ⟨hm5, hFqm5_73⟩, ⟨hm6, hFqm6_73⟩, ⟨hm7, hFqm7_73⟩, ⟨hm8, hFqm8_73⟩, ⟨hm9, hFqm9_73⟩, ⟨hm10, hFqm10_73⟩, ⟨hm11, hFqm11_73⟩, ⟨hm12, hFqm12_73⟩, ⟨hm13, hFqm13_73⟩, ⟨hm14, hFqm14_73⟩, ⟨hm15, hFqm15_73⟩, hne⟩)⟩), (by show va_P _ _ _ t.heap; rw [ht]; exact hP)⟩, hS.F ht⟩) hS.2.2 dX9_reckon_234
              · have hnan : FP.Core.dIsNaN (rkD 3 (db (tn (Mm.1 j_x) (Mm.2 j_x) 3)) (db (tn (Mm.1 j_y) (Mm.2 j_y) 3))) = false := Bool.eq_false_iff.mpr hnan0
                refine lv_iload hx hb dX9_reckon_122 (lv_at hl 2 rfl) ?_
                refine lv_iconst (v := 2) hx hb dX9_reckon_124 (by decide) ?_
                refine lv_icmp_ge (tgt := 162) hx hb dX9_reckon_125 (by decide) (fun c74 => ?_) (fun c74 => absurd (by rw [hmxl]; decide) c74)
                refine lv_iload hx hb dX9_reckon_162 (lv_at hl 2 rfl) ?_
                refine lv_iconst (v := 2) hx hb dX9_reckon_164 (by decide) ?_
                refine lv_icmp_ne (tgt := 186) hx hb dX9_reckon_165 (by decide) (fun c75 => ?_) (fun c75 => absurd c75 (by rw [hmxl]; decide))
                refine lv_aload_n hx hb dX9_reckon_186 rfl (lv_at hl 3 rfl) ?_
                refine lv_iload_n hx hb dX9_reckon_187 rfl (lv_at hl 4 rfl) ?_
                refine lv_lload hx hb dX9_reckon_188 (lv_at hl 1 rfl) ?_
                refine vp_callSd (W.runS (As := [.long r44]) (rest := [.int 3, .ref o]) ⟨hx, hb, hml, hown, hts⟩ (c9_doubleOf l r44 (by rw [hr44, ev42, ev43]; exact (by rw [hmxl]; exact tn3_ok (hVM j_x hj_x)))) (va_cwS 1 hts gX9_reckon_X9_doubleOf rfl rfl rfl (by decide +kernel) ⟨Nat.le_of_ble_eq_true rfl, Nat.le_of_ble_eq_true rfl⟩) (preS_of okT (trivial)) rfl rfl hl.1 rfl (lv_room (Nat.le_of_ble_eq_true rfl)) dX9_reckon_190 ⟨Nat.le_of_ble_eq_true rfl, Nat.le_of_ble_eq_true rfl⟩) (fun r76 hr76 => ?_)
                refine lv_lload hx hb dX9_reckon_193 (lv_at hl 0 rfl) ?_
                refine vp_callSd (W.runS (As := [.long r47]) (rest := [.double r76, .int 3, .ref o]) ⟨hx, hb, hml, hown, hts⟩ (c9_doubleOf l r47 (by rw [hr47, ev45, ev46]; exact (by rw [hmxl]; exact tn3_ok (hVM j_y hj_y)))) (va_cwS 1 hts gX9_reckon_X9_doubleOf rfl rfl rfl (by decide +kernel) ⟨Nat.le_of_ble_eq_true rfl, Nat.le_of_ble_eq_true rfl⟩) (preS_of okT (trivial)) rfl rfl hl.1 rfl (lv_room (Nat.le_of_ble_eq_true rfl)) dX9_reckon_195 ⟨Nat.le_of_ble_eq_true rfl, Nat.le_of_ble_eq_true rfl⟩) (fun r77 hr77 => ?_)
                refine va_callv (va_runV (As := [.int 3, .double r76, .double r77]) (rest := []) ⟨hx, hb, hml, hown, hts⟩ (c9_rD_3 l G cy L F40 H.size o qm 0 Pp.1 0 oc hmo hFo_40 r76 r77 (by rw [hr76, hr44, ev42, ev43, hmxl]; exact tn3_ok (hVM j_x hj_x)) (by rw [hr77, hr47, ev45, ev46, hmxl]; exact tn3_ok (hVM j_y hj_y)) (by rw [hr76, hr44, ev42, ev43, hr77, hr47, ev45, ev46, hmxl]; exact hnan)) (cwV 3 hts gX9_reckon_X9_reckonDoubles rfl rfl rfl (by decide +kernel) ⟨Nat.le_of_ble_eq_true rfl, Nat.le_of_ble_eq_true rfl⟩) (preV_of okQ (⟨rfl, hP, hK, hD.top⟩) (pl_recv hK hP (ci := 8) rfl hmo hFo_40)) rfl rfl hl.1 rfl (lv_room (Nat.le_of_ble_eq_true rfl)) dX9_reckon_198 ⟨Nat.le_of_ble_eq_true rfl, Nat.le_of_ble_eq_true rfl⟩) hS (fun q _ h => pl_free hD hS hA q h) (pl_free hD hS hA) (fun F78 t H1 locs ht hvm hw hP1 hz1 hk1 hS => ?_)
                have hP1 : va_P G vwCl (va_pl L F78) t.heap := hP1
                rw [ht] at hP1
                have hP := hP1
                generalize H1 = H at hP hS ⊢
                have eF78 : F78 = va_up F40 o (.inr (8, [.int 0, .ref (qm 0), .ref (qm 1), .ref (qm 2), .ref (qm 3), .ref (qm 4), .ref (qm 5), .ref (qm 6), .ref (qm 7), .int Pp.1, .ref (qm 8), .ref (qm 9), .ref (qm 10), .ref (qm 11), .ref (qm 12), .ref (qm 13), .ref (qm 14), .int 0, .ref (qm 15), .long ((FP.ddiv r76 r77).toInt64)])) := hw
                have hFo_78 : F78 o = .inr (8, [.int 0, .ref (qm 0), .ref (qm 1), .ref (qm 2), .ref (qm 3), .ref (qm 4), .ref (qm 5), .ref (qm 6), .ref (qm 7), .int Pp.1, .ref (qm 8), .ref (qm 9), .ref (qm 10), .ref (qm 11), .ref (qm 12), .ref (qm 13), .ref (qm 14), .int 0, .ref (qm 15), .long ((FP.ddiv r76 r77).toInt64)]) := by rw [eF78]; exact va_up_self _ _ _
                have hFqm0_78 : F78 (qm 0) = cI (cy 1) 10 Mm.1 := by rw [eF78, va_up_ne _ _ (pl_ne hFqm0_40 hFo_40 rfl)]; exact hFqm0_40
                have hFqm1_78 : F78 (qm 1) = cJ (cy 2) 10 Mm.2 := by rw [eF78, va_up_ne _ _ (pl_ne hFqm1_40 hFo_40 rfl)]; exact hFqm1_40
                have hFqm2_78 : F78 (qm 2) = cD (cy 0) 6 Dd.1 := by rw [eF78, va_up_ne _ _ (pl_ne hFqm2_40 hFo_40 rfl)]; exact hFqm2_40
                have hFqm3_78 : F78 (qm 3) = cD (cy 0) 6 Dd.2.1 := by rw [eF78, va_up_ne _ _ (pl_ne hFqm3_40 hFo_40 rfl)]; exact hFqm3_40
                have hFqm4_78 : F78 (qm 4) = cD (cy 0) 6 Dd.2.2.1 := by rw [eF78, va_up_ne _ _ (pl_ne hFqm4_40 hFo_40 rfl)]; exact hFqm4_40
                have hFqm5_78 : F78 (qm 5) = cJ (cy 2) 6 Dd.2.2.2 := by rw [eF78, va_up_ne _ _ (pl_ne hFqm5_40 hFo_40 rfl)]; exact hFqm5_40
                have hFqm6_78 : F78 (qm 6) = cI (cy 1) 8 Sl.1 := by rw [eF78, va_up_ne _ _ (pl_ne hFqm6_40 hFo_40 rfl)]; exact hFqm6_40
                have hFqm7_78 : F78 (qm 7) = cJ (cy 2) 128 Sl.2 := by rw [eF78, va_up_ne _ _ (pl_ne hFqm7_40 hFo_40 rfl)]; exact hFqm7_40
                have hFqm8_78 : F78 (qm 8) = cI (cy 1) 30 Pp.2.1 := by rw [eF78, va_up_ne _ _ (pl_ne hFqm8_40 hFo_40 rfl)]; exact hFqm8_40
                have hFqm9_78 : F78 (qm 9) = cI (cy 3) 30 Pp.2.2 := by rw [eF78, va_up_ne _ _ (pl_ne hFqm9_40 hFo_40 rfl)]; exact hFqm9_40
                have hFqm10_78 : F78 (qm 10) = cI (cy 1) 5 Kr.1 := by rw [eF78, va_up_ne _ _ (pl_ne hFqm10_40 hFo_40 rfl)]; exact hFqm10_40
                have hFqm11_78 : F78 (qm 11) = cI (cy 3) 5 Kr.2.1 := by rw [eF78, va_up_ne _ _ (pl_ne hFqm11_40 hFo_40 rfl)]; exact hFqm11_40
                have hFqm12_78 : F78 (qm 12) = cI (cy 1) 60 Kr.2.2 := by rw [eF78, va_up_ne _ _ (pl_ne hFqm12_40 hFo_40 rfl)]; exact hFqm12_40
                have hFqm13_78 : F78 (qm 13) = cI (cy 1) 4 Bk.1 := by rw [eF78, va_up_ne _ _ (pl_ne hFqm13_40 hFo_40 rfl)]; exact hFqm13_40
                have hFqm14_78 : F78 (qm 14) = cD (cy 0) 4 Bk.2 := by rw [eF78, va_up_ne _ _ (pl_ne hFqm14_40 hFo_40 rfl)]; exact hFqm14_40
                have hFqm15_78 : F78 (qm 15) = cI (cy 1) 6 Xx.2 := by rw [eF78, va_up_ne _ _ (pl_ne hFqm15_40 hFo_40 rfl)]; exact hFqm15_40
                refine lv_aload_n hx hb dX9_reckon_201 rfl (lv_at hl 3 rfl) ?_
                refine pg_get (ci := 8) (C := RX9) (T := TX9) (N := 20) hx hb hts hinX9 hown hK hP hmo hFo_78 rfl 17 (by decide) (hts (.fieldLink RX9 65 "RopeDrumsModel" "failed" "I") (by decide +kernel)) (fun _ h9 => h9) rfl dX9_reckon_202 ?_
                refine lv_if_ne (tgt := 228) hx hb dX9_reckon_205 (by decide) (fun c79 => absurd (by decide) c79) (fun c79 => ?_)
                refine lv_aload_n hx hb dX9_reckon_208 rfl (lv_at hl 3 rfl) ?_
                refine pg_get (ci := 8) (C := RX9) (T := TX9) (N := 20) hx hb hts hinX9 hown hK hP hmo hFo_78 rfl 1 (by decide) (hts (.fieldLink RX9 7 "RopeDrumsModel" "laneOf" "[I") (by decide +kernel)) (fun _ h9 => h9) rfl dX9_reckon_209 ?_
                refine lv_iload hx hb dX9_reckon_212 (lv_at hl 7 rfl) ?_
                refine lv_iload hx hb dX9_reckon_214 (lv_at hl 2 rfl) ?_
                refine pg_iast hx hb hK hP hD hS 1 hm0 hFqm0_78 rfl (vp_in_nI (by omega) (by decide)) dX9_reckon_216 (fun H locs F80 eF80 hP hS => ?_)
                rw [nI_clamp (by omega)] at eF80
                have hFo_80 : F80 o = .inr (8, [.int 0, .ref (qm 0), .ref (qm 1), .ref (qm 2), .ref (qm 3), .ref (qm 4), .ref (qm 5), .ref (qm 6), .ref (qm 7), .int Pp.1, .ref (qm 8), .ref (qm 9), .ref (qm 10), .ref (qm 11), .ref (qm 12), .ref (qm 13), .ref (qm 14), .int 0, .ref (qm 15), .long ((FP.ddiv r76 r77).toInt64)]) := by rw [eF80, va_up_ne _ _ (pl_ne hFo_78 hFqm0_78 rfl)]; exact hFo_78
                have hFqm0_80 : F80 (qm 0) = cI (cy 1) 10 (upd Mm.1 j_into (mx (Mm.1 j_x) (Mm.1 j_y))) := by rw [eF80]; exact va_up_self _ _ _
                have hFqm1_80 : F80 (qm 1) = cJ (cy 2) 10 Mm.2 := by rw [eF80, va_up_ne _ _ (pl_ne hFqm1_78 hFqm0_78 rfl)]; exact hFqm1_78
                have hFqm2_80 : F80 (qm 2) = cD (cy 0) 6 Dd.1 := by rw [eF80, va_up_ne _ _ (pl_ne hFqm2_78 hFqm0_78 rfl)]; exact hFqm2_78
                have hFqm3_80 : F80 (qm 3) = cD (cy 0) 6 Dd.2.1 := by rw [eF80, va_up_ne _ _ (pl_ne hFqm3_78 hFqm0_78 rfl)]; exact hFqm3_78
                have hFqm4_80 : F80 (qm 4) = cD (cy 0) 6 Dd.2.2.1 := by rw [eF80, va_up_ne _ _ (pl_ne hFqm4_78 hFqm0_78 rfl)]; exact hFqm4_78
                have hFqm5_80 : F80 (qm 5) = cJ (cy 2) 6 Dd.2.2.2 := by rw [eF80, va_up_ne _ _ (pl_ne hFqm5_78 hFqm0_78 rfl)]; exact hFqm5_78
                have hFqm6_80 : F80 (qm 6) = cI (cy 1) 8 Sl.1 := by rw [eF80, va_up_ne _ _ (pl_ne hFqm6_78 hFqm0_78 rfl)]; exact hFqm6_78
                have hFqm7_80 : F80 (qm 7) = cJ (cy 2) 128 Sl.2 := by rw [eF80, va_up_ne _ _ (pl_ne hFqm7_78 hFqm0_78 rfl)]; exact hFqm7_78
                have hFqm8_80 : F80 (qm 8) = cI (cy 1) 30 Pp.2.1 := by rw [eF80, va_up_ne _ _ (pl_ne hFqm8_78 hFqm0_78 rfl)]; exact hFqm8_78
                have hFqm9_80 : F80 (qm 9) = cI (cy 3) 30 Pp.2.2 := by rw [eF80, va_up_ne _ _ (pl_ne hFqm9_78 hFqm0_78 rfl)]; exact hFqm9_78
                have hFqm10_80 : F80 (qm 10) = cI (cy 1) 5 Kr.1 := by rw [eF80, va_up_ne _ _ (pl_ne hFqm10_78 hFqm0_78 rfl)]; exact hFqm10_78
                have hFqm11_80 : F80 (qm 11) = cI (cy 3) 5 Kr.2.1 := by rw [eF80, va_up_ne _ _ (pl_ne hFqm11_78 hFqm0_78 rfl)]; exact hFqm11_78
                have hFqm12_80 : F80 (qm 12) = cI (cy 1) 60 Kr.2.2 := by rw [eF80, va_up_ne _ _ (pl_ne hFqm12_78 hFqm0_78 rfl)]; exact hFqm12_78
                have hFqm13_80 : F80 (qm 13) = cI (cy 1) 4 Bk.1 := by rw [eF80, va_up_ne _ _ (pl_ne hFqm13_78 hFqm0_78 rfl)]; exact hFqm13_78
                have hFqm14_80 : F80 (qm 14) = cD (cy 0) 4 Bk.2 := by rw [eF80, va_up_ne _ _ (pl_ne hFqm14_78 hFqm0_78 rfl)]; exact hFqm14_78
                have hFqm15_80 : F80 (qm 15) = cI (cy 1) 6 Xx.2 := by rw [eF80, va_up_ne _ _ (pl_ne hFqm15_78 hFqm0_78 rfl)]; exact hFqm15_78
                refine lv_aload_n hx hb dX9_reckon_217 rfl (lv_at hl 3 rfl) ?_
                refine pg_get (ci := 8) (C := RX9) (T := TX9) (N := 20) hx hb hts hinX9 hown hK hP hmo hFo_80 rfl 2 (by decide) (hts (.fieldLink RX9 13 "RopeDrumsModel" "held" "[J") (by decide +kernel)) (fun _ h9 => h9) rfl dX9_reckon_218 ?_
                refine lv_iload hx hb dX9_reckon_221 (lv_at hl 7 rfl) ?_
                refine lv_aload_n hx hb dX9_reckon_223 rfl (lv_at hl 3 rfl) ?_
                refine pg_get (ci := 8) (C := RX9) (T := TX9) (N := 20) hx hb hts hinX9 hown hK hP hmo hFo_80 rfl 19 (by decide) (hts (.fieldLink RX9 131 "RopeDrumsModel" "outcome" "J") (by decide +kernel)) (fun _ h9 => h9) rfl dX9_reckon_224 ?_
                refine pg_last hx hb hK hP hD hS 2 hm1 hFqm1_80 rfl (vp_in_nI (by omega) (by decide)) dX9_reckon_227 (fun H locs F81 eF81 hP hS => ?_)
                rw [nI_clamp (by omega)] at eF81
                have hFo_81 : F81 o = .inr (8, [.int 0, .ref (qm 0), .ref (qm 1), .ref (qm 2), .ref (qm 3), .ref (qm 4), .ref (qm 5), .ref (qm 6), .ref (qm 7), .int Pp.1, .ref (qm 8), .ref (qm 9), .ref (qm 10), .ref (qm 11), .ref (qm 12), .ref (qm 13), .ref (qm 14), .int 0, .ref (qm 15), .long ((FP.ddiv r76 r77).toInt64)]) := by rw [eF81, va_up_ne _ _ (pl_ne hFo_80 hFqm1_80 rfl)]; exact hFo_80
                have hFqm0_81 : F81 (qm 0) = cI (cy 1) 10 (upd Mm.1 j_into (mx (Mm.1 j_x) (Mm.1 j_y))) := by rw [eF81, va_up_ne _ _ (pl_ne hFqm0_80 hFqm1_80 rfl)]; exact hFqm0_80
                have hFqm1_81 : F81 (qm 1) = cJ (cy 2) 10 (vp_updL Mm.2 j_into ((FP.ddiv r76 r77).toInt64)) := by rw [eF81]; exact va_up_self _ _ _
                have hFqm2_81 : F81 (qm 2) = cD (cy 0) 6 Dd.1 := by rw [eF81, va_up_ne _ _ (pl_ne hFqm2_80 hFqm1_80 rfl)]; exact hFqm2_80
                have hFqm3_81 : F81 (qm 3) = cD (cy 0) 6 Dd.2.1 := by rw [eF81, va_up_ne _ _ (pl_ne hFqm3_80 hFqm1_80 rfl)]; exact hFqm3_80
                have hFqm4_81 : F81 (qm 4) = cD (cy 0) 6 Dd.2.2.1 := by rw [eF81, va_up_ne _ _ (pl_ne hFqm4_80 hFqm1_80 rfl)]; exact hFqm4_80
                have hFqm5_81 : F81 (qm 5) = cJ (cy 2) 6 Dd.2.2.2 := by rw [eF81, va_up_ne _ _ (pl_ne hFqm5_80 hFqm1_80 rfl)]; exact hFqm5_80
                have hFqm6_81 : F81 (qm 6) = cI (cy 1) 8 Sl.1 := by rw [eF81, va_up_ne _ _ (pl_ne hFqm6_80 hFqm1_80 rfl)]; exact hFqm6_80
                have hFqm7_81 : F81 (qm 7) = cJ (cy 2) 128 Sl.2 := by rw [eF81, va_up_ne _ _ (pl_ne hFqm7_80 hFqm1_80 rfl)]; exact hFqm7_80
                have hFqm8_81 : F81 (qm 8) = cI (cy 1) 30 Pp.2.1 := by rw [eF81, va_up_ne _ _ (pl_ne hFqm8_80 hFqm1_80 rfl)]; exact hFqm8_80
                have hFqm9_81 : F81 (qm 9) = cI (cy 3) 30 Pp.2.2 := by rw [eF81, va_up_ne _ _ (pl_ne hFqm9_80 hFqm1_80 rfl)]; exact hFqm9_80
                have hFqm10_81 : F81 (qm 10) = cI (cy 1) 5 Kr.1 := by rw [eF81, va_up_ne _ _ (pl_ne hFqm10_80 hFqm1_80 rfl)]; exact hFqm10_80
                have hFqm11_81 : F81 (qm 11) = cI (cy 3) 5 Kr.2.1 := by rw [eF81, va_up_ne _ _ (pl_ne hFqm11_80 hFqm1_80 rfl)]; exact hFqm11_80
                have hFqm12_81 : F81 (qm 12) = cI (cy 1) 60 Kr.2.2 := by rw [eF81, va_up_ne _ _ (pl_ne hFqm12_80 hFqm1_80 rfl)]; exact hFqm12_80
                have hFqm13_81 : F81 (qm 13) = cI (cy 1) 4 Bk.1 := by rw [eF81, va_up_ne _ _ (pl_ne hFqm13_80 hFqm1_80 rfl)]; exact hFqm13_80
                have hFqm14_81 : F81 (qm 14) = cD (cy 0) 4 Bk.2 := by rw [eF81, va_up_ne _ _ (pl_ne hFqm14_80 hFqm1_80 rfl)]; exact hFqm14_80
                have hFqm15_81 : F81 (qm 15) = cI (cy 1) 6 Xx.2 := by rw [eF81, va_up_ne _ _ (pl_ne hFqm15_80 hFqm1_80 rfl)]; exact hFqm15_80
                refine lv_aload_n hx hb dX9_reckon_228 rfl (lv_at hl 3 rfl) ?_
                refine lv_iload hx hb dX9_reckon_229 (lv_at hl 2 rfl) ?_
                refine va_calli (va_runV (As := [.int (mx (Mm.1 j_x) (Mm.1 j_y))]) (rest := []) ⟨hx, hb, hml, hown, hts⟩ (c9_answers_0 l G cy L F81 H.size o qm 0 Pp.1 ((FP.ddiv r76 r77).toInt64) hmo hFo_81 Xx.2 hm15 hFqm15_81 (mx (Mm.1 j_x) (Mm.1 j_y))) (cwV 1 hts gX9_reckon_X9_answers rfl rfl rfl (by decide +kernel) ⟨Nat.le_of_ble_eq_true rfl, Nat.le_of_ble_eq_true rfl⟩) (preV_of okQ (⟨rfl, hP, hK, hD.top⟩) (pl_recv hK hP (ci := 8) rfl hmo hFo_81)) rfl rfl hl.1 rfl (lv_room (Nat.le_of_ble_eq_true rfl)) dX9_reckon_231 ⟨Nat.le_of_ble_eq_true rfl, Nat.le_of_ble_eq_true rfl⟩) hS (fun q _ h => pl_free hD hS hA q h) (pl_free hD hS hA) (fun r83 F82 t H1 locs ht hvm hw hP1 hz1 hk1 hS => ?_)
                have hP1 : va_P G vwCl (va_pl L F82) t.heap := hP1
                rw [ht] at hP1
                have hP := hP1
                generalize H1 = H at hP hS ⊢
                obtain ⟨hqr83, eF82⟩ := hw
                have hFo_F82 : F82 o = .inr (8, [.int 0, .ref (qm 0), .ref (qm 1), .ref (qm 2), .ref (qm 3), .ref (qm 4), .ref (qm 5), .ref (qm 6), .ref (qm 7), .int Pp.1, .ref (qm 8), .ref (qm 9), .ref (qm 10), .ref (qm 11), .ref (qm 12), .ref (qm 13), .ref (qm 14), .int 0, .ref (qm 15), .long ((FP.ddiv r76 r77).toInt64)]) := by rw [eF82]; exact hFo_81
                have hFqm0_F82 : F82 (qm 0) = cI (cy 1) 10 (upd Mm.1 j_into (mx (Mm.1 j_x) (Mm.1 j_y))) := by rw [eF82]; exact hFqm0_81
                have hFqm1_F82 : F82 (qm 1) = cJ (cy 2) 10 (vp_updL Mm.2 j_into ((FP.ddiv r76 r77).toInt64)) := by rw [eF82]; exact hFqm1_81
                have hFqm2_F82 : F82 (qm 2) = cD (cy 0) 6 Dd.1 := by rw [eF82]; exact hFqm2_81
                have hFqm3_F82 : F82 (qm 3) = cD (cy 0) 6 Dd.2.1 := by rw [eF82]; exact hFqm3_81
                have hFqm4_F82 : F82 (qm 4) = cD (cy 0) 6 Dd.2.2.1 := by rw [eF82]; exact hFqm4_81
                have hFqm5_F82 : F82 (qm 5) = cJ (cy 2) 6 Dd.2.2.2 := by rw [eF82]; exact hFqm5_81
                have hFqm6_F82 : F82 (qm 6) = cI (cy 1) 8 Sl.1 := by rw [eF82]; exact hFqm6_81
                have hFqm7_F82 : F82 (qm 7) = cJ (cy 2) 128 Sl.2 := by rw [eF82]; exact hFqm7_81
                have hFqm8_F82 : F82 (qm 8) = cI (cy 1) 30 Pp.2.1 := by rw [eF82]; exact hFqm8_81
                have hFqm9_F82 : F82 (qm 9) = cI (cy 3) 30 Pp.2.2 := by rw [eF82]; exact hFqm9_81
                have hFqm10_F82 : F82 (qm 10) = cI (cy 1) 5 Kr.1 := by rw [eF82]; exact hFqm10_81
                have hFqm11_F82 : F82 (qm 11) = cI (cy 3) 5 Kr.2.1 := by rw [eF82]; exact hFqm11_81
                have hFqm12_F82 : F82 (qm 12) = cI (cy 1) 60 Kr.2.2 := by rw [eF82]; exact hFqm12_81
                have hFqm13_F82 : F82 (qm 13) = cI (cy 1) 4 Bk.1 := by rw [eF82]; exact hFqm13_81
                have hFqm14_F82 : F82 (qm 14) = cD (cy 0) 4 Bk.2 := by rw [eF82]; exact hFqm14_81
                have hFqm15_F82 : F82 (qm 15) = cI (cy 1) 6 Xx.2 := by rw [eF82]; exact hFqm15_81
                have hr83 := hqr83
                exact W.iret (v := r83) hx hb hr (fun t ht hW => ⟨⟨r83, F82, rfl, (by subst hr83 hr77 hr76 hr47 ev46 ev45 hr44 ev43 ev42 ev37; have hsp : sp_reckon Mm Xx 3 (nI j_x) (nI j_y) (nI j_into) = (3, setM Mm j_into 3 (rkD 3 (db (tn (Mm.1 j_x) (Mm.2 j_x) 3)) (db (tn (Mm.1 j_y) (Mm.2 j_y) 3))).toInt64, goodX Xx) := (by unfold sp_reckon; rw [hi_x, hi_y, hi_into, ixk.2.2.2.1]; show rk Mm Xx 3 j_x j_y j_into = _; unfold rk; rw [if_neg (hmx.2 h1l).2, if_neg (by rw [hmxl]; decide)]; exact if_neg (by rw [hnan]; decide)); rw [hsp]; have hh := hFqm1_F82; have hh0 := hFqm0_F82; rw [hmxl] at hh hh0; exact ⟨hmxl, ⟨⟨_, _, hmo, hFo_F82⟩, ⟨hm0, hh0⟩, ⟨hm1, hh⟩, ⟨hm2, hFqm2_F82⟩, ⟨hm3, hFqm3_F82⟩, ⟨hm4, hFqm4_F82⟩, ⟨hm5, hFqm5_F82⟩, ⟨hm6, hFqm6_F82⟩, ⟨hm7, hFqm7_F82⟩, ⟨hm8, hFqm8_F82⟩, ⟨hm9, hFqm9_F82⟩, ⟨hm10, hFqm10_F82⟩, ⟨hm11, hFqm11_F82⟩, ⟨hm12, hFqm12_F82⟩, ⟨hm13, hFqm13_F82⟩, ⟨hm14, hFqm14_F82⟩, ⟨hm15, hFqm15_F82⟩, hne⟩⟩), (by show va_P _ _ _ t.heap; rw [ht]; exact hP)⟩, hS.F ht⟩) hS.2.2 dX9_reckon_234
          · by_cases hz0 : tn (Mm.1 j_y) (Mm.2 j_y) (mx (Mm.1 j_x) (Mm.1 j_y)) = 0
            · refine lv_iload hx hb dX9_reckon_122 (lv_at hl 2 rfl) ?_
              refine lv_iconst (v := 2) hx hb dX9_reckon_124 (by decide) ?_
              refine lv_icmp_ge (tgt := 162) hx hb dX9_reckon_125 (by decide) (fun c84 => absurd c84 (Int32.not_le.mpr (hmx.1 h1l).2.1)) (fun c84 => ?_)
              refine lv_aload_n hx hb dX9_reckon_128 rfl (lv_at hl 3 rfl) ?_
              refine lv_iload_n hx hb dX9_reckon_129 rfl (lv_at hl 4 rfl) ?_
              refine lv_lload hx hb dX9_reckon_130 (lv_at hl 1 rfl) ?_
              refine lv_lload hx hb dX9_reckon_132 (lv_at hl 0 rfl) ?_
              refine va_callv (va_runV (As := [.int 3, .long r44, .long r47]) (rest := []) ⟨hx, hb, hml, hown, hts⟩ (c9_rL_3_no l G cy L F40 H.size o qm 0 Pp.1 0 oc hmo hFo_40 r44 r47 (by rw [hr47, ev45, ev46]; exact hz0)) (cwV 3 hts gX9_reckon_X9_reckonLongs rfl rfl rfl (by decide +kernel) ⟨Nat.le_of_ble_eq_true rfl, Nat.le_of_ble_eq_true rfl⟩) (preV_of okQ (⟨rfl, hP, hK, hD.top⟩) (pl_recv hK hP (ci := 8) rfl hmo hFo_40)) rfl rfl hl.1 rfl (lv_room (Nat.le_of_ble_eq_true rfl)) dX9_reckon_134 ⟨Nat.le_of_ble_eq_true rfl, Nat.le_of_ble_eq_true rfl⟩) hS (fun q _ h => pl_free hD hS hA q h) (pl_free hD hS hA) (fun F85 t H1 locs ht hvm hw hP1 hz1 hk1 hS => ?_)
              have hP1 : va_P G vwCl (va_pl L F85) t.heap := hP1
              rw [ht] at hP1
              have hP := hP1
              generalize H1 = H at hP hS ⊢
              have eF85 : F85 = va_up F40 o (.inr (8, [.int 0, .ref (qm 0), .ref (qm 1), .ref (qm 2), .ref (qm 3), .ref (qm 4), .ref (qm 5), .ref (qm 6), .ref (qm 7), .int Pp.1, .ref (qm 8), .ref (qm 9), .ref (qm 10), .ref (qm 11), .ref (qm 12), .ref (qm 13), .ref (qm 14), .int 4, .ref (qm 15), .long oc])) := hw
              have hFo_85 : F85 o = .inr (8, [.int 0, .ref (qm 0), .ref (qm 1), .ref (qm 2), .ref (qm 3), .ref (qm 4), .ref (qm 5), .ref (qm 6), .ref (qm 7), .int Pp.1, .ref (qm 8), .ref (qm 9), .ref (qm 10), .ref (qm 11), .ref (qm 12), .ref (qm 13), .ref (qm 14), .int 4, .ref (qm 15), .long oc]) := by rw [eF85]; exact va_up_self _ _ _
              have hFqm0_85 : F85 (qm 0) = cI (cy 1) 10 Mm.1 := by rw [eF85, va_up_ne _ _ (pl_ne hFqm0_40 hFo_40 rfl)]; exact hFqm0_40
              have hFqm1_85 : F85 (qm 1) = cJ (cy 2) 10 Mm.2 := by rw [eF85, va_up_ne _ _ (pl_ne hFqm1_40 hFo_40 rfl)]; exact hFqm1_40
              have hFqm2_85 : F85 (qm 2) = cD (cy 0) 6 Dd.1 := by rw [eF85, va_up_ne _ _ (pl_ne hFqm2_40 hFo_40 rfl)]; exact hFqm2_40
              have hFqm3_85 : F85 (qm 3) = cD (cy 0) 6 Dd.2.1 := by rw [eF85, va_up_ne _ _ (pl_ne hFqm3_40 hFo_40 rfl)]; exact hFqm3_40
              have hFqm4_85 : F85 (qm 4) = cD (cy 0) 6 Dd.2.2.1 := by rw [eF85, va_up_ne _ _ (pl_ne hFqm4_40 hFo_40 rfl)]; exact hFqm4_40
              have hFqm5_85 : F85 (qm 5) = cJ (cy 2) 6 Dd.2.2.2 := by rw [eF85, va_up_ne _ _ (pl_ne hFqm5_40 hFo_40 rfl)]; exact hFqm5_40
              have hFqm6_85 : F85 (qm 6) = cI (cy 1) 8 Sl.1 := by rw [eF85, va_up_ne _ _ (pl_ne hFqm6_40 hFo_40 rfl)]; exact hFqm6_40
              have hFqm7_85 : F85 (qm 7) = cJ (cy 2) 128 Sl.2 := by rw [eF85, va_up_ne _ _ (pl_ne hFqm7_40 hFo_40 rfl)]; exact hFqm7_40
              have hFqm8_85 : F85 (qm 8) = cI (cy 1) 30 Pp.2.1 := by rw [eF85, va_up_ne _ _ (pl_ne hFqm8_40 hFo_40 rfl)]; exact hFqm8_40
              have hFqm9_85 : F85 (qm 9) = cI (cy 3) 30 Pp.2.2 := by rw [eF85, va_up_ne _ _ (pl_ne hFqm9_40 hFo_40 rfl)]; exact hFqm9_40
              have hFqm10_85 : F85 (qm 10) = cI (cy 1) 5 Kr.1 := by rw [eF85, va_up_ne _ _ (pl_ne hFqm10_40 hFo_40 rfl)]; exact hFqm10_40
              have hFqm11_85 : F85 (qm 11) = cI (cy 3) 5 Kr.2.1 := by rw [eF85, va_up_ne _ _ (pl_ne hFqm11_40 hFo_40 rfl)]; exact hFqm11_40
              have hFqm12_85 : F85 (qm 12) = cI (cy 1) 60 Kr.2.2 := by rw [eF85, va_up_ne _ _ (pl_ne hFqm12_40 hFo_40 rfl)]; exact hFqm12_40
              have hFqm13_85 : F85 (qm 13) = cI (cy 1) 4 Bk.1 := by rw [eF85, va_up_ne _ _ (pl_ne hFqm13_40 hFo_40 rfl)]; exact hFqm13_40
              have hFqm14_85 : F85 (qm 14) = cD (cy 0) 4 Bk.2 := by rw [eF85, va_up_ne _ _ (pl_ne hFqm14_40 hFo_40 rfl)]; exact hFqm14_40
              have hFqm15_85 : F85 (qm 15) = cI (cy 1) 6 Xx.2 := by rw [eF85, va_up_ne _ _ (pl_ne hFqm15_40 hFo_40 rfl)]; exact hFqm15_40
              refine lv_aload_n hx hb dX9_reckon_137 rfl (lv_at hl 3 rfl) ?_
              refine lv_iload hx hb dX9_reckon_138 (lv_at hl 2 rfl) ?_
              refine lv_if_ne (tgt := 152) hx hb dX9_reckon_140 (by decide) (fun c86 => ?_) (fun c86 => ?_)
              · refine lv_aload_n hx hb dX9_reckon_152 rfl (lv_at hl 3 rfl) ?_
                refine pg_get (ci := 8) (C := RX9) (T := TX9) (N := 20) hx hb hts hinX9 hown hK hP hmo hFo_85 rfl 19 (by decide) (hts (.fieldLink RX9 131 "RopeDrumsModel" "outcome" "J") (by decide +kernel)) (fun _ h9 => h9) rfl dX9_reckon_153 ?_
                refine pg_put (ci := 8) (v := .long oc) (ty := .long) (C := RX9) (T := TX9) (N := 20) hx hb hts hinX9 tyX9 tyX9_ok nmX9 hown hK hP hD hS hmo hFo_85 rfl 19 (by decide) (hts (.fieldLink RX9 131 "RopeDrumsModel" "outcome" "J") (by decide +kernel)) (fun _ h9 => h9) rfl (by decide +kernel) (rfl) (rfl) (Nat.le_of_ble_eq_true rfl) dX9_reckon_156 (fun H locs F87 eF87 hP hS => ?_)
                have eF87 : F87 = va_up F85 o (.inr (8, [.int 0, .ref (qm 0), .ref (qm 1), .ref (qm 2), .ref (qm 3), .ref (qm 4), .ref (qm 5), .ref (qm 6), .ref (qm 7), .int Pp.1, .ref (qm 8), .ref (qm 9), .ref (qm 10), .ref (qm 11), .ref (qm 12), .ref (qm 13), .ref (qm 14), .int 4, .ref (qm 15), .long oc])) := eF87
                have hFo_87 : F87 o = .inr (8, [.int 0, .ref (qm 0), .ref (qm 1), .ref (qm 2), .ref (qm 3), .ref (qm 4), .ref (qm 5), .ref (qm 6), .ref (qm 7), .int Pp.1, .ref (qm 8), .ref (qm 9), .ref (qm 10), .ref (qm 11), .ref (qm 12), .ref (qm 13), .ref (qm 14), .int 4, .ref (qm 15), .long oc]) := by rw [eF87]; exact va_up_self _ _ _
                have hFqm0_87 : F87 (qm 0) = cI (cy 1) 10 Mm.1 := by rw [eF87, va_up_ne _ _ (pl_ne hFqm0_85 hFo_85 rfl)]; exact hFqm0_85
                have hFqm1_87 : F87 (qm 1) = cJ (cy 2) 10 Mm.2 := by rw [eF87, va_up_ne _ _ (pl_ne hFqm1_85 hFo_85 rfl)]; exact hFqm1_85
                have hFqm2_87 : F87 (qm 2) = cD (cy 0) 6 Dd.1 := by rw [eF87, va_up_ne _ _ (pl_ne hFqm2_85 hFo_85 rfl)]; exact hFqm2_85
                have hFqm3_87 : F87 (qm 3) = cD (cy 0) 6 Dd.2.1 := by rw [eF87, va_up_ne _ _ (pl_ne hFqm3_85 hFo_85 rfl)]; exact hFqm3_85
                have hFqm4_87 : F87 (qm 4) = cD (cy 0) 6 Dd.2.2.1 := by rw [eF87, va_up_ne _ _ (pl_ne hFqm4_85 hFo_85 rfl)]; exact hFqm4_85
                have hFqm5_87 : F87 (qm 5) = cJ (cy 2) 6 Dd.2.2.2 := by rw [eF87, va_up_ne _ _ (pl_ne hFqm5_85 hFo_85 rfl)]; exact hFqm5_85
                have hFqm6_87 : F87 (qm 6) = cI (cy 1) 8 Sl.1 := by rw [eF87, va_up_ne _ _ (pl_ne hFqm6_85 hFo_85 rfl)]; exact hFqm6_85
                have hFqm7_87 : F87 (qm 7) = cJ (cy 2) 128 Sl.2 := by rw [eF87, va_up_ne _ _ (pl_ne hFqm7_85 hFo_85 rfl)]; exact hFqm7_85
                have hFqm8_87 : F87 (qm 8) = cI (cy 1) 30 Pp.2.1 := by rw [eF87, va_up_ne _ _ (pl_ne hFqm8_85 hFo_85 rfl)]; exact hFqm8_85
                have hFqm9_87 : F87 (qm 9) = cI (cy 3) 30 Pp.2.2 := by rw [eF87, va_up_ne _ _ (pl_ne hFqm9_85 hFo_85 rfl)]; exact hFqm9_85
                have hFqm10_87 : F87 (qm 10) = cI (cy 1) 5 Kr.1 := by rw [eF87, va_up_ne _ _ (pl_ne hFqm10_85 hFo_85 rfl)]; exact hFqm10_85
                have hFqm11_87 : F87 (qm 11) = cI (cy 3) 5 Kr.2.1 := by rw [eF87, va_up_ne _ _ (pl_ne hFqm11_85 hFo_85 rfl)]; exact hFqm11_85
                have hFqm12_87 : F87 (qm 12) = cI (cy 1) 60 Kr.2.2 := by rw [eF87, va_up_ne _ _ (pl_ne hFqm12_85 hFo_85 rfl)]; exact hFqm12_85
                have hFqm13_87 : F87 (qm 13) = cI (cy 1) 4 Bk.1 := by rw [eF87, va_up_ne _ _ (pl_ne hFqm13_85 hFo_85 rfl)]; exact hFqm13_85
                have hFqm14_87 : F87 (qm 14) = cD (cy 0) 4 Bk.2 := by rw [eF87, va_up_ne _ _ (pl_ne hFqm14_85 hFo_85 rfl)]; exact hFqm14_85
                have hFqm15_87 : F87 (qm 15) = cI (cy 1) 6 Xx.2 := by rw [eF87, va_up_ne _ _ (pl_ne hFqm15_85 hFo_85 rfl)]; exact hFqm15_85
                refine lv_goto (tgt := 201) hx hb dX9_reckon_159 (by decide) ?_
                refine lv_aload_n hx hb dX9_reckon_201 rfl (lv_at hl 3 rfl) ?_
                refine pg_get (ci := 8) (C := RX9) (T := TX9) (N := 20) hx hb hts hinX9 hown hK hP hmo hFo_87 rfl 17 (by decide) (hts (.fieldLink RX9 65 "RopeDrumsModel" "failed" "I") (by decide +kernel)) (fun _ h9 => h9) rfl dX9_reckon_202 ?_
                refine lv_if_ne (tgt := 228) hx hb dX9_reckon_205 (by decide) (fun c88 => ?_) (fun c88 => absurd c88 (by decide))
                refine lv_aload_n hx hb dX9_reckon_228 rfl (lv_at hl 3 rfl) ?_
                refine lv_iload hx hb dX9_reckon_229 (lv_at hl 2 rfl) ?_
                refine va_calli (va_runV (As := [.int (mx (Mm.1 j_x) (Mm.1 j_y))]) (rest := []) ⟨hx, hb, hml, hown, hts⟩ (c9_answers_4 l G cy L F87 H.size o qm 0 Pp.1 oc hmo hFo_87 Xx.2 hm15 hFqm15_87 (mx (Mm.1 j_x) (Mm.1 j_y))) (cwV 1 hts gX9_reckon_X9_answers rfl rfl rfl (by decide +kernel) ⟨Nat.le_of_ble_eq_true rfl, Nat.le_of_ble_eq_true rfl⟩) (preV_of okQ (⟨rfl, hP, hK, hD.top⟩) (pl_recv hK hP (ci := 8) rfl hmo hFo_87)) rfl rfl hl.1 rfl (lv_room (Nat.le_of_ble_eq_true rfl)) dX9_reckon_231 ⟨Nat.le_of_ble_eq_true rfl, Nat.le_of_ble_eq_true rfl⟩) hS (fun q _ h => pl_free hD hS hA q h) (pl_free hD hS hA) (fun r90 F89 t H1 locs ht hvm hw hP1 hz1 hk1 hS => ?_)
                have hP1 : va_P G vwCl (va_pl L F89) t.heap := hP1
                rw [ht] at hP1
                have hP := hP1
                generalize H1 = H at hP hS ⊢
                obtain ⟨hqr90, eF89⟩ := hw
                have eF89 : F89 = va_up F87 (qm 15) (cI (cy 1) 6 (upd Xx.2 4 (Xx.2 4 + 1))) := eF89
                have hFo_90 : F89 o = .inr (8, [.int 0, .ref (qm 0), .ref (qm 1), .ref (qm 2), .ref (qm 3), .ref (qm 4), .ref (qm 5), .ref (qm 6), .ref (qm 7), .int Pp.1, .ref (qm 8), .ref (qm 9), .ref (qm 10), .ref (qm 11), .ref (qm 12), .ref (qm 13), .ref (qm 14), .int 4, .ref (qm 15), .long oc]) := by rw [eF89, va_up_ne _ _ (pl_ne hFo_87 hFqm15_87 rfl)]; exact hFo_87
                have hFqm0_90 : F89 (qm 0) = cI (cy 1) 10 Mm.1 := by rw [eF89, va_up_ne _ _ (pl_ne hFqm0_87 hFqm15_87 rfl)]; exact hFqm0_87
                have hFqm1_90 : F89 (qm 1) = cJ (cy 2) 10 Mm.2 := by rw [eF89, va_up_ne _ _ (pl_ne hFqm1_87 hFqm15_87 rfl)]; exact hFqm1_87
                have hFqm2_90 : F89 (qm 2) = cD (cy 0) 6 Dd.1 := by rw [eF89, va_up_ne _ _ (pl_ne hFqm2_87 hFqm15_87 rfl)]; exact hFqm2_87
                have hFqm3_90 : F89 (qm 3) = cD (cy 0) 6 Dd.2.1 := by rw [eF89, va_up_ne _ _ (pl_ne hFqm3_87 hFqm15_87 rfl)]; exact hFqm3_87
                have hFqm4_90 : F89 (qm 4) = cD (cy 0) 6 Dd.2.2.1 := by rw [eF89, va_up_ne _ _ (pl_ne hFqm4_87 hFqm15_87 rfl)]; exact hFqm4_87
                have hFqm5_90 : F89 (qm 5) = cJ (cy 2) 6 Dd.2.2.2 := by rw [eF89, va_up_ne _ _ (pl_ne hFqm5_87 hFqm15_87 rfl)]; exact hFqm5_87
                have hFqm6_90 : F89 (qm 6) = cI (cy 1) 8 Sl.1 := by rw [eF89, va_up_ne _ _ (pl_ne hFqm6_87 hFqm15_87 rfl)]; exact hFqm6_87
                have hFqm7_90 : F89 (qm 7) = cJ (cy 2) 128 Sl.2 := by rw [eF89, va_up_ne _ _ (pl_ne hFqm7_87 hFqm15_87 rfl)]; exact hFqm7_87
                have hFqm8_90 : F89 (qm 8) = cI (cy 1) 30 Pp.2.1 := by rw [eF89, va_up_ne _ _ (pl_ne hFqm8_87 hFqm15_87 rfl)]; exact hFqm8_87
                have hFqm9_90 : F89 (qm 9) = cI (cy 3) 30 Pp.2.2 := by rw [eF89, va_up_ne _ _ (pl_ne hFqm9_87 hFqm15_87 rfl)]; exact hFqm9_87
                have hFqm10_90 : F89 (qm 10) = cI (cy 1) 5 Kr.1 := by rw [eF89, va_up_ne _ _ (pl_ne hFqm10_87 hFqm15_87 rfl)]; exact hFqm10_87
                have hFqm11_90 : F89 (qm 11) = cI (cy 3) 5 Kr.2.1 := by rw [eF89, va_up_ne _ _ (pl_ne hFqm11_87 hFqm15_87 rfl)]; exact hFqm11_87
                have hFqm12_90 : F89 (qm 12) = cI (cy 1) 60 Kr.2.2 := by rw [eF89, va_up_ne _ _ (pl_ne hFqm12_87 hFqm15_87 rfl)]; exact hFqm12_87
                have hFqm13_90 : F89 (qm 13) = cI (cy 1) 4 Bk.1 := by rw [eF89, va_up_ne _ _ (pl_ne hFqm13_87 hFqm15_87 rfl)]; exact hFqm13_87
                have hFqm14_90 : F89 (qm 14) = cD (cy 0) 4 Bk.2 := by rw [eF89, va_up_ne _ _ (pl_ne hFqm14_87 hFqm15_87 rfl)]; exact hFqm14_87
                have hFqm15_90 : F89 (qm 15) = cI (cy 1) 6 (upd Xx.2 4 (Xx.2 4 + 1)) := by rw [eF89]; exact va_up_self _ _ _
                have hr90 := hqr90
                exact W.iret (v := r90) hx hb hr (fun t ht hW => ⟨⟨r90, F89, rfl, (by subst hr90 hr47 ev46 ev45 hr44 ev43 ev42 ev37; have hsp : sp_reckon Mm Xx 3 (nI j_x) (nI j_y) (nI j_into) = (-14, Mm, failX Xx 4) := (by unfold sp_reckon; rw [hi_x, hi_y, hi_into, ixk.2.2.2.1]; show rk Mm Xx 3 j_x j_y j_into = _; unfold rk; rw [if_pos (hmx.1 h1l).2.1]; exact if_pos ⟨by decide, hz0⟩); rw [hsp]; exact ⟨rfl, (by exact ⟨⟨_, _, hmo, hFo_90⟩, ⟨hm0, hFqm0_90⟩, ⟨hm1, hFqm1_90⟩, ⟨hm2, hFqm2_90⟩, ⟨hm3, hFqm3_90⟩, ⟨hm4, hFqm4_90⟩, ⟨hm5, hFqm5_90⟩, ⟨hm6, hFqm6_90⟩, ⟨hm7, hFqm7_90⟩, ⟨hm8, hFqm8_90⟩, ⟨hm9, hFqm9_90⟩, ⟨hm10, hFqm10_90⟩, ⟨hm11, hFqm11_90⟩, ⟨hm12, hFqm12_90⟩, ⟨hm13, hFqm13_90⟩, ⟨hm14, hFqm14_90⟩, ⟨hm15, hFqm15_90⟩, hne⟩)⟩), (by show va_P _ _ _ t.heap; rw [ht]; exact hP)⟩, hS.F ht⟩) hS.2.2 dX9_reckon_234
              · refine lv_aload_n hx hb dX9_reckon_143 rfl (lv_at hl 3 rfl) ?_
                refine pg_get (ci := 8) (C := RX9) (T := TX9) (N := 20) hx hb hts hinX9 hown hK hP hmo hFo_85 rfl 19 (by decide) (hts (.fieldLink RX9 131 "RopeDrumsModel" "outcome" "J") (by decide +kernel)) (fun _ h9 => h9) rfl dX9_reckon_144 ?_
                refine lv_l2i hx hb dX9_reckon_147 rfl ?_
                refine lv_topi (fun v91 ev91 => ?_)
                refine lv_i2l hx hb dX9_reckon_148 rfl ?_
                refine lv_topl (fun v92 ev92 => ?_)
                refine lv_goto (tgt := 156) hx hb dX9_reckon_149 (by decide) ?_
                refine pg_put (ci := 8) (v := .long v92) (ty := .long) (C := RX9) (T := TX9) (N := 20) hx hb hts hinX9 tyX9 tyX9_ok nmX9 hown hK hP hD hS hmo hFo_85 rfl 19 (by decide) (hts (.fieldLink RX9 131 "RopeDrumsModel" "outcome" "J") (by decide +kernel)) (fun _ h9 => h9) rfl (by decide +kernel) (rfl) (rfl) (Nat.le_of_ble_eq_true rfl) dX9_reckon_156 (fun H locs F93 eF93 hP hS => ?_)
                have eF93 : F93 = va_up F85 o (.inr (8, [.int 0, .ref (qm 0), .ref (qm 1), .ref (qm 2), .ref (qm 3), .ref (qm 4), .ref (qm 5), .ref (qm 6), .ref (qm 7), .int Pp.1, .ref (qm 8), .ref (qm 9), .ref (qm 10), .ref (qm 11), .ref (qm 12), .ref (qm 13), .ref (qm 14), .int 4, .ref (qm 15), .long v92])) := eF93
                have hFo_93 : F93 o = .inr (8, [.int 0, .ref (qm 0), .ref (qm 1), .ref (qm 2), .ref (qm 3), .ref (qm 4), .ref (qm 5), .ref (qm 6), .ref (qm 7), .int Pp.1, .ref (qm 8), .ref (qm 9), .ref (qm 10), .ref (qm 11), .ref (qm 12), .ref (qm 13), .ref (qm 14), .int 4, .ref (qm 15), .long v92]) := by rw [eF93]; exact va_up_self _ _ _
                have hFqm0_93 : F93 (qm 0) = cI (cy 1) 10 Mm.1 := by rw [eF93, va_up_ne _ _ (pl_ne hFqm0_85 hFo_85 rfl)]; exact hFqm0_85
                have hFqm1_93 : F93 (qm 1) = cJ (cy 2) 10 Mm.2 := by rw [eF93, va_up_ne _ _ (pl_ne hFqm1_85 hFo_85 rfl)]; exact hFqm1_85
                have hFqm2_93 : F93 (qm 2) = cD (cy 0) 6 Dd.1 := by rw [eF93, va_up_ne _ _ (pl_ne hFqm2_85 hFo_85 rfl)]; exact hFqm2_85
                have hFqm3_93 : F93 (qm 3) = cD (cy 0) 6 Dd.2.1 := by rw [eF93, va_up_ne _ _ (pl_ne hFqm3_85 hFo_85 rfl)]; exact hFqm3_85
                have hFqm4_93 : F93 (qm 4) = cD (cy 0) 6 Dd.2.2.1 := by rw [eF93, va_up_ne _ _ (pl_ne hFqm4_85 hFo_85 rfl)]; exact hFqm4_85
                have hFqm5_93 : F93 (qm 5) = cJ (cy 2) 6 Dd.2.2.2 := by rw [eF93, va_up_ne _ _ (pl_ne hFqm5_85 hFo_85 rfl)]; exact hFqm5_85
                have hFqm6_93 : F93 (qm 6) = cI (cy 1) 8 Sl.1 := by rw [eF93, va_up_ne _ _ (pl_ne hFqm6_85 hFo_85 rfl)]; exact hFqm6_85
                have hFqm7_93 : F93 (qm 7) = cJ (cy 2) 128 Sl.2 := by rw [eF93, va_up_ne _ _ (pl_ne hFqm7_85 hFo_85 rfl)]; exact hFqm7_85
                have hFqm8_93 : F93 (qm 8) = cI (cy 1) 30 Pp.2.1 := by rw [eF93, va_up_ne _ _ (pl_ne hFqm8_85 hFo_85 rfl)]; exact hFqm8_85
                have hFqm9_93 : F93 (qm 9) = cI (cy 3) 30 Pp.2.2 := by rw [eF93, va_up_ne _ _ (pl_ne hFqm9_85 hFo_85 rfl)]; exact hFqm9_85
                have hFqm10_93 : F93 (qm 10) = cI (cy 1) 5 Kr.1 := by rw [eF93, va_up_ne _ _ (pl_ne hFqm10_85 hFo_85 rfl)]; exact hFqm10_85
                have hFqm11_93 : F93 (qm 11) = cI (cy 3) 5 Kr.2.1 := by rw [eF93, va_up_ne _ _ (pl_ne hFqm11_85 hFo_85 rfl)]; exact hFqm11_85
                have hFqm12_93 : F93 (qm 12) = cI (cy 1) 60 Kr.2.2 := by rw [eF93, va_up_ne _ _ (pl_ne hFqm12_85 hFo_85 rfl)]; exact hFqm12_85
                have hFqm13_93 : F93 (qm 13) = cI (cy 1) 4 Bk.1 := by rw [eF93, va_up_ne _ _ (pl_ne hFqm13_85 hFo_85 rfl)]; exact hFqm13_85
                have hFqm14_93 : F93 (qm 14) = cD (cy 0) 4 Bk.2 := by rw [eF93, va_up_ne _ _ (pl_ne hFqm14_85 hFo_85 rfl)]; exact hFqm14_85
                have hFqm15_93 : F93 (qm 15) = cI (cy 1) 6 Xx.2 := by rw [eF93, va_up_ne _ _ (pl_ne hFqm15_85 hFo_85 rfl)]; exact hFqm15_85
                refine lv_goto (tgt := 201) hx hb dX9_reckon_159 (by decide) ?_
                refine lv_aload_n hx hb dX9_reckon_201 rfl (lv_at hl 3 rfl) ?_
                refine pg_get (ci := 8) (C := RX9) (T := TX9) (N := 20) hx hb hts hinX9 hown hK hP hmo hFo_93 rfl 17 (by decide) (hts (.fieldLink RX9 65 "RopeDrumsModel" "failed" "I") (by decide +kernel)) (fun _ h9 => h9) rfl dX9_reckon_202 ?_
                refine lv_if_ne (tgt := 228) hx hb dX9_reckon_205 (by decide) (fun c94 => ?_) (fun c94 => absurd c94 (by decide))
                refine lv_aload_n hx hb dX9_reckon_228 rfl (lv_at hl 3 rfl) ?_
                refine lv_iload hx hb dX9_reckon_229 (lv_at hl 2 rfl) ?_
                refine va_calli (va_runV (As := [.int (mx (Mm.1 j_x) (Mm.1 j_y))]) (rest := []) ⟨hx, hb, hml, hown, hts⟩ (c9_answers_4 l G cy L F93 H.size o qm 0 Pp.1 v92 hmo hFo_93 Xx.2 hm15 hFqm15_93 (mx (Mm.1 j_x) (Mm.1 j_y))) (cwV 1 hts gX9_reckon_X9_answers rfl rfl rfl (by decide +kernel) ⟨Nat.le_of_ble_eq_true rfl, Nat.le_of_ble_eq_true rfl⟩) (preV_of okQ (⟨rfl, hP, hK, hD.top⟩) (pl_recv hK hP (ci := 8) rfl hmo hFo_93)) rfl rfl hl.1 rfl (lv_room (Nat.le_of_ble_eq_true rfl)) dX9_reckon_231 ⟨Nat.le_of_ble_eq_true rfl, Nat.le_of_ble_eq_true rfl⟩) hS (fun q _ h => pl_free hD hS hA q h) (pl_free hD hS hA) (fun r96 F95 t H1 locs ht hvm hw hP1 hz1 hk1 hS => ?_)
                have hP1 : va_P G vwCl (va_pl L F95) t.heap := hP1
                rw [ht] at hP1
                have hP := hP1
                generalize H1 = H at hP hS ⊢
                obtain ⟨hqr96, eF95⟩ := hw
                have eF95 : F95 = va_up F93 (qm 15) (cI (cy 1) 6 (upd Xx.2 4 (Xx.2 4 + 1))) := eF95
                have hFo_96 : F95 o = .inr (8, [.int 0, .ref (qm 0), .ref (qm 1), .ref (qm 2), .ref (qm 3), .ref (qm 4), .ref (qm 5), .ref (qm 6), .ref (qm 7), .int Pp.1, .ref (qm 8), .ref (qm 9), .ref (qm 10), .ref (qm 11), .ref (qm 12), .ref (qm 13), .ref (qm 14), .int 4, .ref (qm 15), .long v92]) := by rw [eF95, va_up_ne _ _ (pl_ne hFo_93 hFqm15_93 rfl)]; exact hFo_93
                have hFqm0_96 : F95 (qm 0) = cI (cy 1) 10 Mm.1 := by rw [eF95, va_up_ne _ _ (pl_ne hFqm0_93 hFqm15_93 rfl)]; exact hFqm0_93
                have hFqm1_96 : F95 (qm 1) = cJ (cy 2) 10 Mm.2 := by rw [eF95, va_up_ne _ _ (pl_ne hFqm1_93 hFqm15_93 rfl)]; exact hFqm1_93
                have hFqm2_96 : F95 (qm 2) = cD (cy 0) 6 Dd.1 := by rw [eF95, va_up_ne _ _ (pl_ne hFqm2_93 hFqm15_93 rfl)]; exact hFqm2_93
                have hFqm3_96 : F95 (qm 3) = cD (cy 0) 6 Dd.2.1 := by rw [eF95, va_up_ne _ _ (pl_ne hFqm3_93 hFqm15_93 rfl)]; exact hFqm3_93
                have hFqm4_96 : F95 (qm 4) = cD (cy 0) 6 Dd.2.2.1 := by rw [eF95, va_up_ne _ _ (pl_ne hFqm4_93 hFqm15_93 rfl)]; exact hFqm4_93
                have hFqm5_96 : F95 (qm 5) = cJ (cy 2) 6 Dd.2.2.2 := by rw [eF95, va_up_ne _ _ (pl_ne hFqm5_93 hFqm15_93 rfl)]; exact hFqm5_93
                have hFqm6_96 : F95 (qm 6) = cI (cy 1) 8 Sl.1 := by rw [eF95, va_up_ne _ _ (pl_ne hFqm6_93 hFqm15_93 rfl)]; exact hFqm6_93
                have hFqm7_96 : F95 (qm 7) = cJ (cy 2) 128 Sl.2 := by rw [eF95, va_up_ne _ _ (pl_ne hFqm7_93 hFqm15_93 rfl)]; exact hFqm7_93
                have hFqm8_96 : F95 (qm 8) = cI (cy 1) 30 Pp.2.1 := by rw [eF95, va_up_ne _ _ (pl_ne hFqm8_93 hFqm15_93 rfl)]; exact hFqm8_93
                have hFqm9_96 : F95 (qm 9) = cI (cy 3) 30 Pp.2.2 := by rw [eF95, va_up_ne _ _ (pl_ne hFqm9_93 hFqm15_93 rfl)]; exact hFqm9_93
                have hFqm10_96 : F95 (qm 10) = cI (cy 1) 5 Kr.1 := by rw [eF95, va_up_ne _ _ (pl_ne hFqm10_93 hFqm15_93 rfl)]; exact hFqm10_93
                have hFqm11_96 : F95 (qm 11) = cI (cy 3) 5 Kr.2.1 := by rw [eF95, va_up_ne _ _ (pl_ne hFqm11_93 hFqm15_93 rfl)]; exact hFqm11_93
                have hFqm12_96 : F95 (qm 12) = cI (cy 1) 60 Kr.2.2 := by rw [eF95, va_up_ne _ _ (pl_ne hFqm12_93 hFqm15_93 rfl)]; exact hFqm12_93
                have hFqm13_96 : F95 (qm 13) = cI (cy 1) 4 Bk.1 := by rw [eF95, va_up_ne _ _ (pl_ne hFqm13_93 hFqm15_93 rfl)]; exact hFqm13_93
                have hFqm14_96 : F95 (qm 14) = cD (cy 0) 4 Bk.2 := by rw [eF95, va_up_ne _ _ (pl_ne hFqm14_93 hFqm15_93 rfl)]; exact hFqm14_93
                have hFqm15_96 : F95 (qm 15) = cI (cy 1) 6 (upd Xx.2 4 (Xx.2 4 + 1)) := by rw [eF95]; exact va_up_self _ _ _
                have hr96 := hqr96
                exact W.iret (v := r96) hx hb hr (fun t ht hW => ⟨⟨r96, F95, rfl, (by subst hr96 ev92 ev91 hr47 ev46 ev45 hr44 ev43 ev42 ev37; have hsp : sp_reckon Mm Xx 3 (nI j_x) (nI j_y) (nI j_into) = (-14, Mm, failX Xx 4) := (by unfold sp_reckon; rw [hi_x, hi_y, hi_into, ixk.2.2.2.1]; show rk Mm Xx 3 j_x j_y j_into = _; unfold rk; rw [if_pos (hmx.1 h1l).2.1]; exact if_pos ⟨by decide, hz0⟩); rw [hsp]; exact ⟨rfl, (by exact ⟨⟨_, _, hmo, hFo_96⟩, ⟨hm0, hFqm0_96⟩, ⟨hm1, hFqm1_96⟩, ⟨hm2, hFqm2_96⟩, ⟨hm3, hFqm3_96⟩, ⟨hm4, hFqm4_96⟩, ⟨hm5, hFqm5_96⟩, ⟨hm6, hFqm6_96⟩, ⟨hm7, hFqm7_96⟩, ⟨hm8, hFqm8_96⟩, ⟨hm9, hFqm9_96⟩, ⟨hm10, hFqm10_96⟩, ⟨hm11, hFqm11_96⟩, ⟨hm12, hFqm12_96⟩, ⟨hm13, hFqm13_96⟩, ⟨hm14, hFqm14_96⟩, ⟨hm15, hFqm15_96⟩, hne⟩)⟩), (by show va_P _ _ _ t.heap; rw [ht]; exact hP)⟩, hS.F ht⟩) hS.2.2 dX9_reckon_234
            · refine lv_iload hx hb dX9_reckon_122 (lv_at hl 2 rfl) ?_
              refine lv_iconst (v := 2) hx hb dX9_reckon_124 (by decide) ?_
              refine lv_icmp_ge (tgt := 162) hx hb dX9_reckon_125 (by decide) (fun c97 => absurd c97 (Int32.not_le.mpr (hmx.1 h1l).2.1)) (fun c97 => ?_)
              refine lv_aload_n hx hb dX9_reckon_128 rfl (lv_at hl 3 rfl) ?_
              refine lv_iload_n hx hb dX9_reckon_129 rfl (lv_at hl 4 rfl) ?_
              refine lv_lload hx hb dX9_reckon_130 (lv_at hl 1 rfl) ?_
              refine lv_lload hx hb dX9_reckon_132 (lv_at hl 0 rfl) ?_
              refine va_callv (va_runV (As := [.int 3, .long r44, .long r47]) (rest := []) ⟨hx, hb, hml, hown, hts⟩ (c9_rL_3 l G cy L F40 H.size o qm 0 Pp.1 0 oc hmo hFo_40 r44 r47 (by rw [hr47, ev45, ev46]; exact hz0)) (cwV 3 hts gX9_reckon_X9_reckonLongs rfl rfl rfl (by decide +kernel) ⟨Nat.le_of_ble_eq_true rfl, Nat.le_of_ble_eq_true rfl⟩) (preV_of okQ (⟨rfl, hP, hK, hD.top⟩) (pl_recv hK hP (ci := 8) rfl hmo hFo_40)) rfl rfl hl.1 rfl (lv_room (Nat.le_of_ble_eq_true rfl)) dX9_reckon_134 ⟨Nat.le_of_ble_eq_true rfl, Nat.le_of_ble_eq_true rfl⟩) hS (fun q _ h => pl_free hD hS hA q h) (pl_free hD hS hA) (fun F98 t H1 locs ht hvm hw hP1 hz1 hk1 hS => ?_)
              have hP1 : va_P G vwCl (va_pl L F98) t.heap := hP1
              rw [ht] at hP1
              have hP := hP1
              generalize H1 = H at hP hS ⊢
              have eF98 : F98 = va_up F40 o (.inr (8, [.int 0, .ref (qm 0), .ref (qm 1), .ref (qm 2), .ref (qm 3), .ref (qm 4), .ref (qm 5), .ref (qm 6), .ref (qm 7), .int Pp.1, .ref (qm 8), .ref (qm 9), .ref (qm 10), .ref (qm 11), .ref (qm 12), .ref (qm 13), .ref (qm 14), .int 0, .ref (qm 15), .long (rkL 3 r44 r47)])) := hw
              have hFo_98 : F98 o = .inr (8, [.int 0, .ref (qm 0), .ref (qm 1), .ref (qm 2), .ref (qm 3), .ref (qm 4), .ref (qm 5), .ref (qm 6), .ref (qm 7), .int Pp.1, .ref (qm 8), .ref (qm 9), .ref (qm 10), .ref (qm 11), .ref (qm 12), .ref (qm 13), .ref (qm 14), .int 0, .ref (qm 15), .long (rkL 3 r44 r47)]) := by rw [eF98]; exact va_up_self _ _ _
              have hFqm0_98 : F98 (qm 0) = cI (cy 1) 10 Mm.1 := by rw [eF98, va_up_ne _ _ (pl_ne hFqm0_40 hFo_40 rfl)]; exact hFqm0_40
              have hFqm1_98 : F98 (qm 1) = cJ (cy 2) 10 Mm.2 := by rw [eF98, va_up_ne _ _ (pl_ne hFqm1_40 hFo_40 rfl)]; exact hFqm1_40
              have hFqm2_98 : F98 (qm 2) = cD (cy 0) 6 Dd.1 := by rw [eF98, va_up_ne _ _ (pl_ne hFqm2_40 hFo_40 rfl)]; exact hFqm2_40
              have hFqm3_98 : F98 (qm 3) = cD (cy 0) 6 Dd.2.1 := by rw [eF98, va_up_ne _ _ (pl_ne hFqm3_40 hFo_40 rfl)]; exact hFqm3_40
              have hFqm4_98 : F98 (qm 4) = cD (cy 0) 6 Dd.2.2.1 := by rw [eF98, va_up_ne _ _ (pl_ne hFqm4_40 hFo_40 rfl)]; exact hFqm4_40
              have hFqm5_98 : F98 (qm 5) = cJ (cy 2) 6 Dd.2.2.2 := by rw [eF98, va_up_ne _ _ (pl_ne hFqm5_40 hFo_40 rfl)]; exact hFqm5_40
              have hFqm6_98 : F98 (qm 6) = cI (cy 1) 8 Sl.1 := by rw [eF98, va_up_ne _ _ (pl_ne hFqm6_40 hFo_40 rfl)]; exact hFqm6_40
              have hFqm7_98 : F98 (qm 7) = cJ (cy 2) 128 Sl.2 := by rw [eF98, va_up_ne _ _ (pl_ne hFqm7_40 hFo_40 rfl)]; exact hFqm7_40
              have hFqm8_98 : F98 (qm 8) = cI (cy 1) 30 Pp.2.1 := by rw [eF98, va_up_ne _ _ (pl_ne hFqm8_40 hFo_40 rfl)]; exact hFqm8_40
              have hFqm9_98 : F98 (qm 9) = cI (cy 3) 30 Pp.2.2 := by rw [eF98, va_up_ne _ _ (pl_ne hFqm9_40 hFo_40 rfl)]; exact hFqm9_40
              have hFqm10_98 : F98 (qm 10) = cI (cy 1) 5 Kr.1 := by rw [eF98, va_up_ne _ _ (pl_ne hFqm10_40 hFo_40 rfl)]; exact hFqm10_40
              have hFqm11_98 : F98 (qm 11) = cI (cy 3) 5 Kr.2.1 := by rw [eF98, va_up_ne _ _ (pl_ne hFqm11_40 hFo_40 rfl)]; exact hFqm11_40
              have hFqm12_98 : F98 (qm 12) = cI (cy 1) 60 Kr.2.2 := by rw [eF98, va_up_ne _ _ (pl_ne hFqm12_40 hFo_40 rfl)]; exact hFqm12_40
              have hFqm13_98 : F98 (qm 13) = cI (cy 1) 4 Bk.1 := by rw [eF98, va_up_ne _ _ (pl_ne hFqm13_40 hFo_40 rfl)]; exact hFqm13_40
              have hFqm14_98 : F98 (qm 14) = cD (cy 0) 4 Bk.2 := by rw [eF98, va_up_ne _ _ (pl_ne hFqm14_40 hFo_40 rfl)]; exact hFqm14_40
              have hFqm15_98 : F98 (qm 15) = cI (cy 1) 6 Xx.2 := by rw [eF98, va_up_ne _ _ (pl_ne hFqm15_40 hFo_40 rfl)]; exact hFqm15_40
              refine lv_aload_n hx hb dX9_reckon_137 rfl (lv_at hl 3 rfl) ?_
              refine lv_iload hx hb dX9_reckon_138 (lv_at hl 2 rfl) ?_
              refine lv_if_ne (tgt := 152) hx hb dX9_reckon_140 (by decide) (fun c99 => ?_) (fun c99 => ?_)
              · refine lv_aload_n hx hb dX9_reckon_152 rfl (lv_at hl 3 rfl) ?_
                refine pg_get (ci := 8) (C := RX9) (T := TX9) (N := 20) hx hb hts hinX9 hown hK hP hmo hFo_98 rfl 19 (by decide) (hts (.fieldLink RX9 131 "RopeDrumsModel" "outcome" "J") (by decide +kernel)) (fun _ h9 => h9) rfl dX9_reckon_153 ?_
                refine pg_put (ci := 8) (v := .long (rkL 3 r44 r47)) (ty := .long) (C := RX9) (T := TX9) (N := 20) hx hb hts hinX9 tyX9 tyX9_ok nmX9 hown hK hP hD hS hmo hFo_98 rfl 19 (by decide) (hts (.fieldLink RX9 131 "RopeDrumsModel" "outcome" "J") (by decide +kernel)) (fun _ h9 => h9) rfl (by decide +kernel) (rfl) (rfl) (Nat.le_of_ble_eq_true rfl) dX9_reckon_156 (fun H locs F100 eF100 hP hS => ?_)
                have eF100 : F100 = va_up F98 o (.inr (8, [.int 0, .ref (qm 0), .ref (qm 1), .ref (qm 2), .ref (qm 3), .ref (qm 4), .ref (qm 5), .ref (qm 6), .ref (qm 7), .int Pp.1, .ref (qm 8), .ref (qm 9), .ref (qm 10), .ref (qm 11), .ref (qm 12), .ref (qm 13), .ref (qm 14), .int 0, .ref (qm 15), .long (rkL 3 r44 r47)])) := eF100
                have hFo_100 : F100 o = .inr (8, [.int 0, .ref (qm 0), .ref (qm 1), .ref (qm 2), .ref (qm 3), .ref (qm 4), .ref (qm 5), .ref (qm 6), .ref (qm 7), .int Pp.1, .ref (qm 8), .ref (qm 9), .ref (qm 10), .ref (qm 11), .ref (qm 12), .ref (qm 13), .ref (qm 14), .int 0, .ref (qm 15), .long (rkL 3 r44 r47)]) := by rw [eF100]; exact va_up_self _ _ _
                have hFqm0_100 : F100 (qm 0) = cI (cy 1) 10 Mm.1 := by rw [eF100, va_up_ne _ _ (pl_ne hFqm0_98 hFo_98 rfl)]; exact hFqm0_98
                have hFqm1_100 : F100 (qm 1) = cJ (cy 2) 10 Mm.2 := by rw [eF100, va_up_ne _ _ (pl_ne hFqm1_98 hFo_98 rfl)]; exact hFqm1_98
                have hFqm2_100 : F100 (qm 2) = cD (cy 0) 6 Dd.1 := by rw [eF100, va_up_ne _ _ (pl_ne hFqm2_98 hFo_98 rfl)]; exact hFqm2_98
                have hFqm3_100 : F100 (qm 3) = cD (cy 0) 6 Dd.2.1 := by rw [eF100, va_up_ne _ _ (pl_ne hFqm3_98 hFo_98 rfl)]; exact hFqm3_98
                have hFqm4_100 : F100 (qm 4) = cD (cy 0) 6 Dd.2.2.1 := by rw [eF100, va_up_ne _ _ (pl_ne hFqm4_98 hFo_98 rfl)]; exact hFqm4_98
                have hFqm5_100 : F100 (qm 5) = cJ (cy 2) 6 Dd.2.2.2 := by rw [eF100, va_up_ne _ _ (pl_ne hFqm5_98 hFo_98 rfl)]; exact hFqm5_98
                have hFqm6_100 : F100 (qm 6) = cI (cy 1) 8 Sl.1 := by rw [eF100, va_up_ne _ _ (pl_ne hFqm6_98 hFo_98 rfl)]; exact hFqm6_98
                have hFqm7_100 : F100 (qm 7) = cJ (cy 2) 128 Sl.2 := by rw [eF100, va_up_ne _ _ (pl_ne hFqm7_98 hFo_98 rfl)]; exact hFqm7_98
                have hFqm8_100 : F100 (qm 8) = cI (cy 1) 30 Pp.2.1 := by rw [eF100, va_up_ne _ _ (pl_ne hFqm8_98 hFo_98 rfl)]; exact hFqm8_98
                have hFqm9_100 : F100 (qm 9) = cI (cy 3) 30 Pp.2.2 := by rw [eF100, va_up_ne _ _ (pl_ne hFqm9_98 hFo_98 rfl)]; exact hFqm9_98
                have hFqm10_100 : F100 (qm 10) = cI (cy 1) 5 Kr.1 := by rw [eF100, va_up_ne _ _ (pl_ne hFqm10_98 hFo_98 rfl)]; exact hFqm10_98
                have hFqm11_100 : F100 (qm 11) = cI (cy 3) 5 Kr.2.1 := by rw [eF100, va_up_ne _ _ (pl_ne hFqm11_98 hFo_98 rfl)]; exact hFqm11_98
                have hFqm12_100 : F100 (qm 12) = cI (cy 1) 60 Kr.2.2 := by rw [eF100, va_up_ne _ _ (pl_ne hFqm12_98 hFo_98 rfl)]; exact hFqm12_98
                have hFqm13_100 : F100 (qm 13) = cI (cy 1) 4 Bk.1 := by rw [eF100, va_up_ne _ _ (pl_ne hFqm13_98 hFo_98 rfl)]; exact hFqm13_98
                have hFqm14_100 : F100 (qm 14) = cD (cy 0) 4 Bk.2 := by rw [eF100, va_up_ne _ _ (pl_ne hFqm14_98 hFo_98 rfl)]; exact hFqm14_98
                have hFqm15_100 : F100 (qm 15) = cI (cy 1) 6 Xx.2 := by rw [eF100, va_up_ne _ _ (pl_ne hFqm15_98 hFo_98 rfl)]; exact hFqm15_98
                refine lv_goto (tgt := 201) hx hb dX9_reckon_159 (by decide) ?_
                refine lv_aload_n hx hb dX9_reckon_201 rfl (lv_at hl 3 rfl) ?_
                refine pg_get (ci := 8) (C := RX9) (T := TX9) (N := 20) hx hb hts hinX9 hown hK hP hmo hFo_100 rfl 17 (by decide) (hts (.fieldLink RX9 65 "RopeDrumsModel" "failed" "I") (by decide +kernel)) (fun _ h9 => h9) rfl dX9_reckon_202 ?_
                refine lv_if_ne (tgt := 228) hx hb dX9_reckon_205 (by decide) (fun c101 => absurd (by decide) c101) (fun c101 => ?_)
                refine lv_aload_n hx hb dX9_reckon_208 rfl (lv_at hl 3 rfl) ?_
                refine pg_get (ci := 8) (C := RX9) (T := TX9) (N := 20) hx hb hts hinX9 hown hK hP hmo hFo_100 rfl 1 (by decide) (hts (.fieldLink RX9 7 "RopeDrumsModel" "laneOf" "[I") (by decide +kernel)) (fun _ h9 => h9) rfl dX9_reckon_209 ?_
                refine lv_iload hx hb dX9_reckon_212 (lv_at hl 7 rfl) ?_
                refine lv_iload hx hb dX9_reckon_214 (lv_at hl 2 rfl) ?_
                refine pg_iast hx hb hK hP hD hS 1 hm0 hFqm0_100 rfl (vp_in_nI (by omega) (by decide)) dX9_reckon_216 (fun H locs F102 eF102 hP hS => ?_)
                rw [nI_clamp (by omega)] at eF102
                have hFo_102 : F102 o = .inr (8, [.int 0, .ref (qm 0), .ref (qm 1), .ref (qm 2), .ref (qm 3), .ref (qm 4), .ref (qm 5), .ref (qm 6), .ref (qm 7), .int Pp.1, .ref (qm 8), .ref (qm 9), .ref (qm 10), .ref (qm 11), .ref (qm 12), .ref (qm 13), .ref (qm 14), .int 0, .ref (qm 15), .long (rkL 3 r44 r47)]) := by rw [eF102, va_up_ne _ _ (pl_ne hFo_100 hFqm0_100 rfl)]; exact hFo_100
                have hFqm0_102 : F102 (qm 0) = cI (cy 1) 10 (upd Mm.1 j_into (mx (Mm.1 j_x) (Mm.1 j_y))) := by rw [eF102]; exact va_up_self _ _ _
                have hFqm1_102 : F102 (qm 1) = cJ (cy 2) 10 Mm.2 := by rw [eF102, va_up_ne _ _ (pl_ne hFqm1_100 hFqm0_100 rfl)]; exact hFqm1_100
                have hFqm2_102 : F102 (qm 2) = cD (cy 0) 6 Dd.1 := by rw [eF102, va_up_ne _ _ (pl_ne hFqm2_100 hFqm0_100 rfl)]; exact hFqm2_100
                have hFqm3_102 : F102 (qm 3) = cD (cy 0) 6 Dd.2.1 := by rw [eF102, va_up_ne _ _ (pl_ne hFqm3_100 hFqm0_100 rfl)]; exact hFqm3_100
                have hFqm4_102 : F102 (qm 4) = cD (cy 0) 6 Dd.2.2.1 := by rw [eF102, va_up_ne _ _ (pl_ne hFqm4_100 hFqm0_100 rfl)]; exact hFqm4_100
                have hFqm5_102 : F102 (qm 5) = cJ (cy 2) 6 Dd.2.2.2 := by rw [eF102, va_up_ne _ _ (pl_ne hFqm5_100 hFqm0_100 rfl)]; exact hFqm5_100
                have hFqm6_102 : F102 (qm 6) = cI (cy 1) 8 Sl.1 := by rw [eF102, va_up_ne _ _ (pl_ne hFqm6_100 hFqm0_100 rfl)]; exact hFqm6_100
                have hFqm7_102 : F102 (qm 7) = cJ (cy 2) 128 Sl.2 := by rw [eF102, va_up_ne _ _ (pl_ne hFqm7_100 hFqm0_100 rfl)]; exact hFqm7_100
                have hFqm8_102 : F102 (qm 8) = cI (cy 1) 30 Pp.2.1 := by rw [eF102, va_up_ne _ _ (pl_ne hFqm8_100 hFqm0_100 rfl)]; exact hFqm8_100
                have hFqm9_102 : F102 (qm 9) = cI (cy 3) 30 Pp.2.2 := by rw [eF102, va_up_ne _ _ (pl_ne hFqm9_100 hFqm0_100 rfl)]; exact hFqm9_100
                have hFqm10_102 : F102 (qm 10) = cI (cy 1) 5 Kr.1 := by rw [eF102, va_up_ne _ _ (pl_ne hFqm10_100 hFqm0_100 rfl)]; exact hFqm10_100
                have hFqm11_102 : F102 (qm 11) = cI (cy 3) 5 Kr.2.1 := by rw [eF102, va_up_ne _ _ (pl_ne hFqm11_100 hFqm0_100 rfl)]; exact hFqm11_100
                have hFqm12_102 : F102 (qm 12) = cI (cy 1) 60 Kr.2.2 := by rw [eF102, va_up_ne _ _ (pl_ne hFqm12_100 hFqm0_100 rfl)]; exact hFqm12_100
                have hFqm13_102 : F102 (qm 13) = cI (cy 1) 4 Bk.1 := by rw [eF102, va_up_ne _ _ (pl_ne hFqm13_100 hFqm0_100 rfl)]; exact hFqm13_100
                have hFqm14_102 : F102 (qm 14) = cD (cy 0) 4 Bk.2 := by rw [eF102, va_up_ne _ _ (pl_ne hFqm14_100 hFqm0_100 rfl)]; exact hFqm14_100
                have hFqm15_102 : F102 (qm 15) = cI (cy 1) 6 Xx.2 := by rw [eF102, va_up_ne _ _ (pl_ne hFqm15_100 hFqm0_100 rfl)]; exact hFqm15_100
                refine lv_aload_n hx hb dX9_reckon_217 rfl (lv_at hl 3 rfl) ?_
                refine pg_get (ci := 8) (C := RX9) (T := TX9) (N := 20) hx hb hts hinX9 hown hK hP hmo hFo_102 rfl 2 (by decide) (hts (.fieldLink RX9 13 "RopeDrumsModel" "held" "[J") (by decide +kernel)) (fun _ h9 => h9) rfl dX9_reckon_218 ?_
                refine lv_iload hx hb dX9_reckon_221 (lv_at hl 7 rfl) ?_
                refine lv_aload_n hx hb dX9_reckon_223 rfl (lv_at hl 3 rfl) ?_
                refine pg_get (ci := 8) (C := RX9) (T := TX9) (N := 20) hx hb hts hinX9 hown hK hP hmo hFo_102 rfl 19 (by decide) (hts (.fieldLink RX9 131 "RopeDrumsModel" "outcome" "J") (by decide +kernel)) (fun _ h9 => h9) rfl dX9_reckon_224 ?_
                refine pg_last hx hb hK hP hD hS 2 hm1 hFqm1_102 rfl (vp_in_nI (by omega) (by decide)) dX9_reckon_227 (fun H locs F103 eF103 hP hS => ?_)
                rw [nI_clamp (by omega)] at eF103
                have hFo_103 : F103 o = .inr (8, [.int 0, .ref (qm 0), .ref (qm 1), .ref (qm 2), .ref (qm 3), .ref (qm 4), .ref (qm 5), .ref (qm 6), .ref (qm 7), .int Pp.1, .ref (qm 8), .ref (qm 9), .ref (qm 10), .ref (qm 11), .ref (qm 12), .ref (qm 13), .ref (qm 14), .int 0, .ref (qm 15), .long (rkL 3 r44 r47)]) := by rw [eF103, va_up_ne _ _ (pl_ne hFo_102 hFqm1_102 rfl)]; exact hFo_102
                have hFqm0_103 : F103 (qm 0) = cI (cy 1) 10 (upd Mm.1 j_into (mx (Mm.1 j_x) (Mm.1 j_y))) := by rw [eF103, va_up_ne _ _ (pl_ne hFqm0_102 hFqm1_102 rfl)]; exact hFqm0_102
                have hFqm1_103 : F103 (qm 1) = cJ (cy 2) 10 (vp_updL Mm.2 j_into (rkL 3 r44 r47)) := by rw [eF103]; exact va_up_self _ _ _
                have hFqm2_103 : F103 (qm 2) = cD (cy 0) 6 Dd.1 := by rw [eF103, va_up_ne _ _ (pl_ne hFqm2_102 hFqm1_102 rfl)]; exact hFqm2_102
                have hFqm3_103 : F103 (qm 3) = cD (cy 0) 6 Dd.2.1 := by rw [eF103, va_up_ne _ _ (pl_ne hFqm3_102 hFqm1_102 rfl)]; exact hFqm3_102
                have hFqm4_103 : F103 (qm 4) = cD (cy 0) 6 Dd.2.2.1 := by rw [eF103, va_up_ne _ _ (pl_ne hFqm4_102 hFqm1_102 rfl)]; exact hFqm4_102
                have hFqm5_103 : F103 (qm 5) = cJ (cy 2) 6 Dd.2.2.2 := by rw [eF103, va_up_ne _ _ (pl_ne hFqm5_102 hFqm1_102 rfl)]; exact hFqm5_102
                have hFqm6_103 : F103 (qm 6) = cI (cy 1) 8 Sl.1 := by rw [eF103, va_up_ne _ _ (pl_ne hFqm6_102 hFqm1_102 rfl)]; exact hFqm6_102
                have hFqm7_103 : F103 (qm 7) = cJ (cy 2) 128 Sl.2 := by rw [eF103, va_up_ne _ _ (pl_ne hFqm7_102 hFqm1_102 rfl)]; exact hFqm7_102
                have hFqm8_103 : F103 (qm 8) = cI (cy 1) 30 Pp.2.1 := by rw [eF103, va_up_ne _ _ (pl_ne hFqm8_102 hFqm1_102 rfl)]; exact hFqm8_102
                have hFqm9_103 : F103 (qm 9) = cI (cy 3) 30 Pp.2.2 := by rw [eF103, va_up_ne _ _ (pl_ne hFqm9_102 hFqm1_102 rfl)]; exact hFqm9_102
                have hFqm10_103 : F103 (qm 10) = cI (cy 1) 5 Kr.1 := by rw [eF103, va_up_ne _ _ (pl_ne hFqm10_102 hFqm1_102 rfl)]; exact hFqm10_102
                have hFqm11_103 : F103 (qm 11) = cI (cy 3) 5 Kr.2.1 := by rw [eF103, va_up_ne _ _ (pl_ne hFqm11_102 hFqm1_102 rfl)]; exact hFqm11_102
                have hFqm12_103 : F103 (qm 12) = cI (cy 1) 60 Kr.2.2 := by rw [eF103, va_up_ne _ _ (pl_ne hFqm12_102 hFqm1_102 rfl)]; exact hFqm12_102
                have hFqm13_103 : F103 (qm 13) = cI (cy 1) 4 Bk.1 := by rw [eF103, va_up_ne _ _ (pl_ne hFqm13_102 hFqm1_102 rfl)]; exact hFqm13_102
                have hFqm14_103 : F103 (qm 14) = cD (cy 0) 4 Bk.2 := by rw [eF103, va_up_ne _ _ (pl_ne hFqm14_102 hFqm1_102 rfl)]; exact hFqm14_102
                have hFqm15_103 : F103 (qm 15) = cI (cy 1) 6 Xx.2 := by rw [eF103, va_up_ne _ _ (pl_ne hFqm15_102 hFqm1_102 rfl)]; exact hFqm15_102
                refine lv_aload_n hx hb dX9_reckon_228 rfl (lv_at hl 3 rfl) ?_
                refine lv_iload hx hb dX9_reckon_229 (lv_at hl 2 rfl) ?_
                refine va_calli (va_runV (As := [.int (mx (Mm.1 j_x) (Mm.1 j_y))]) (rest := []) ⟨hx, hb, hml, hown, hts⟩ (c9_answers_0 l G cy L F103 H.size o qm 0 Pp.1 (rkL 3 r44 r47) hmo hFo_103 Xx.2 hm15 hFqm15_103 (mx (Mm.1 j_x) (Mm.1 j_y))) (cwV 1 hts gX9_reckon_X9_answers rfl rfl rfl (by decide +kernel) ⟨Nat.le_of_ble_eq_true rfl, Nat.le_of_ble_eq_true rfl⟩) (preV_of okQ (⟨rfl, hP, hK, hD.top⟩) (pl_recv hK hP (ci := 8) rfl hmo hFo_103)) rfl rfl hl.1 rfl (lv_room (Nat.le_of_ble_eq_true rfl)) dX9_reckon_231 ⟨Nat.le_of_ble_eq_true rfl, Nat.le_of_ble_eq_true rfl⟩) hS (fun q _ h => pl_free hD hS hA q h) (pl_free hD hS hA) (fun r105 F104 t H1 locs ht hvm hw hP1 hz1 hk1 hS => ?_)
                have hP1 : va_P G vwCl (va_pl L F104) t.heap := hP1
                rw [ht] at hP1
                have hP := hP1
                generalize H1 = H at hP hS ⊢
                obtain ⟨hqr105, eF104⟩ := hw
                have hFo_F104 : F104 o = .inr (8, [.int 0, .ref (qm 0), .ref (qm 1), .ref (qm 2), .ref (qm 3), .ref (qm 4), .ref (qm 5), .ref (qm 6), .ref (qm 7), .int Pp.1, .ref (qm 8), .ref (qm 9), .ref (qm 10), .ref (qm 11), .ref (qm 12), .ref (qm 13), .ref (qm 14), .int 0, .ref (qm 15), .long (rkL 3 r44 r47)]) := by rw [eF104]; exact hFo_103
                have hFqm0_F104 : F104 (qm 0) = cI (cy 1) 10 (upd Mm.1 j_into (mx (Mm.1 j_x) (Mm.1 j_y))) := by rw [eF104]; exact hFqm0_103
                have hFqm1_F104 : F104 (qm 1) = cJ (cy 2) 10 (vp_updL Mm.2 j_into (rkL 3 r44 r47)) := by rw [eF104]; exact hFqm1_103
                have hFqm2_F104 : F104 (qm 2) = cD (cy 0) 6 Dd.1 := by rw [eF104]; exact hFqm2_103
                have hFqm3_F104 : F104 (qm 3) = cD (cy 0) 6 Dd.2.1 := by rw [eF104]; exact hFqm3_103
                have hFqm4_F104 : F104 (qm 4) = cD (cy 0) 6 Dd.2.2.1 := by rw [eF104]; exact hFqm4_103
                have hFqm5_F104 : F104 (qm 5) = cJ (cy 2) 6 Dd.2.2.2 := by rw [eF104]; exact hFqm5_103
                have hFqm6_F104 : F104 (qm 6) = cI (cy 1) 8 Sl.1 := by rw [eF104]; exact hFqm6_103
                have hFqm7_F104 : F104 (qm 7) = cJ (cy 2) 128 Sl.2 := by rw [eF104]; exact hFqm7_103
                have hFqm8_F104 : F104 (qm 8) = cI (cy 1) 30 Pp.2.1 := by rw [eF104]; exact hFqm8_103
                have hFqm9_F104 : F104 (qm 9) = cI (cy 3) 30 Pp.2.2 := by rw [eF104]; exact hFqm9_103
                have hFqm10_F104 : F104 (qm 10) = cI (cy 1) 5 Kr.1 := by rw [eF104]; exact hFqm10_103
                have hFqm11_F104 : F104 (qm 11) = cI (cy 3) 5 Kr.2.1 := by rw [eF104]; exact hFqm11_103
                have hFqm12_F104 : F104 (qm 12) = cI (cy 1) 60 Kr.2.2 := by rw [eF104]; exact hFqm12_103
                have hFqm13_F104 : F104 (qm 13) = cI (cy 1) 4 Bk.1 := by rw [eF104]; exact hFqm13_103
                have hFqm14_F104 : F104 (qm 14) = cD (cy 0) 4 Bk.2 := by rw [eF104]; exact hFqm14_103
                have hFqm15_F104 : F104 (qm 15) = cI (cy 1) 6 Xx.2 := by rw [eF104]; exact hFqm15_103
                have hr105 := hqr105
                exact W.iret (v := r105) hx hb hr (fun t ht hW => ⟨⟨r105, F104, rfl, (by subst hr105 hr47 ev46 ev45 hr44 ev43 ev42 ev37; have hc140 := c99; have hsp : sp_reckon Mm Xx 3 (nI j_x) (nI j_y) (nI j_into) = (mx (Mm.1 j_x) (Mm.1 j_y), setM Mm j_into (mx (Mm.1 j_x) (Mm.1 j_y)) (rkL 3 (tn (Mm.1 j_x) (Mm.2 j_x) (mx (Mm.1 j_x) (Mm.1 j_y))) (tn (Mm.1 j_y) (Mm.2 j_y) (mx (Mm.1 j_x) (Mm.1 j_y)))), goodX Xx) := (by unfold sp_reckon; rw [hi_x, hi_y, hi_into, ixk.2.2.2.1]; show rk Mm Xx 3 j_x j_y j_into = _; unfold rk; rw [if_pos (hmx.1 h1l).2.1]; rw [if_neg (fun q => hz0 q.2), if_neg hc140]); rw [hsp]; exact ⟨rfl, (by exact ⟨⟨_, _, hmo, hFo_F104⟩, ⟨hm0, hFqm0_F104⟩, ⟨hm1, hFqm1_F104⟩, ⟨hm2, hFqm2_F104⟩, ⟨hm3, hFqm3_F104⟩, ⟨hm4, hFqm4_F104⟩, ⟨hm5, hFqm5_F104⟩, ⟨hm6, hFqm6_F104⟩, ⟨hm7, hFqm7_F104⟩, ⟨hm8, hFqm8_F104⟩, ⟨hm9, hFqm9_F104⟩, ⟨hm10, hFqm10_F104⟩, ⟨hm11, hFqm11_F104⟩, ⟨hm12, hFqm12_F104⟩, ⟨hm13, hFqm13_F104⟩, ⟨hm14, hFqm14_F104⟩, ⟨hm15, hFqm15_F104⟩, hne⟩)⟩), (by show va_P _ _ _ t.heap; rw [ht]; exact hP)⟩, hS.F ht⟩) hS.2.2 dX9_reckon_234
              · refine lv_aload_n hx hb dX9_reckon_143 rfl (lv_at hl 3 rfl) ?_
                refine pg_get (ci := 8) (C := RX9) (T := TX9) (N := 20) hx hb hts hinX9 hown hK hP hmo hFo_98 rfl 19 (by decide) (hts (.fieldLink RX9 131 "RopeDrumsModel" "outcome" "J") (by decide +kernel)) (fun _ h9 => h9) rfl dX9_reckon_144 ?_
                refine lv_l2i hx hb dX9_reckon_147 rfl ?_
                refine lv_topi (fun v106 ev106 => ?_)
                refine lv_i2l hx hb dX9_reckon_148 rfl ?_
                refine lv_topl (fun v107 ev107 => ?_)
                refine lv_goto (tgt := 156) hx hb dX9_reckon_149 (by decide) ?_
                refine pg_put (ci := 8) (v := .long v107) (ty := .long) (C := RX9) (T := TX9) (N := 20) hx hb hts hinX9 tyX9 tyX9_ok nmX9 hown hK hP hD hS hmo hFo_98 rfl 19 (by decide) (hts (.fieldLink RX9 131 "RopeDrumsModel" "outcome" "J") (by decide +kernel)) (fun _ h9 => h9) rfl (by decide +kernel) (rfl) (rfl) (Nat.le_of_ble_eq_true rfl) dX9_reckon_156 (fun H locs F108 eF108 hP hS => ?_)
                have eF108 : F108 = va_up F98 o (.inr (8, [.int 0, .ref (qm 0), .ref (qm 1), .ref (qm 2), .ref (qm 3), .ref (qm 4), .ref (qm 5), .ref (qm 6), .ref (qm 7), .int Pp.1, .ref (qm 8), .ref (qm 9), .ref (qm 10), .ref (qm 11), .ref (qm 12), .ref (qm 13), .ref (qm 14), .int 0, .ref (qm 15), .long v107])) := eF108
                have hFo_108 : F108 o = .inr (8, [.int 0, .ref (qm 0), .ref (qm 1), .ref (qm 2), .ref (qm 3), .ref (qm 4), .ref (qm 5), .ref (qm 6), .ref (qm 7), .int Pp.1, .ref (qm 8), .ref (qm 9), .ref (qm 10), .ref (qm 11), .ref (qm 12), .ref (qm 13), .ref (qm 14), .int 0, .ref (qm 15), .long v107]) := by rw [eF108]; exact va_up_self _ _ _
                have hFqm0_108 : F108 (qm 0) = cI (cy 1) 10 Mm.1 := by rw [eF108, va_up_ne _ _ (pl_ne hFqm0_98 hFo_98 rfl)]; exact hFqm0_98
                have hFqm1_108 : F108 (qm 1) = cJ (cy 2) 10 Mm.2 := by rw [eF108, va_up_ne _ _ (pl_ne hFqm1_98 hFo_98 rfl)]; exact hFqm1_98
                have hFqm2_108 : F108 (qm 2) = cD (cy 0) 6 Dd.1 := by rw [eF108, va_up_ne _ _ (pl_ne hFqm2_98 hFo_98 rfl)]; exact hFqm2_98
                have hFqm3_108 : F108 (qm 3) = cD (cy 0) 6 Dd.2.1 := by rw [eF108, va_up_ne _ _ (pl_ne hFqm3_98 hFo_98 rfl)]; exact hFqm3_98
                have hFqm4_108 : F108 (qm 4) = cD (cy 0) 6 Dd.2.2.1 := by rw [eF108, va_up_ne _ _ (pl_ne hFqm4_98 hFo_98 rfl)]; exact hFqm4_98
                have hFqm5_108 : F108 (qm 5) = cJ (cy 2) 6 Dd.2.2.2 := by rw [eF108, va_up_ne _ _ (pl_ne hFqm5_98 hFo_98 rfl)]; exact hFqm5_98
                have hFqm6_108 : F108 (qm 6) = cI (cy 1) 8 Sl.1 := by rw [eF108, va_up_ne _ _ (pl_ne hFqm6_98 hFo_98 rfl)]; exact hFqm6_98
                have hFqm7_108 : F108 (qm 7) = cJ (cy 2) 128 Sl.2 := by rw [eF108, va_up_ne _ _ (pl_ne hFqm7_98 hFo_98 rfl)]; exact hFqm7_98
                have hFqm8_108 : F108 (qm 8) = cI (cy 1) 30 Pp.2.1 := by rw [eF108, va_up_ne _ _ (pl_ne hFqm8_98 hFo_98 rfl)]; exact hFqm8_98
                have hFqm9_108 : F108 (qm 9) = cI (cy 3) 30 Pp.2.2 := by rw [eF108, va_up_ne _ _ (pl_ne hFqm9_98 hFo_98 rfl)]; exact hFqm9_98
                have hFqm10_108 : F108 (qm 10) = cI (cy 1) 5 Kr.1 := by rw [eF108, va_up_ne _ _ (pl_ne hFqm10_98 hFo_98 rfl)]; exact hFqm10_98
                have hFqm11_108 : F108 (qm 11) = cI (cy 3) 5 Kr.2.1 := by rw [eF108, va_up_ne _ _ (pl_ne hFqm11_98 hFo_98 rfl)]; exact hFqm11_98
                have hFqm12_108 : F108 (qm 12) = cI (cy 1) 60 Kr.2.2 := by rw [eF108, va_up_ne _ _ (pl_ne hFqm12_98 hFo_98 rfl)]; exact hFqm12_98
                have hFqm13_108 : F108 (qm 13) = cI (cy 1) 4 Bk.1 := by rw [eF108, va_up_ne _ _ (pl_ne hFqm13_98 hFo_98 rfl)]; exact hFqm13_98
                have hFqm14_108 : F108 (qm 14) = cD (cy 0) 4 Bk.2 := by rw [eF108, va_up_ne _ _ (pl_ne hFqm14_98 hFo_98 rfl)]; exact hFqm14_98
                have hFqm15_108 : F108 (qm 15) = cI (cy 1) 6 Xx.2 := by rw [eF108, va_up_ne _ _ (pl_ne hFqm15_98 hFo_98 rfl)]; exact hFqm15_98
                refine lv_goto (tgt := 201) hx hb dX9_reckon_159 (by decide) ?_
                refine lv_aload_n hx hb dX9_reckon_201 rfl (lv_at hl 3 rfl) ?_
                refine pg_get (ci := 8) (C := RX9) (T := TX9) (N := 20) hx hb hts hinX9 hown hK hP hmo hFo_108 rfl 17 (by decide) (hts (.fieldLink RX9 65 "RopeDrumsModel" "failed" "I") (by decide +kernel)) (fun _ h9 => h9) rfl dX9_reckon_202 ?_
                refine lv_if_ne (tgt := 228) hx hb dX9_reckon_205 (by decide) (fun c109 => absurd (by decide) c109) (fun c109 => ?_)
                refine lv_aload_n hx hb dX9_reckon_208 rfl (lv_at hl 3 rfl) ?_
                refine pg_get (ci := 8) (C := RX9) (T := TX9) (N := 20) hx hb hts hinX9 hown hK hP hmo hFo_108 rfl 1 (by decide) (hts (.fieldLink RX9 7 "RopeDrumsModel" "laneOf" "[I") (by decide +kernel)) (fun _ h9 => h9) rfl dX9_reckon_209 ?_
                refine lv_iload hx hb dX9_reckon_212 (lv_at hl 7 rfl) ?_
                refine lv_iload hx hb dX9_reckon_214 (lv_at hl 2 rfl) ?_
                refine pg_iast hx hb hK hP hD hS 1 hm0 hFqm0_108 rfl (vp_in_nI (by omega) (by decide)) dX9_reckon_216 (fun H locs F110 eF110 hP hS => ?_)
                rw [nI_clamp (by omega)] at eF110
                have hFo_110 : F110 o = .inr (8, [.int 0, .ref (qm 0), .ref (qm 1), .ref (qm 2), .ref (qm 3), .ref (qm 4), .ref (qm 5), .ref (qm 6), .ref (qm 7), .int Pp.1, .ref (qm 8), .ref (qm 9), .ref (qm 10), .ref (qm 11), .ref (qm 12), .ref (qm 13), .ref (qm 14), .int 0, .ref (qm 15), .long v107]) := by rw [eF110, va_up_ne _ _ (pl_ne hFo_108 hFqm0_108 rfl)]; exact hFo_108
                have hFqm0_110 : F110 (qm 0) = cI (cy 1) 10 (upd Mm.1 j_into (mx (Mm.1 j_x) (Mm.1 j_y))) := by rw [eF110]; exact va_up_self _ _ _
                have hFqm1_110 : F110 (qm 1) = cJ (cy 2) 10 Mm.2 := by rw [eF110, va_up_ne _ _ (pl_ne hFqm1_108 hFqm0_108 rfl)]; exact hFqm1_108
                have hFqm2_110 : F110 (qm 2) = cD (cy 0) 6 Dd.1 := by rw [eF110, va_up_ne _ _ (pl_ne hFqm2_108 hFqm0_108 rfl)]; exact hFqm2_108
                have hFqm3_110 : F110 (qm 3) = cD (cy 0) 6 Dd.2.1 := by rw [eF110, va_up_ne _ _ (pl_ne hFqm3_108 hFqm0_108 rfl)]; exact hFqm3_108
                have hFqm4_110 : F110 (qm 4) = cD (cy 0) 6 Dd.2.2.1 := by rw [eF110, va_up_ne _ _ (pl_ne hFqm4_108 hFqm0_108 rfl)]; exact hFqm4_108
                have hFqm5_110 : F110 (qm 5) = cJ (cy 2) 6 Dd.2.2.2 := by rw [eF110, va_up_ne _ _ (pl_ne hFqm5_108 hFqm0_108 rfl)]; exact hFqm5_108
                have hFqm6_110 : F110 (qm 6) = cI (cy 1) 8 Sl.1 := by rw [eF110, va_up_ne _ _ (pl_ne hFqm6_108 hFqm0_108 rfl)]; exact hFqm6_108
                have hFqm7_110 : F110 (qm 7) = cJ (cy 2) 128 Sl.2 := by rw [eF110, va_up_ne _ _ (pl_ne hFqm7_108 hFqm0_108 rfl)]; exact hFqm7_108
                have hFqm8_110 : F110 (qm 8) = cI (cy 1) 30 Pp.2.1 := by rw [eF110, va_up_ne _ _ (pl_ne hFqm8_108 hFqm0_108 rfl)]; exact hFqm8_108
                have hFqm9_110 : F110 (qm 9) = cI (cy 3) 30 Pp.2.2 := by rw [eF110, va_up_ne _ _ (pl_ne hFqm9_108 hFqm0_108 rfl)]; exact hFqm9_108
                have hFqm10_110 : F110 (qm 10) = cI (cy 1) 5 Kr.1 := by rw [eF110, va_up_ne _ _ (pl_ne hFqm10_108 hFqm0_108 rfl)]; exact hFqm10_108
                have hFqm11_110 : F110 (qm 11) = cI (cy 3) 5 Kr.2.1 := by rw [eF110, va_up_ne _ _ (pl_ne hFqm11_108 hFqm0_108 rfl)]; exact hFqm11_108
                have hFqm12_110 : F110 (qm 12) = cI (cy 1) 60 Kr.2.2 := by rw [eF110, va_up_ne _ _ (pl_ne hFqm12_108 hFqm0_108 rfl)]; exact hFqm12_108
                have hFqm13_110 : F110 (qm 13) = cI (cy 1) 4 Bk.1 := by rw [eF110, va_up_ne _ _ (pl_ne hFqm13_108 hFqm0_108 rfl)]; exact hFqm13_108
                have hFqm14_110 : F110 (qm 14) = cD (cy 0) 4 Bk.2 := by rw [eF110, va_up_ne _ _ (pl_ne hFqm14_108 hFqm0_108 rfl)]; exact hFqm14_108
                have hFqm15_110 : F110 (qm 15) = cI (cy 1) 6 Xx.2 := by rw [eF110, va_up_ne _ _ (pl_ne hFqm15_108 hFqm0_108 rfl)]; exact hFqm15_108
                refine lv_aload_n hx hb dX9_reckon_217 rfl (lv_at hl 3 rfl) ?_
                refine pg_get (ci := 8) (C := RX9) (T := TX9) (N := 20) hx hb hts hinX9 hown hK hP hmo hFo_110 rfl 2 (by decide) (hts (.fieldLink RX9 13 "RopeDrumsModel" "held" "[J") (by decide +kernel)) (fun _ h9 => h9) rfl dX9_reckon_218 ?_
                refine lv_iload hx hb dX9_reckon_221 (lv_at hl 7 rfl) ?_
                refine lv_aload_n hx hb dX9_reckon_223 rfl (lv_at hl 3 rfl) ?_
                refine pg_get (ci := 8) (C := RX9) (T := TX9) (N := 20) hx hb hts hinX9 hown hK hP hmo hFo_110 rfl 19 (by decide) (hts (.fieldLink RX9 131 "RopeDrumsModel" "outcome" "J") (by decide +kernel)) (fun _ h9 => h9) rfl dX9_reckon_224 ?_
                refine pg_last hx hb hK hP hD hS 2 hm1 hFqm1_110 rfl (vp_in_nI (by omega) (by decide)) dX9_reckon_227 (fun H locs F111 eF111 hP hS => ?_)
                rw [nI_clamp (by omega)] at eF111
                have hFo_111 : F111 o = .inr (8, [.int 0, .ref (qm 0), .ref (qm 1), .ref (qm 2), .ref (qm 3), .ref (qm 4), .ref (qm 5), .ref (qm 6), .ref (qm 7), .int Pp.1, .ref (qm 8), .ref (qm 9), .ref (qm 10), .ref (qm 11), .ref (qm 12), .ref (qm 13), .ref (qm 14), .int 0, .ref (qm 15), .long v107]) := by rw [eF111, va_up_ne _ _ (pl_ne hFo_110 hFqm1_110 rfl)]; exact hFo_110
                have hFqm0_111 : F111 (qm 0) = cI (cy 1) 10 (upd Mm.1 j_into (mx (Mm.1 j_x) (Mm.1 j_y))) := by rw [eF111, va_up_ne _ _ (pl_ne hFqm0_110 hFqm1_110 rfl)]; exact hFqm0_110
                have hFqm1_111 : F111 (qm 1) = cJ (cy 2) 10 (vp_updL Mm.2 j_into v107) := by rw [eF111]; exact va_up_self _ _ _
                have hFqm2_111 : F111 (qm 2) = cD (cy 0) 6 Dd.1 := by rw [eF111, va_up_ne _ _ (pl_ne hFqm2_110 hFqm1_110 rfl)]; exact hFqm2_110
                have hFqm3_111 : F111 (qm 3) = cD (cy 0) 6 Dd.2.1 := by rw [eF111, va_up_ne _ _ (pl_ne hFqm3_110 hFqm1_110 rfl)]; exact hFqm3_110
                have hFqm4_111 : F111 (qm 4) = cD (cy 0) 6 Dd.2.2.1 := by rw [eF111, va_up_ne _ _ (pl_ne hFqm4_110 hFqm1_110 rfl)]; exact hFqm4_110
                have hFqm5_111 : F111 (qm 5) = cJ (cy 2) 6 Dd.2.2.2 := by rw [eF111, va_up_ne _ _ (pl_ne hFqm5_110 hFqm1_110 rfl)]; exact hFqm5_110
                have hFqm6_111 : F111 (qm 6) = cI (cy 1) 8 Sl.1 := by rw [eF111, va_up_ne _ _ (pl_ne hFqm6_110 hFqm1_110 rfl)]; exact hFqm6_110
                have hFqm7_111 : F111 (qm 7) = cJ (cy 2) 128 Sl.2 := by rw [eF111, va_up_ne _ _ (pl_ne hFqm7_110 hFqm1_110 rfl)]; exact hFqm7_110
                have hFqm8_111 : F111 (qm 8) = cI (cy 1) 30 Pp.2.1 := by rw [eF111, va_up_ne _ _ (pl_ne hFqm8_110 hFqm1_110 rfl)]; exact hFqm8_110
                have hFqm9_111 : F111 (qm 9) = cI (cy 3) 30 Pp.2.2 := by rw [eF111, va_up_ne _ _ (pl_ne hFqm9_110 hFqm1_110 rfl)]; exact hFqm9_110
                have hFqm10_111 : F111 (qm 10) = cI (cy 1) 5 Kr.1 := by rw [eF111, va_up_ne _ _ (pl_ne hFqm10_110 hFqm1_110 rfl)]; exact hFqm10_110
                have hFqm11_111 : F111 (qm 11) = cI (cy 3) 5 Kr.2.1 := by rw [eF111, va_up_ne _ _ (pl_ne hFqm11_110 hFqm1_110 rfl)]; exact hFqm11_110
                have hFqm12_111 : F111 (qm 12) = cI (cy 1) 60 Kr.2.2 := by rw [eF111, va_up_ne _ _ (pl_ne hFqm12_110 hFqm1_110 rfl)]; exact hFqm12_110
                have hFqm13_111 : F111 (qm 13) = cI (cy 1) 4 Bk.1 := by rw [eF111, va_up_ne _ _ (pl_ne hFqm13_110 hFqm1_110 rfl)]; exact hFqm13_110
                have hFqm14_111 : F111 (qm 14) = cD (cy 0) 4 Bk.2 := by rw [eF111, va_up_ne _ _ (pl_ne hFqm14_110 hFqm1_110 rfl)]; exact hFqm14_110
                have hFqm15_111 : F111 (qm 15) = cI (cy 1) 6 Xx.2 := by rw [eF111, va_up_ne _ _ (pl_ne hFqm15_110 hFqm1_110 rfl)]; exact hFqm15_110
                refine lv_aload_n hx hb dX9_reckon_228 rfl (lv_at hl 3 rfl) ?_
                refine lv_iload hx hb dX9_reckon_229 (lv_at hl 2 rfl) ?_
                refine va_calli (va_runV (As := [.int (mx (Mm.1 j_x) (Mm.1 j_y))]) (rest := []) ⟨hx, hb, hml, hown, hts⟩ (c9_answers_0 l G cy L F111 H.size o qm 0 Pp.1 v107 hmo hFo_111 Xx.2 hm15 hFqm15_111 (mx (Mm.1 j_x) (Mm.1 j_y))) (cwV 1 hts gX9_reckon_X9_answers rfl rfl rfl (by decide +kernel) ⟨Nat.le_of_ble_eq_true rfl, Nat.le_of_ble_eq_true rfl⟩) (preV_of okQ (⟨rfl, hP, hK, hD.top⟩) (pl_recv hK hP (ci := 8) rfl hmo hFo_111)) rfl rfl hl.1 rfl (lv_room (Nat.le_of_ble_eq_true rfl)) dX9_reckon_231 ⟨Nat.le_of_ble_eq_true rfl, Nat.le_of_ble_eq_true rfl⟩) hS (fun q _ h => pl_free hD hS hA q h) (pl_free hD hS hA) (fun r113 F112 t H1 locs ht hvm hw hP1 hz1 hk1 hS => ?_)
                have hP1 : va_P G vwCl (va_pl L F112) t.heap := hP1
                rw [ht] at hP1
                have hP := hP1
                generalize H1 = H at hP hS ⊢
                obtain ⟨hqr113, eF112⟩ := hw
                have hFo_F112 : F112 o = .inr (8, [.int 0, .ref (qm 0), .ref (qm 1), .ref (qm 2), .ref (qm 3), .ref (qm 4), .ref (qm 5), .ref (qm 6), .ref (qm 7), .int Pp.1, .ref (qm 8), .ref (qm 9), .ref (qm 10), .ref (qm 11), .ref (qm 12), .ref (qm 13), .ref (qm 14), .int 0, .ref (qm 15), .long v107]) := by rw [eF112]; exact hFo_111
                have hFqm0_F112 : F112 (qm 0) = cI (cy 1) 10 (upd Mm.1 j_into (mx (Mm.1 j_x) (Mm.1 j_y))) := by rw [eF112]; exact hFqm0_111
                have hFqm1_F112 : F112 (qm 1) = cJ (cy 2) 10 (vp_updL Mm.2 j_into v107) := by rw [eF112]; exact hFqm1_111
                have hFqm2_F112 : F112 (qm 2) = cD (cy 0) 6 Dd.1 := by rw [eF112]; exact hFqm2_111
                have hFqm3_F112 : F112 (qm 3) = cD (cy 0) 6 Dd.2.1 := by rw [eF112]; exact hFqm3_111
                have hFqm4_F112 : F112 (qm 4) = cD (cy 0) 6 Dd.2.2.1 := by rw [eF112]; exact hFqm4_111
                have hFqm5_F112 : F112 (qm 5) = cJ (cy 2) 6 Dd.2.2.2 := by rw [eF112]; exact hFqm5_111
                have hFqm6_F112 : F112 (qm 6) = cI (cy 1) 8 Sl.1 := by rw [eF112]; exact hFqm6_111
                have hFqm7_F112 : F112 (qm 7) = cJ (cy 2) 128 Sl.2 := by rw [eF112]; exact hFqm7_111
                have hFqm8_F112 : F112 (qm 8) = cI (cy 1) 30 Pp.2.1 := by rw [eF112]; exact hFqm8_111
                have hFqm9_F112 : F112 (qm 9) = cI (cy 3) 30 Pp.2.2 := by rw [eF112]; exact hFqm9_111
                have hFqm10_F112 : F112 (qm 10) = cI (cy 1) 5 Kr.1 := by rw [eF112]; exact hFqm10_111
                have hFqm11_F112 : F112 (qm 11) = cI (cy 3) 5 Kr.2.1 := by rw [eF112]; exact hFqm11_111
                have hFqm12_F112 : F112 (qm 12) = cI (cy 1) 60 Kr.2.2 := by rw [eF112]; exact hFqm12_111
                have hFqm13_F112 : F112 (qm 13) = cI (cy 1) 4 Bk.1 := by rw [eF112]; exact hFqm13_111
                have hFqm14_F112 : F112 (qm 14) = cD (cy 0) 4 Bk.2 := by rw [eF112]; exact hFqm14_111
                have hFqm15_F112 : F112 (qm 15) = cI (cy 1) 6 Xx.2 := by rw [eF112]; exact hFqm15_111
                have hr113 := hqr113
                exact W.iret (v := r113) hx hb hr (fun t ht hW => ⟨⟨r113, F112, rfl, (by subst hr113 ev107 ev106 hr47 ev46 ev45 hr44 ev43 ev42 ev37; have hc140 := c99; have hsp : sp_reckon Mm Xx 3 (nI j_x) (nI j_y) (nI j_into) = (mx (Mm.1 j_x) (Mm.1 j_y), setM Mm j_into (mx (Mm.1 j_x) (Mm.1 j_y)) (rkL 3 (tn (Mm.1 j_x) (Mm.2 j_x) (mx (Mm.1 j_x) (Mm.1 j_y))) (tn (Mm.1 j_y) (Mm.2 j_y) (mx (Mm.1 j_x) (Mm.1 j_y)))).toInt32.toInt64, goodX Xx) := (by unfold sp_reckon; rw [hi_x, hi_y, hi_into, ixk.2.2.2.1]; show rk Mm Xx 3 j_x j_y j_into = _; unfold rk; rw [if_pos (hmx.1 h1l).2.1]; rw [if_neg (fun q => hz0 q.2), if_pos hc140]); rw [hsp]; exact ⟨rfl, (by exact ⟨⟨_, _, hmo, hFo_F112⟩, ⟨hm0, hFqm0_F112⟩, ⟨hm1, hFqm1_F112⟩, ⟨hm2, hFqm2_F112⟩, ⟨hm3, hFqm3_F112⟩, ⟨hm4, hFqm4_F112⟩, ⟨hm5, hFqm5_F112⟩, ⟨hm6, hFqm6_F112⟩, ⟨hm7, hFqm7_F112⟩, ⟨hm8, hFqm8_F112⟩, ⟨hm9, hFqm9_F112⟩, ⟨hm10, hFqm10_F112⟩, ⟨hm11, hFqm11_F112⟩, ⟨hm12, hFqm12_F112⟩, ⟨hm13, hFqm13_F112⟩, ⟨hm14, hFqm14_F112⟩, ⟨hm15, hFqm15_F112⟩, hne⟩)⟩), (by show va_P _ _ _ t.heap; rw [ht]; exact hP)⟩, hS.F ht⟩) hS.2.2 dX9_reckon_234
        · refine lv_aload_n hx hb dX9_reckon_52 rfl (lv_at hl 0 rfl) ?_
          refine pg_get (ci := 8) (C := RX9) (T := TX9) (N := 20) hx hb hts hinX9 hown hK hP hmo hFo_40 rfl 1 (by decide) (hts (.fieldLink RX9 7 "RopeDrumsModel" "laneOf" "[I") (by decide +kernel)) (fun _ h9 => h9) rfl dX9_reckon_53 ?_
          refine lv_iload_n hx hb dX9_reckon_56 rfl (lv_at hl 2 rfl) ?_
          refine pg_iald hx hb hK hP 1 hm0 hFqm0_40 rfl (vp_in_nI (by omega) (by decide)) dX9_reckon_57 ?_
          refine lv_topi (fun v114 ev114 => ?_)
          rw [nI_clamp (by omega)] at ev114
          refine lv_aload_n hx hb dX9_reckon_58 rfl (lv_at hl 0 rfl) ?_
          refine pg_get (ci := 8) (C := RX9) (T := TX9) (N := 20) hx hb hts hinX9 hown hK hP hmo hFo_40 rfl 1 (by decide) (hts (.fieldLink RX9 7 "RopeDrumsModel" "laneOf" "[I") (by decide +kernel)) (fun _ h9 => h9) rfl dX9_reckon_59 ?_
          refine lv_iload_n hx hb dX9_reckon_62 rfl (lv_at hl 3 rfl) ?_
          refine pg_iald hx hb hK hP 1 hm0 hFqm0_40 rfl (vp_in_nI (by omega) (by decide)) dX9_reckon_63 ?_
          refine lv_topi (fun v115 ev115 => ?_)
          rw [nI_clamp (by omega)] at ev115
          refine lv_icmp_le (tgt := 76) hx hb dX9_reckon_64 (by decide) (fun c116 => ?_) (fun c116 => ?_)
          · refine lv_aload_n hx hb dX9_reckon_76 rfl (lv_at hl 0 rfl) ?_
            refine pg_get (ci := 8) (C := RX9) (T := TX9) (N := 20) hx hb hts hinX9 hown hK hP hmo hFo_40 rfl 1 (by decide) (hts (.fieldLink RX9 7 "RopeDrumsModel" "laneOf" "[I") (by decide +kernel)) (fun _ h9 => h9) rfl dX9_reckon_77 ?_
            refine lv_iload_n hx hb dX9_reckon_80 rfl (lv_at hl 3 rfl) ?_
            refine pg_iald hx hb hK hP 1 hm0 hFqm0_40 rfl (vp_in_nI (by omega) (by decide)) dX9_reckon_81 ?_
            refine lv_topi (fun v117 ev117 => ?_)
            rw [nI_clamp (by omega)] at ev117
            exact K _ ((by have hc := c116; rw [ev114, ev115] at hc; rw [ev117]; exact (if_neg (Int32.not_lt.mpr hc)).symm))
          · refine lv_aload_n hx hb dX9_reckon_67 rfl (lv_at hl 0 rfl) ?_
            refine pg_get (ci := 8) (C := RX9) (T := TX9) (N := 20) hx hb hts hinX9 hown hK hP hmo hFo_40 rfl 1 (by decide) (hts (.fieldLink RX9 7 "RopeDrumsModel" "laneOf" "[I") (by decide +kernel)) (fun _ h9 => h9) rfl dX9_reckon_68 ?_
            refine lv_iload_n hx hb dX9_reckon_71 rfl (lv_at hl 2 rfl) ?_
            refine pg_iald hx hb hK hP 1 hm0 hFqm0_40 rfl (vp_in_nI (by omega) (by decide)) dX9_reckon_72 ?_
            refine lv_topi (fun v118 ev118 => ?_)
            rw [nI_clamp (by omega)] at ev118
            refine lv_goto (tgt := 82) hx hb dX9_reckon_73 (by decide) ?_
            exact K _ ((by have hc := c116; rw [ev114, ev115] at hc; rw [ev118]; exact (if_pos (Int32.not_le.mp hc)).symm))

set_option maxHeartbeats 8000000 in
set_option maxRecDepth 100000 in
theorem n_reckon_4 (l : Launch) (G : va_G) (cy : Nat → ClassId) (L : List Nat) (F : Nat → va_E) (sz : Nat) (o : Nat) (qm : Nat → Nat) (Mm : SM) (Dd : SD) (Sl : SL) (Pp : SP) (Kr : SR) (Bk : SB) (Xx : SX) (hR : RepM cy L o qm Mm Dd Sl Pp Kr Bk Xx F) (hV : Val Mm Dd Sl Pp Kr Bk) (x y into : Int32)  : Met l yX9_reckon wsX9_reckon ({ frames := 3, cells := 0, slots := 0, locals := 73 }) (va_Pc [.ref o, .int 4, .int x, .int y, .int into] (fun U => bQ G cy L F sz U U.heap)) (va_Qi (fun (r : Int32) (F' : Nat → va_E) => r = (sp_reckon Mm Xx 4 x y into).1 ∧ RepM cy L o qm (sp_reckon Mm Xx 4 x y into).2.1 Dd Sl Pp Kr Bk (sp_reckon Mm Xx 4 x y into).2.2 F') (fun F' t => va_P G vwCl (va_pl L F') t.heap) (va_A (va_pl L F) sz)) 0 0 (va_A (va_pl L F) sz) := by
  refine Met.ofW (cc := cX9_reckon) (maxL := 10) (ret := (some .int)) (by decide) rfl ?_
  intro p e s m args below meth c s₁ B hml hv
  obtain ⟨rfl, hsz, hP, hK, hD0⟩ := hv
  have hx := B.exec
  have hb := B.bytes
  have hr := B.returns
  have hts := atoms_spec (ws := wsX9_reckon) B.pre
  have hown : s.vm.findClass RX9 = some m.cls := findClass_of_methodNamed B.named
  have hlocks := B.notSynchronized
  have hinX9 : ∀ w ∈ wsX90, w ∈ wsX9_reckon := by decide +kernel
  subst hsz
  have hD := hD0.self F s.heap.size
  generalize hAe : va_A (va_pl L F) s.heap.size = A at hD ⊢
  have hA : ∀ q : Nat, s.heap.size ≤ q → A q := fun q h => by rw [← hAe]; exact Or.inr h
  have hS : va_S A s.heap s.heap [] := va_S.rf
  obtain ⟨⟨th, oc, hmo, hFo⟩, ⟨hm0, hF0⟩, ⟨hm1, hF1⟩, ⟨hm2, hF2⟩, ⟨hm3, hF3⟩, ⟨hm4, hF4⟩, ⟨hm5, hF5⟩, ⟨hm6, hF6⟩, ⟨hm7, hF7⟩, ⟨hm8, hF8⟩, ⟨hm9, hF9⟩, ⟨hm10, hF10⟩, ⟨hm11, hF11⟩, ⟨hm12, hF12⟩, ⟨hm13, hF13⟩, ⟨hm14, hF14⟩, ⟨hm15, hF15⟩, hne⟩ := id hR
  obtain ⟨hVM, hVD, hVS, hVP, hVK, hVB⟩ := hV
  have hl := lv_entry ([.ref o, .int 4, .int x, .int y, .int into]) (n := 10) (Nat.le_of_ble_eq_true rfl)
  rw [lg_entry_eq]
  generalize (lg_sl ([.ref o, .int 4, .int x, .int y, .int into]) ++ List.replicate (10 - (lg_sl ([.ref o, .int 4, .int x, .int y, .int into])).length) Slot.unset).toArray = ls at hl ⊢
  have hl : lv_has ls 10 [(0, .ref o), (1, .int 4), (2, .int x), (3, .int y), (4, .int into)] := hl
  rcases ixc 10 x with hi_x | ⟨j_x, hj_x, hi_x, ei_x⟩
  · rcases ixc 10 y with hi_y | ⟨j_y, hj_y, hi_y, ei_y⟩
    · rcases ixc 10 into with hi_into | ⟨j_into, hj_into, hi_into, ei_into⟩
      · refine lv_aload_n hx hb dX9_reckon_0 rfl (lv_at hl 0 rfl) ?_
        refine lv_iconst (v := 0) hx hb dX9_reckon_1 (by decide) ?_
        refine pg_put (ci := 8) (v := .int 0) (ty := .int) (C := RX9) (T := TX9) (N := 20) hx hb hts hinX9 tyX9 tyX9_ok nmX9 hown hK hP hD hS hmo hFo rfl 0 (by decide) (hts (.fieldLink RX9 61 "RopeDrumsModel" "thrown" "I") (by decide +kernel)) (fun _ h9 => h9) rfl (by decide +kernel) (rfl) (rfl) (Nat.le_of_ble_eq_true rfl) dX9_reckon_2 (fun H locs F1 eF1 hP hS => ?_)
        have eF1 : F1 = va_up F o (.inr (8, [.int 0, .ref (qm 0), .ref (qm 1), .ref (qm 2), .ref (qm 3), .ref (qm 4), .ref (qm 5), .ref (qm 6), .ref (qm 7), .int Pp.1, .ref (qm 8), .ref (qm 9), .ref (qm 10), .ref (qm 11), .ref (qm 12), .ref (qm 13), .ref (qm 14), .int Xx.1, .ref (qm 15), .long oc])) := eF1
        have hFo_1 : F1 o = .inr (8, [.int 0, .ref (qm 0), .ref (qm 1), .ref (qm 2), .ref (qm 3), .ref (qm 4), .ref (qm 5), .ref (qm 6), .ref (qm 7), .int Pp.1, .ref (qm 8), .ref (qm 9), .ref (qm 10), .ref (qm 11), .ref (qm 12), .ref (qm 13), .ref (qm 14), .int Xx.1, .ref (qm 15), .long oc]) := by rw [eF1]; exact va_up_self _ _ _
        have hFqm0_1 : F1 (qm 0) = cI (cy 1) 10 Mm.1 := by rw [eF1, va_up_ne _ _ (pl_ne hF0 hFo rfl)]; exact hF0
        have hFqm1_1 : F1 (qm 1) = cJ (cy 2) 10 Mm.2 := by rw [eF1, va_up_ne _ _ (pl_ne hF1 hFo rfl)]; exact hF1
        have hFqm2_1 : F1 (qm 2) = cD (cy 0) 6 Dd.1 := by rw [eF1, va_up_ne _ _ (pl_ne hF2 hFo rfl)]; exact hF2
        have hFqm3_1 : F1 (qm 3) = cD (cy 0) 6 Dd.2.1 := by rw [eF1, va_up_ne _ _ (pl_ne hF3 hFo rfl)]; exact hF3
        have hFqm4_1 : F1 (qm 4) = cD (cy 0) 6 Dd.2.2.1 := by rw [eF1, va_up_ne _ _ (pl_ne hF4 hFo rfl)]; exact hF4
        have hFqm5_1 : F1 (qm 5) = cJ (cy 2) 6 Dd.2.2.2 := by rw [eF1, va_up_ne _ _ (pl_ne hF5 hFo rfl)]; exact hF5
        have hFqm6_1 : F1 (qm 6) = cI (cy 1) 8 Sl.1 := by rw [eF1, va_up_ne _ _ (pl_ne hF6 hFo rfl)]; exact hF6
        have hFqm7_1 : F1 (qm 7) = cJ (cy 2) 128 Sl.2 := by rw [eF1, va_up_ne _ _ (pl_ne hF7 hFo rfl)]; exact hF7
        have hFqm8_1 : F1 (qm 8) = cI (cy 1) 30 Pp.2.1 := by rw [eF1, va_up_ne _ _ (pl_ne hF8 hFo rfl)]; exact hF8
        have hFqm9_1 : F1 (qm 9) = cI (cy 3) 30 Pp.2.2 := by rw [eF1, va_up_ne _ _ (pl_ne hF9 hFo rfl)]; exact hF9
        have hFqm10_1 : F1 (qm 10) = cI (cy 1) 5 Kr.1 := by rw [eF1, va_up_ne _ _ (pl_ne hF10 hFo rfl)]; exact hF10
        have hFqm11_1 : F1 (qm 11) = cI (cy 3) 5 Kr.2.1 := by rw [eF1, va_up_ne _ _ (pl_ne hF11 hFo rfl)]; exact hF11
        have hFqm12_1 : F1 (qm 12) = cI (cy 1) 60 Kr.2.2 := by rw [eF1, va_up_ne _ _ (pl_ne hF12 hFo rfl)]; exact hF12
        have hFqm13_1 : F1 (qm 13) = cI (cy 1) 4 Bk.1 := by rw [eF1, va_up_ne _ _ (pl_ne hF13 hFo rfl)]; exact hF13
        have hFqm14_1 : F1 (qm 14) = cD (cy 0) 4 Bk.2 := by rw [eF1, va_up_ne _ _ (pl_ne hF14 hFo rfl)]; exact hF14
        have hFqm15_1 : F1 (qm 15) = cI (cy 1) 6 Xx.2 := by rw [eF1, va_up_ne _ _ (pl_ne hF15 hFo rfl)]; exact hF15
        refine lv_iload_n hx hb dX9_reckon_5 rfl (lv_at hl 2 rfl) ?_
        refine vp_callSi (W.runS (As := [.int x]) (rest := []) ⟨hx, hb, hml, hown, hts⟩ (c9_isMeter l x) (va_cwS 1 hts gX9_reckon_X9_isMeter rfl rfl rfl (by decide +kernel) ⟨Nat.le_of_ble_eq_true rfl, Nat.le_of_ble_eq_true rfl⟩) (preS_of okT (trivial)) rfl rfl hl.1 rfl (lv_room (Nat.le_of_ble_eq_true rfl)) dX9_reckon_6 ⟨Nat.le_of_ble_eq_true rfl, Nat.le_of_ble_eq_true rfl⟩) (fun r2 hr2 => ?_)
        rw [isx0 hi_x] at hr2
        subst hr2
        refine lv_if_eq (tgt := 27) hx hb dX9_reckon_9 (by decide) (fun c3 => ?_) (fun c3 => absurd (by decide) c3)
        refine lv_sipush (v := -1001) hx hb dX9_reckon_27 (by decide) ?_
        exact W.iret (v := -1001) hx hb hr (fun t ht hW => ⟨⟨-1001, F1, rfl, (by have hsp : sp_reckon Mm Xx 4 x y into = (-1001, Mm, Xx) := (by unfold sp_reckon; rw [hi_x]); rw [hsp]; exact ⟨rfl, (by exact ⟨⟨_, _, hmo, hFo_1⟩, ⟨hm0, hFqm0_1⟩, ⟨hm1, hFqm1_1⟩, ⟨hm2, hFqm2_1⟩, ⟨hm3, hFqm3_1⟩, ⟨hm4, hFqm4_1⟩, ⟨hm5, hFqm5_1⟩, ⟨hm6, hFqm6_1⟩, ⟨hm7, hFqm7_1⟩, ⟨hm8, hFqm8_1⟩, ⟨hm9, hFqm9_1⟩, ⟨hm10, hFqm10_1⟩, ⟨hm11, hFqm11_1⟩, ⟨hm12, hFqm12_1⟩, ⟨hm13, hFqm13_1⟩, ⟨hm14, hFqm14_1⟩, ⟨hm15, hFqm15_1⟩, hne⟩)⟩), (by show va_P _ _ _ t.heap; rw [ht]; exact hP)⟩, hS.F ht⟩) hS.2.2 dX9_reckon_30
      · subst ei_into
        refine lv_aload_n hx hb dX9_reckon_0 rfl (lv_at hl 0 rfl) ?_
        refine lv_iconst (v := 0) hx hb dX9_reckon_1 (by decide) ?_
        refine pg_put (ci := 8) (v := .int 0) (ty := .int) (C := RX9) (T := TX9) (N := 20) hx hb hts hinX9 tyX9 tyX9_ok nmX9 hown hK hP hD hS hmo hFo rfl 0 (by decide) (hts (.fieldLink RX9 61 "RopeDrumsModel" "thrown" "I") (by decide +kernel)) (fun _ h9 => h9) rfl (by decide +kernel) (rfl) (rfl) (Nat.le_of_ble_eq_true rfl) dX9_reckon_2 (fun H locs F4 eF4 hP hS => ?_)
        have eF4 : F4 = va_up F o (.inr (8, [.int 0, .ref (qm 0), .ref (qm 1), .ref (qm 2), .ref (qm 3), .ref (qm 4), .ref (qm 5), .ref (qm 6), .ref (qm 7), .int Pp.1, .ref (qm 8), .ref (qm 9), .ref (qm 10), .ref (qm 11), .ref (qm 12), .ref (qm 13), .ref (qm 14), .int Xx.1, .ref (qm 15), .long oc])) := eF4
        have hFo_4 : F4 o = .inr (8, [.int 0, .ref (qm 0), .ref (qm 1), .ref (qm 2), .ref (qm 3), .ref (qm 4), .ref (qm 5), .ref (qm 6), .ref (qm 7), .int Pp.1, .ref (qm 8), .ref (qm 9), .ref (qm 10), .ref (qm 11), .ref (qm 12), .ref (qm 13), .ref (qm 14), .int Xx.1, .ref (qm 15), .long oc]) := by rw [eF4]; exact va_up_self _ _ _
        have hFqm0_4 : F4 (qm 0) = cI (cy 1) 10 Mm.1 := by rw [eF4, va_up_ne _ _ (pl_ne hF0 hFo rfl)]; exact hF0
        have hFqm1_4 : F4 (qm 1) = cJ (cy 2) 10 Mm.2 := by rw [eF4, va_up_ne _ _ (pl_ne hF1 hFo rfl)]; exact hF1
        have hFqm2_4 : F4 (qm 2) = cD (cy 0) 6 Dd.1 := by rw [eF4, va_up_ne _ _ (pl_ne hF2 hFo rfl)]; exact hF2
        have hFqm3_4 : F4 (qm 3) = cD (cy 0) 6 Dd.2.1 := by rw [eF4, va_up_ne _ _ (pl_ne hF3 hFo rfl)]; exact hF3
        have hFqm4_4 : F4 (qm 4) = cD (cy 0) 6 Dd.2.2.1 := by rw [eF4, va_up_ne _ _ (pl_ne hF4 hFo rfl)]; exact hF4
        have hFqm5_4 : F4 (qm 5) = cJ (cy 2) 6 Dd.2.2.2 := by rw [eF4, va_up_ne _ _ (pl_ne hF5 hFo rfl)]; exact hF5
        have hFqm6_4 : F4 (qm 6) = cI (cy 1) 8 Sl.1 := by rw [eF4, va_up_ne _ _ (pl_ne hF6 hFo rfl)]; exact hF6
        have hFqm7_4 : F4 (qm 7) = cJ (cy 2) 128 Sl.2 := by rw [eF4, va_up_ne _ _ (pl_ne hF7 hFo rfl)]; exact hF7
        have hFqm8_4 : F4 (qm 8) = cI (cy 1) 30 Pp.2.1 := by rw [eF4, va_up_ne _ _ (pl_ne hF8 hFo rfl)]; exact hF8
        have hFqm9_4 : F4 (qm 9) = cI (cy 3) 30 Pp.2.2 := by rw [eF4, va_up_ne _ _ (pl_ne hF9 hFo rfl)]; exact hF9
        have hFqm10_4 : F4 (qm 10) = cI (cy 1) 5 Kr.1 := by rw [eF4, va_up_ne _ _ (pl_ne hF10 hFo rfl)]; exact hF10
        have hFqm11_4 : F4 (qm 11) = cI (cy 3) 5 Kr.2.1 := by rw [eF4, va_up_ne _ _ (pl_ne hF11 hFo rfl)]; exact hF11
        have hFqm12_4 : F4 (qm 12) = cI (cy 1) 60 Kr.2.2 := by rw [eF4, va_up_ne _ _ (pl_ne hF12 hFo rfl)]; exact hF12
        have hFqm13_4 : F4 (qm 13) = cI (cy 1) 4 Bk.1 := by rw [eF4, va_up_ne _ _ (pl_ne hF13 hFo rfl)]; exact hF13
        have hFqm14_4 : F4 (qm 14) = cD (cy 0) 4 Bk.2 := by rw [eF4, va_up_ne _ _ (pl_ne hF14 hFo rfl)]; exact hF14
        have hFqm15_4 : F4 (qm 15) = cI (cy 1) 6 Xx.2 := by rw [eF4, va_up_ne _ _ (pl_ne hF15 hFo rfl)]; exact hF15
        refine lv_iload_n hx hb dX9_reckon_5 rfl (lv_at hl 2 rfl) ?_
        refine vp_callSi (W.runS (As := [.int x]) (rest := []) ⟨hx, hb, hml, hown, hts⟩ (c9_isMeter l x) (va_cwS 1 hts gX9_reckon_X9_isMeter rfl rfl rfl (by decide +kernel) ⟨Nat.le_of_ble_eq_true rfl, Nat.le_of_ble_eq_true rfl⟩) (preS_of okT (trivial)) rfl rfl hl.1 rfl (lv_room (Nat.le_of_ble_eq_true rfl)) dX9_reckon_6 ⟨Nat.le_of_ble_eq_true rfl, Nat.le_of_ble_eq_true rfl⟩) (fun r5 hr5 => ?_)
        rw [isx0 hi_x] at hr5
        subst hr5
        refine lv_if_eq (tgt := 27) hx hb dX9_reckon_9 (by decide) (fun c6 => ?_) (fun c6 => absurd (by decide) c6)
        refine lv_sipush (v := -1001) hx hb dX9_reckon_27 (by decide) ?_
        exact W.iret (v := -1001) hx hb hr (fun t ht hW => ⟨⟨-1001, F4, rfl, (by have hsp : sp_reckon Mm Xx 4 x y (nI j_into) = (-1001, Mm, Xx) := (by unfold sp_reckon; rw [hi_x]); rw [hsp]; exact ⟨rfl, (by exact ⟨⟨_, _, hmo, hFo_4⟩, ⟨hm0, hFqm0_4⟩, ⟨hm1, hFqm1_4⟩, ⟨hm2, hFqm2_4⟩, ⟨hm3, hFqm3_4⟩, ⟨hm4, hFqm4_4⟩, ⟨hm5, hFqm5_4⟩, ⟨hm6, hFqm6_4⟩, ⟨hm7, hFqm7_4⟩, ⟨hm8, hFqm8_4⟩, ⟨hm9, hFqm9_4⟩, ⟨hm10, hFqm10_4⟩, ⟨hm11, hFqm11_4⟩, ⟨hm12, hFqm12_4⟩, ⟨hm13, hFqm13_4⟩, ⟨hm14, hFqm14_4⟩, ⟨hm15, hFqm15_4⟩, hne⟩)⟩), (by show va_P _ _ _ t.heap; rw [ht]; exact hP)⟩, hS.F ht⟩) hS.2.2 dX9_reckon_30
    · subst ei_y
      rcases ixc 10 into with hi_into | ⟨j_into, hj_into, hi_into, ei_into⟩
      · refine lv_aload_n hx hb dX9_reckon_0 rfl (lv_at hl 0 rfl) ?_
        refine lv_iconst (v := 0) hx hb dX9_reckon_1 (by decide) ?_
        refine pg_put (ci := 8) (v := .int 0) (ty := .int) (C := RX9) (T := TX9) (N := 20) hx hb hts hinX9 tyX9 tyX9_ok nmX9 hown hK hP hD hS hmo hFo rfl 0 (by decide) (hts (.fieldLink RX9 61 "RopeDrumsModel" "thrown" "I") (by decide +kernel)) (fun _ h9 => h9) rfl (by decide +kernel) (rfl) (rfl) (Nat.le_of_ble_eq_true rfl) dX9_reckon_2 (fun H locs F7 eF7 hP hS => ?_)
        have eF7 : F7 = va_up F o (.inr (8, [.int 0, .ref (qm 0), .ref (qm 1), .ref (qm 2), .ref (qm 3), .ref (qm 4), .ref (qm 5), .ref (qm 6), .ref (qm 7), .int Pp.1, .ref (qm 8), .ref (qm 9), .ref (qm 10), .ref (qm 11), .ref (qm 12), .ref (qm 13), .ref (qm 14), .int Xx.1, .ref (qm 15), .long oc])) := eF7
        have hFo_7 : F7 o = .inr (8, [.int 0, .ref (qm 0), .ref (qm 1), .ref (qm 2), .ref (qm 3), .ref (qm 4), .ref (qm 5), .ref (qm 6), .ref (qm 7), .int Pp.1, .ref (qm 8), .ref (qm 9), .ref (qm 10), .ref (qm 11), .ref (qm 12), .ref (qm 13), .ref (qm 14), .int Xx.1, .ref (qm 15), .long oc]) := by rw [eF7]; exact va_up_self _ _ _
        have hFqm0_7 : F7 (qm 0) = cI (cy 1) 10 Mm.1 := by rw [eF7, va_up_ne _ _ (pl_ne hF0 hFo rfl)]; exact hF0
        have hFqm1_7 : F7 (qm 1) = cJ (cy 2) 10 Mm.2 := by rw [eF7, va_up_ne _ _ (pl_ne hF1 hFo rfl)]; exact hF1
        have hFqm2_7 : F7 (qm 2) = cD (cy 0) 6 Dd.1 := by rw [eF7, va_up_ne _ _ (pl_ne hF2 hFo rfl)]; exact hF2
        have hFqm3_7 : F7 (qm 3) = cD (cy 0) 6 Dd.2.1 := by rw [eF7, va_up_ne _ _ (pl_ne hF3 hFo rfl)]; exact hF3
        have hFqm4_7 : F7 (qm 4) = cD (cy 0) 6 Dd.2.2.1 := by rw [eF7, va_up_ne _ _ (pl_ne hF4 hFo rfl)]; exact hF4
        have hFqm5_7 : F7 (qm 5) = cJ (cy 2) 6 Dd.2.2.2 := by rw [eF7, va_up_ne _ _ (pl_ne hF5 hFo rfl)]; exact hF5
        have hFqm6_7 : F7 (qm 6) = cI (cy 1) 8 Sl.1 := by rw [eF7, va_up_ne _ _ (pl_ne hF6 hFo rfl)]; exact hF6
        have hFqm7_7 : F7 (qm 7) = cJ (cy 2) 128 Sl.2 := by rw [eF7, va_up_ne _ _ (pl_ne hF7 hFo rfl)]; exact hF7
        have hFqm8_7 : F7 (qm 8) = cI (cy 1) 30 Pp.2.1 := by rw [eF7, va_up_ne _ _ (pl_ne hF8 hFo rfl)]; exact hF8
        have hFqm9_7 : F7 (qm 9) = cI (cy 3) 30 Pp.2.2 := by rw [eF7, va_up_ne _ _ (pl_ne hF9 hFo rfl)]; exact hF9
        have hFqm10_7 : F7 (qm 10) = cI (cy 1) 5 Kr.1 := by rw [eF7, va_up_ne _ _ (pl_ne hF10 hFo rfl)]; exact hF10
        have hFqm11_7 : F7 (qm 11) = cI (cy 3) 5 Kr.2.1 := by rw [eF7, va_up_ne _ _ (pl_ne hF11 hFo rfl)]; exact hF11
        have hFqm12_7 : F7 (qm 12) = cI (cy 1) 60 Kr.2.2 := by rw [eF7, va_up_ne _ _ (pl_ne hF12 hFo rfl)]; exact hF12
        have hFqm13_7 : F7 (qm 13) = cI (cy 1) 4 Bk.1 := by rw [eF7, va_up_ne _ _ (pl_ne hF13 hFo rfl)]; exact hF13
        have hFqm14_7 : F7 (qm 14) = cD (cy 0) 4 Bk.2 := by rw [eF7, va_up_ne _ _ (pl_ne hF14 hFo rfl)]; exact hF14
        have hFqm15_7 : F7 (qm 15) = cI (cy 1) 6 Xx.2 := by rw [eF7, va_up_ne _ _ (pl_ne hF15 hFo rfl)]; exact hF15
        refine lv_iload_n hx hb dX9_reckon_5 rfl (lv_at hl 2 rfl) ?_
        refine vp_callSi (W.runS (As := [.int x]) (rest := []) ⟨hx, hb, hml, hown, hts⟩ (c9_isMeter l x) (va_cwS 1 hts gX9_reckon_X9_isMeter rfl rfl rfl (by decide +kernel) ⟨Nat.le_of_ble_eq_true rfl, Nat.le_of_ble_eq_true rfl⟩) (preS_of okT (trivial)) rfl rfl hl.1 rfl (lv_room (Nat.le_of_ble_eq_true rfl)) dX9_reckon_6 ⟨Nat.le_of_ble_eq_true rfl, Nat.le_of_ble_eq_true rfl⟩) (fun r8 hr8 => ?_)
        rw [isx0 hi_x] at hr8
        subst hr8
        refine lv_if_eq (tgt := 27) hx hb dX9_reckon_9 (by decide) (fun c9 => ?_) (fun c9 => absurd (by decide) c9)
        refine lv_sipush (v := -1001) hx hb dX9_reckon_27 (by decide) ?_
        exact W.iret (v := -1001) hx hb hr (fun t ht hW => ⟨⟨-1001, F7, rfl, (by have hsp : sp_reckon Mm Xx 4 x (nI j_y) into = (-1001, Mm, Xx) := (by unfold sp_reckon; rw [hi_x]); rw [hsp]; exact ⟨rfl, (by exact ⟨⟨_, _, hmo, hFo_7⟩, ⟨hm0, hFqm0_7⟩, ⟨hm1, hFqm1_7⟩, ⟨hm2, hFqm2_7⟩, ⟨hm3, hFqm3_7⟩, ⟨hm4, hFqm4_7⟩, ⟨hm5, hFqm5_7⟩, ⟨hm6, hFqm6_7⟩, ⟨hm7, hFqm7_7⟩, ⟨hm8, hFqm8_7⟩, ⟨hm9, hFqm9_7⟩, ⟨hm10, hFqm10_7⟩, ⟨hm11, hFqm11_7⟩, ⟨hm12, hFqm12_7⟩, ⟨hm13, hFqm13_7⟩, ⟨hm14, hFqm14_7⟩, ⟨hm15, hFqm15_7⟩, hne⟩)⟩), (by show va_P _ _ _ t.heap; rw [ht]; exact hP)⟩, hS.F ht⟩) hS.2.2 dX9_reckon_30
      · subst ei_into
        refine lv_aload_n hx hb dX9_reckon_0 rfl (lv_at hl 0 rfl) ?_
        refine lv_iconst (v := 0) hx hb dX9_reckon_1 (by decide) ?_
        refine pg_put (ci := 8) (v := .int 0) (ty := .int) (C := RX9) (T := TX9) (N := 20) hx hb hts hinX9 tyX9 tyX9_ok nmX9 hown hK hP hD hS hmo hFo rfl 0 (by decide) (hts (.fieldLink RX9 61 "RopeDrumsModel" "thrown" "I") (by decide +kernel)) (fun _ h9 => h9) rfl (by decide +kernel) (rfl) (rfl) (Nat.le_of_ble_eq_true rfl) dX9_reckon_2 (fun H locs F10 eF10 hP hS => ?_)
        have eF10 : F10 = va_up F o (.inr (8, [.int 0, .ref (qm 0), .ref (qm 1), .ref (qm 2), .ref (qm 3), .ref (qm 4), .ref (qm 5), .ref (qm 6), .ref (qm 7), .int Pp.1, .ref (qm 8), .ref (qm 9), .ref (qm 10), .ref (qm 11), .ref (qm 12), .ref (qm 13), .ref (qm 14), .int Xx.1, .ref (qm 15), .long oc])) := eF10
        have hFo_10 : F10 o = .inr (8, [.int 0, .ref (qm 0), .ref (qm 1), .ref (qm 2), .ref (qm 3), .ref (qm 4), .ref (qm 5), .ref (qm 6), .ref (qm 7), .int Pp.1, .ref (qm 8), .ref (qm 9), .ref (qm 10), .ref (qm 11), .ref (qm 12), .ref (qm 13), .ref (qm 14), .int Xx.1, .ref (qm 15), .long oc]) := by rw [eF10]; exact va_up_self _ _ _
        have hFqm0_10 : F10 (qm 0) = cI (cy 1) 10 Mm.1 := by rw [eF10, va_up_ne _ _ (pl_ne hF0 hFo rfl)]; exact hF0
        have hFqm1_10 : F10 (qm 1) = cJ (cy 2) 10 Mm.2 := by rw [eF10, va_up_ne _ _ (pl_ne hF1 hFo rfl)]; exact hF1
        have hFqm2_10 : F10 (qm 2) = cD (cy 0) 6 Dd.1 := by rw [eF10, va_up_ne _ _ (pl_ne hF2 hFo rfl)]; exact hF2
        have hFqm3_10 : F10 (qm 3) = cD (cy 0) 6 Dd.2.1 := by rw [eF10, va_up_ne _ _ (pl_ne hF3 hFo rfl)]; exact hF3
        have hFqm4_10 : F10 (qm 4) = cD (cy 0) 6 Dd.2.2.1 := by rw [eF10, va_up_ne _ _ (pl_ne hF4 hFo rfl)]; exact hF4
        have hFqm5_10 : F10 (qm 5) = cJ (cy 2) 6 Dd.2.2.2 := by rw [eF10, va_up_ne _ _ (pl_ne hF5 hFo rfl)]; exact hF5
        have hFqm6_10 : F10 (qm 6) = cI (cy 1) 8 Sl.1 := by rw [eF10, va_up_ne _ _ (pl_ne hF6 hFo rfl)]; exact hF6
        have hFqm7_10 : F10 (qm 7) = cJ (cy 2) 128 Sl.2 := by rw [eF10, va_up_ne _ _ (pl_ne hF7 hFo rfl)]; exact hF7
        have hFqm8_10 : F10 (qm 8) = cI (cy 1) 30 Pp.2.1 := by rw [eF10, va_up_ne _ _ (pl_ne hF8 hFo rfl)]; exact hF8
        have hFqm9_10 : F10 (qm 9) = cI (cy 3) 30 Pp.2.2 := by rw [eF10, va_up_ne _ _ (pl_ne hF9 hFo rfl)]; exact hF9
        have hFqm10_10 : F10 (qm 10) = cI (cy 1) 5 Kr.1 := by rw [eF10, va_up_ne _ _ (pl_ne hF10 hFo rfl)]; exact hF10
        have hFqm11_10 : F10 (qm 11) = cI (cy 3) 5 Kr.2.1 := by rw [eF10, va_up_ne _ _ (pl_ne hF11 hFo rfl)]; exact hF11
        have hFqm12_10 : F10 (qm 12) = cI (cy 1) 60 Kr.2.2 := by rw [eF10, va_up_ne _ _ (pl_ne hF12 hFo rfl)]; exact hF12
        have hFqm13_10 : F10 (qm 13) = cI (cy 1) 4 Bk.1 := by rw [eF10, va_up_ne _ _ (pl_ne hF13 hFo rfl)]; exact hF13
        have hFqm14_10 : F10 (qm 14) = cD (cy 0) 4 Bk.2 := by rw [eF10, va_up_ne _ _ (pl_ne hF14 hFo rfl)]; exact hF14
        have hFqm15_10 : F10 (qm 15) = cI (cy 1) 6 Xx.2 := by rw [eF10, va_up_ne _ _ (pl_ne hF15 hFo rfl)]; exact hF15
        refine lv_iload_n hx hb dX9_reckon_5 rfl (lv_at hl 2 rfl) ?_
        refine vp_callSi (W.runS (As := [.int x]) (rest := []) ⟨hx, hb, hml, hown, hts⟩ (c9_isMeter l x) (va_cwS 1 hts gX9_reckon_X9_isMeter rfl rfl rfl (by decide +kernel) ⟨Nat.le_of_ble_eq_true rfl, Nat.le_of_ble_eq_true rfl⟩) (preS_of okT (trivial)) rfl rfl hl.1 rfl (lv_room (Nat.le_of_ble_eq_true rfl)) dX9_reckon_6 ⟨Nat.le_of_ble_eq_true rfl, Nat.le_of_ble_eq_true rfl⟩) (fun r11 hr11 => ?_)
        rw [isx0 hi_x] at hr11
        subst hr11
        refine lv_if_eq (tgt := 27) hx hb dX9_reckon_9 (by decide) (fun c12 => ?_) (fun c12 => absurd (by decide) c12)
        refine lv_sipush (v := -1001) hx hb dX9_reckon_27 (by decide) ?_
        exact W.iret (v := -1001) hx hb hr (fun t ht hW => ⟨⟨-1001, F10, rfl, (by have hsp : sp_reckon Mm Xx 4 x (nI j_y) (nI j_into) = (-1001, Mm, Xx) := (by unfold sp_reckon; rw [hi_x]); rw [hsp]; exact ⟨rfl, (by exact ⟨⟨_, _, hmo, hFo_10⟩, ⟨hm0, hFqm0_10⟩, ⟨hm1, hFqm1_10⟩, ⟨hm2, hFqm2_10⟩, ⟨hm3, hFqm3_10⟩, ⟨hm4, hFqm4_10⟩, ⟨hm5, hFqm5_10⟩, ⟨hm6, hFqm6_10⟩, ⟨hm7, hFqm7_10⟩, ⟨hm8, hFqm8_10⟩, ⟨hm9, hFqm9_10⟩, ⟨hm10, hFqm10_10⟩, ⟨hm11, hFqm11_10⟩, ⟨hm12, hFqm12_10⟩, ⟨hm13, hFqm13_10⟩, ⟨hm14, hFqm14_10⟩, ⟨hm15, hFqm15_10⟩, hne⟩)⟩), (by show va_P _ _ _ t.heap; rw [ht]; exact hP)⟩, hS.F ht⟩) hS.2.2 dX9_reckon_30
  · subst ei_x
    rcases ixc 10 y with hi_y | ⟨j_y, hj_y, hi_y, ei_y⟩
    · rcases ixc 10 into with hi_into | ⟨j_into, hj_into, hi_into, ei_into⟩
      · refine lv_aload_n hx hb dX9_reckon_0 rfl (lv_at hl 0 rfl) ?_
        refine lv_iconst (v := 0) hx hb dX9_reckon_1 (by decide) ?_
        refine pg_put (ci := 8) (v := .int 0) (ty := .int) (C := RX9) (T := TX9) (N := 20) hx hb hts hinX9 tyX9 tyX9_ok nmX9 hown hK hP hD hS hmo hFo rfl 0 (by decide) (hts (.fieldLink RX9 61 "RopeDrumsModel" "thrown" "I") (by decide +kernel)) (fun _ h9 => h9) rfl (by decide +kernel) (rfl) (rfl) (Nat.le_of_ble_eq_true rfl) dX9_reckon_2 (fun H locs F13 eF13 hP hS => ?_)
        have eF13 : F13 = va_up F o (.inr (8, [.int 0, .ref (qm 0), .ref (qm 1), .ref (qm 2), .ref (qm 3), .ref (qm 4), .ref (qm 5), .ref (qm 6), .ref (qm 7), .int Pp.1, .ref (qm 8), .ref (qm 9), .ref (qm 10), .ref (qm 11), .ref (qm 12), .ref (qm 13), .ref (qm 14), .int Xx.1, .ref (qm 15), .long oc])) := eF13
        have hFo_13 : F13 o = .inr (8, [.int 0, .ref (qm 0), .ref (qm 1), .ref (qm 2), .ref (qm 3), .ref (qm 4), .ref (qm 5), .ref (qm 6), .ref (qm 7), .int Pp.1, .ref (qm 8), .ref (qm 9), .ref (qm 10), .ref (qm 11), .ref (qm 12), .ref (qm 13), .ref (qm 14), .int Xx.1, .ref (qm 15), .long oc]) := by rw [eF13]; exact va_up_self _ _ _
        have hFqm0_13 : F13 (qm 0) = cI (cy 1) 10 Mm.1 := by rw [eF13, va_up_ne _ _ (pl_ne hF0 hFo rfl)]; exact hF0
        have hFqm1_13 : F13 (qm 1) = cJ (cy 2) 10 Mm.2 := by rw [eF13, va_up_ne _ _ (pl_ne hF1 hFo rfl)]; exact hF1
        have hFqm2_13 : F13 (qm 2) = cD (cy 0) 6 Dd.1 := by rw [eF13, va_up_ne _ _ (pl_ne hF2 hFo rfl)]; exact hF2
        have hFqm3_13 : F13 (qm 3) = cD (cy 0) 6 Dd.2.1 := by rw [eF13, va_up_ne _ _ (pl_ne hF3 hFo rfl)]; exact hF3
        have hFqm4_13 : F13 (qm 4) = cD (cy 0) 6 Dd.2.2.1 := by rw [eF13, va_up_ne _ _ (pl_ne hF4 hFo rfl)]; exact hF4
        have hFqm5_13 : F13 (qm 5) = cJ (cy 2) 6 Dd.2.2.2 := by rw [eF13, va_up_ne _ _ (pl_ne hF5 hFo rfl)]; exact hF5
        have hFqm6_13 : F13 (qm 6) = cI (cy 1) 8 Sl.1 := by rw [eF13, va_up_ne _ _ (pl_ne hF6 hFo rfl)]; exact hF6
        have hFqm7_13 : F13 (qm 7) = cJ (cy 2) 128 Sl.2 := by rw [eF13, va_up_ne _ _ (pl_ne hF7 hFo rfl)]; exact hF7
        have hFqm8_13 : F13 (qm 8) = cI (cy 1) 30 Pp.2.1 := by rw [eF13, va_up_ne _ _ (pl_ne hF8 hFo rfl)]; exact hF8
        have hFqm9_13 : F13 (qm 9) = cI (cy 3) 30 Pp.2.2 := by rw [eF13, va_up_ne _ _ (pl_ne hF9 hFo rfl)]; exact hF9
        have hFqm10_13 : F13 (qm 10) = cI (cy 1) 5 Kr.1 := by rw [eF13, va_up_ne _ _ (pl_ne hF10 hFo rfl)]; exact hF10
        have hFqm11_13 : F13 (qm 11) = cI (cy 3) 5 Kr.2.1 := by rw [eF13, va_up_ne _ _ (pl_ne hF11 hFo rfl)]; exact hF11
        have hFqm12_13 : F13 (qm 12) = cI (cy 1) 60 Kr.2.2 := by rw [eF13, va_up_ne _ _ (pl_ne hF12 hFo rfl)]; exact hF12
        have hFqm13_13 : F13 (qm 13) = cI (cy 1) 4 Bk.1 := by rw [eF13, va_up_ne _ _ (pl_ne hF13 hFo rfl)]; exact hF13
        have hFqm14_13 : F13 (qm 14) = cD (cy 0) 4 Bk.2 := by rw [eF13, va_up_ne _ _ (pl_ne hF14 hFo rfl)]; exact hF14
        have hFqm15_13 : F13 (qm 15) = cI (cy 1) 6 Xx.2 := by rw [eF13, va_up_ne _ _ (pl_ne hF15 hFo rfl)]; exact hF15
        refine lv_iload_n hx hb dX9_reckon_5 rfl (lv_at hl 2 rfl) ?_
        refine vp_callSi (W.runS (As := [.int (nI j_x)]) (rest := []) ⟨hx, hb, hml, hown, hts⟩ (c9_isMeter l (nI j_x)) (va_cwS 1 hts gX9_reckon_X9_isMeter rfl rfl rfl (by decide +kernel) ⟨Nat.le_of_ble_eq_true rfl, Nat.le_of_ble_eq_true rfl⟩) (preS_of okT (trivial)) rfl rfl hl.1 rfl (lv_room (Nat.le_of_ble_eq_true rfl)) dX9_reckon_6 ⟨Nat.le_of_ble_eq_true rfl, Nat.le_of_ble_eq_true rfl⟩) (fun r14 hr14 => ?_)
        rw [isx1 hi_x] at hr14
        subst hr14
        refine lv_if_eq (tgt := 27) hx hb dX9_reckon_9 (by decide) (fun c15 => absurd c15 (by decide)) (fun c15 => ?_)
        refine lv_iload_n hx hb dX9_reckon_12 rfl (lv_at hl 3 rfl) ?_
        refine vp_callSi (W.runS (As := [.int y]) (rest := []) ⟨hx, hb, hml, hown, hts⟩ (c9_isMeter l y) (va_cwS 1 hts gX9_reckon_X9_isMeter rfl rfl rfl (by decide +kernel) ⟨Nat.le_of_ble_eq_true rfl, Nat.le_of_ble_eq_true rfl⟩) (preS_of okT (trivial)) rfl rfl hl.1 rfl (lv_room (Nat.le_of_ble_eq_true rfl)) dX9_reckon_13 ⟨Nat.le_of_ble_eq_true rfl, Nat.le_of_ble_eq_true rfl⟩) (fun r16 hr16 => ?_)
        rw [isx0 hi_y] at hr16
        subst hr16
        refine lv_if_eq (tgt := 27) hx hb dX9_reckon_16 (by decide) (fun c17 => ?_) (fun c17 => absurd (by decide) c17)
        refine lv_sipush (v := -1001) hx hb dX9_reckon_27 (by decide) ?_
        exact W.iret (v := -1001) hx hb hr (fun t ht hW => ⟨⟨-1001, F13, rfl, (by have hsp : sp_reckon Mm Xx 4 (nI j_x) y into = (-1001, Mm, Xx) := (by unfold sp_reckon; rw [hi_x, hi_y]); rw [hsp]; exact ⟨rfl, (by exact ⟨⟨_, _, hmo, hFo_13⟩, ⟨hm0, hFqm0_13⟩, ⟨hm1, hFqm1_13⟩, ⟨hm2, hFqm2_13⟩, ⟨hm3, hFqm3_13⟩, ⟨hm4, hFqm4_13⟩, ⟨hm5, hFqm5_13⟩, ⟨hm6, hFqm6_13⟩, ⟨hm7, hFqm7_13⟩, ⟨hm8, hFqm8_13⟩, ⟨hm9, hFqm9_13⟩, ⟨hm10, hFqm10_13⟩, ⟨hm11, hFqm11_13⟩, ⟨hm12, hFqm12_13⟩, ⟨hm13, hFqm13_13⟩, ⟨hm14, hFqm14_13⟩, ⟨hm15, hFqm15_13⟩, hne⟩)⟩), (by show va_P _ _ _ t.heap; rw [ht]; exact hP)⟩, hS.F ht⟩) hS.2.2 dX9_reckon_30
      · subst ei_into
        refine lv_aload_n hx hb dX9_reckon_0 rfl (lv_at hl 0 rfl) ?_
        refine lv_iconst (v := 0) hx hb dX9_reckon_1 (by decide) ?_
        refine pg_put (ci := 8) (v := .int 0) (ty := .int) (C := RX9) (T := TX9) (N := 20) hx hb hts hinX9 tyX9 tyX9_ok nmX9 hown hK hP hD hS hmo hFo rfl 0 (by decide) (hts (.fieldLink RX9 61 "RopeDrumsModel" "thrown" "I") (by decide +kernel)) (fun _ h9 => h9) rfl (by decide +kernel) (rfl) (rfl) (Nat.le_of_ble_eq_true rfl) dX9_reckon_2 (fun H locs F18 eF18 hP hS => ?_)
        have eF18 : F18 = va_up F o (.inr (8, [.int 0, .ref (qm 0), .ref (qm 1), .ref (qm 2), .ref (qm 3), .ref (qm 4), .ref (qm 5), .ref (qm 6), .ref (qm 7), .int Pp.1, .ref (qm 8), .ref (qm 9), .ref (qm 10), .ref (qm 11), .ref (qm 12), .ref (qm 13), .ref (qm 14), .int Xx.1, .ref (qm 15), .long oc])) := eF18
        have hFo_18 : F18 o = .inr (8, [.int 0, .ref (qm 0), .ref (qm 1), .ref (qm 2), .ref (qm 3), .ref (qm 4), .ref (qm 5), .ref (qm 6), .ref (qm 7), .int Pp.1, .ref (qm 8), .ref (qm 9), .ref (qm 10), .ref (qm 11), .ref (qm 12), .ref (qm 13), .ref (qm 14), .int Xx.1, .ref (qm 15), .long oc]) := by rw [eF18]; exact va_up_self _ _ _
        have hFqm0_18 : F18 (qm 0) = cI (cy 1) 10 Mm.1 := by rw [eF18, va_up_ne _ _ (pl_ne hF0 hFo rfl)]; exact hF0
        have hFqm1_18 : F18 (qm 1) = cJ (cy 2) 10 Mm.2 := by rw [eF18, va_up_ne _ _ (pl_ne hF1 hFo rfl)]; exact hF1
        have hFqm2_18 : F18 (qm 2) = cD (cy 0) 6 Dd.1 := by rw [eF18, va_up_ne _ _ (pl_ne hF2 hFo rfl)]; exact hF2
        have hFqm3_18 : F18 (qm 3) = cD (cy 0) 6 Dd.2.1 := by rw [eF18, va_up_ne _ _ (pl_ne hF3 hFo rfl)]; exact hF3
        have hFqm4_18 : F18 (qm 4) = cD (cy 0) 6 Dd.2.2.1 := by rw [eF18, va_up_ne _ _ (pl_ne hF4 hFo rfl)]; exact hF4
        have hFqm5_18 : F18 (qm 5) = cJ (cy 2) 6 Dd.2.2.2 := by rw [eF18, va_up_ne _ _ (pl_ne hF5 hFo rfl)]; exact hF5
        have hFqm6_18 : F18 (qm 6) = cI (cy 1) 8 Sl.1 := by rw [eF18, va_up_ne _ _ (pl_ne hF6 hFo rfl)]; exact hF6
        have hFqm7_18 : F18 (qm 7) = cJ (cy 2) 128 Sl.2 := by rw [eF18, va_up_ne _ _ (pl_ne hF7 hFo rfl)]; exact hF7
        have hFqm8_18 : F18 (qm 8) = cI (cy 1) 30 Pp.2.1 := by rw [eF18, va_up_ne _ _ (pl_ne hF8 hFo rfl)]; exact hF8
        have hFqm9_18 : F18 (qm 9) = cI (cy 3) 30 Pp.2.2 := by rw [eF18, va_up_ne _ _ (pl_ne hF9 hFo rfl)]; exact hF9
        have hFqm10_18 : F18 (qm 10) = cI (cy 1) 5 Kr.1 := by rw [eF18, va_up_ne _ _ (pl_ne hF10 hFo rfl)]; exact hF10
        have hFqm11_18 : F18 (qm 11) = cI (cy 3) 5 Kr.2.1 := by rw [eF18, va_up_ne _ _ (pl_ne hF11 hFo rfl)]; exact hF11
        have hFqm12_18 : F18 (qm 12) = cI (cy 1) 60 Kr.2.2 := by rw [eF18, va_up_ne _ _ (pl_ne hF12 hFo rfl)]; exact hF12
        have hFqm13_18 : F18 (qm 13) = cI (cy 1) 4 Bk.1 := by rw [eF18, va_up_ne _ _ (pl_ne hF13 hFo rfl)]; exact hF13
        have hFqm14_18 : F18 (qm 14) = cD (cy 0) 4 Bk.2 := by rw [eF18, va_up_ne _ _ (pl_ne hF14 hFo rfl)]; exact hF14
        have hFqm15_18 : F18 (qm 15) = cI (cy 1) 6 Xx.2 := by rw [eF18, va_up_ne _ _ (pl_ne hF15 hFo rfl)]; exact hF15
        refine lv_iload_n hx hb dX9_reckon_5 rfl (lv_at hl 2 rfl) ?_
        refine vp_callSi (W.runS (As := [.int (nI j_x)]) (rest := []) ⟨hx, hb, hml, hown, hts⟩ (c9_isMeter l (nI j_x)) (va_cwS 1 hts gX9_reckon_X9_isMeter rfl rfl rfl (by decide +kernel) ⟨Nat.le_of_ble_eq_true rfl, Nat.le_of_ble_eq_true rfl⟩) (preS_of okT (trivial)) rfl rfl hl.1 rfl (lv_room (Nat.le_of_ble_eq_true rfl)) dX9_reckon_6 ⟨Nat.le_of_ble_eq_true rfl, Nat.le_of_ble_eq_true rfl⟩) (fun r19 hr19 => ?_)
        rw [isx1 hi_x] at hr19
        subst hr19
        refine lv_if_eq (tgt := 27) hx hb dX9_reckon_9 (by decide) (fun c20 => absurd c20 (by decide)) (fun c20 => ?_)
        refine lv_iload_n hx hb dX9_reckon_12 rfl (lv_at hl 3 rfl) ?_
        refine vp_callSi (W.runS (As := [.int y]) (rest := []) ⟨hx, hb, hml, hown, hts⟩ (c9_isMeter l y) (va_cwS 1 hts gX9_reckon_X9_isMeter rfl rfl rfl (by decide +kernel) ⟨Nat.le_of_ble_eq_true rfl, Nat.le_of_ble_eq_true rfl⟩) (preS_of okT (trivial)) rfl rfl hl.1 rfl (lv_room (Nat.le_of_ble_eq_true rfl)) dX9_reckon_13 ⟨Nat.le_of_ble_eq_true rfl, Nat.le_of_ble_eq_true rfl⟩) (fun r21 hr21 => ?_)
        rw [isx0 hi_y] at hr21
        subst hr21
        refine lv_if_eq (tgt := 27) hx hb dX9_reckon_16 (by decide) (fun c22 => ?_) (fun c22 => absurd (by decide) c22)
        refine lv_sipush (v := -1001) hx hb dX9_reckon_27 (by decide) ?_
        exact W.iret (v := -1001) hx hb hr (fun t ht hW => ⟨⟨-1001, F18, rfl, (by have hsp : sp_reckon Mm Xx 4 (nI j_x) y (nI j_into) = (-1001, Mm, Xx) := (by unfold sp_reckon; rw [hi_x, hi_y]); rw [hsp]; exact ⟨rfl, (by exact ⟨⟨_, _, hmo, hFo_18⟩, ⟨hm0, hFqm0_18⟩, ⟨hm1, hFqm1_18⟩, ⟨hm2, hFqm2_18⟩, ⟨hm3, hFqm3_18⟩, ⟨hm4, hFqm4_18⟩, ⟨hm5, hFqm5_18⟩, ⟨hm6, hFqm6_18⟩, ⟨hm7, hFqm7_18⟩, ⟨hm8, hFqm8_18⟩, ⟨hm9, hFqm9_18⟩, ⟨hm10, hFqm10_18⟩, ⟨hm11, hFqm11_18⟩, ⟨hm12, hFqm12_18⟩, ⟨hm13, hFqm13_18⟩, ⟨hm14, hFqm14_18⟩, ⟨hm15, hFqm15_18⟩, hne⟩)⟩), (by show va_P _ _ _ t.heap; rw [ht]; exact hP)⟩, hS.F ht⟩) hS.2.2 dX9_reckon_30
    · subst ei_y
      rcases ixc 10 into with hi_into | ⟨j_into, hj_into, hi_into, ei_into⟩
      · refine lv_aload_n hx hb dX9_reckon_0 rfl (lv_at hl 0 rfl) ?_
        refine lv_iconst (v := 0) hx hb dX9_reckon_1 (by decide) ?_
        refine pg_put (ci := 8) (v := .int 0) (ty := .int) (C := RX9) (T := TX9) (N := 20) hx hb hts hinX9 tyX9 tyX9_ok nmX9 hown hK hP hD hS hmo hFo rfl 0 (by decide) (hts (.fieldLink RX9 61 "RopeDrumsModel" "thrown" "I") (by decide +kernel)) (fun _ h9 => h9) rfl (by decide +kernel) (rfl) (rfl) (Nat.le_of_ble_eq_true rfl) dX9_reckon_2 (fun H locs F23 eF23 hP hS => ?_)
        have eF23 : F23 = va_up F o (.inr (8, [.int 0, .ref (qm 0), .ref (qm 1), .ref (qm 2), .ref (qm 3), .ref (qm 4), .ref (qm 5), .ref (qm 6), .ref (qm 7), .int Pp.1, .ref (qm 8), .ref (qm 9), .ref (qm 10), .ref (qm 11), .ref (qm 12), .ref (qm 13), .ref (qm 14), .int Xx.1, .ref (qm 15), .long oc])) := eF23
        have hFo_23 : F23 o = .inr (8, [.int 0, .ref (qm 0), .ref (qm 1), .ref (qm 2), .ref (qm 3), .ref (qm 4), .ref (qm 5), .ref (qm 6), .ref (qm 7), .int Pp.1, .ref (qm 8), .ref (qm 9), .ref (qm 10), .ref (qm 11), .ref (qm 12), .ref (qm 13), .ref (qm 14), .int Xx.1, .ref (qm 15), .long oc]) := by rw [eF23]; exact va_up_self _ _ _
        have hFqm0_23 : F23 (qm 0) = cI (cy 1) 10 Mm.1 := by rw [eF23, va_up_ne _ _ (pl_ne hF0 hFo rfl)]; exact hF0
        have hFqm1_23 : F23 (qm 1) = cJ (cy 2) 10 Mm.2 := by rw [eF23, va_up_ne _ _ (pl_ne hF1 hFo rfl)]; exact hF1
        have hFqm2_23 : F23 (qm 2) = cD (cy 0) 6 Dd.1 := by rw [eF23, va_up_ne _ _ (pl_ne hF2 hFo rfl)]; exact hF2
        have hFqm3_23 : F23 (qm 3) = cD (cy 0) 6 Dd.2.1 := by rw [eF23, va_up_ne _ _ (pl_ne hF3 hFo rfl)]; exact hF3
        have hFqm4_23 : F23 (qm 4) = cD (cy 0) 6 Dd.2.2.1 := by rw [eF23, va_up_ne _ _ (pl_ne hF4 hFo rfl)]; exact hF4
        have hFqm5_23 : F23 (qm 5) = cJ (cy 2) 6 Dd.2.2.2 := by rw [eF23, va_up_ne _ _ (pl_ne hF5 hFo rfl)]; exact hF5
        have hFqm6_23 : F23 (qm 6) = cI (cy 1) 8 Sl.1 := by rw [eF23, va_up_ne _ _ (pl_ne hF6 hFo rfl)]; exact hF6
        have hFqm7_23 : F23 (qm 7) = cJ (cy 2) 128 Sl.2 := by rw [eF23, va_up_ne _ _ (pl_ne hF7 hFo rfl)]; exact hF7
        have hFqm8_23 : F23 (qm 8) = cI (cy 1) 30 Pp.2.1 := by rw [eF23, va_up_ne _ _ (pl_ne hF8 hFo rfl)]; exact hF8
        have hFqm9_23 : F23 (qm 9) = cI (cy 3) 30 Pp.2.2 := by rw [eF23, va_up_ne _ _ (pl_ne hF9 hFo rfl)]; exact hF9
        have hFqm10_23 : F23 (qm 10) = cI (cy 1) 5 Kr.1 := by rw [eF23, va_up_ne _ _ (pl_ne hF10 hFo rfl)]; exact hF10
        have hFqm11_23 : F23 (qm 11) = cI (cy 3) 5 Kr.2.1 := by rw [eF23, va_up_ne _ _ (pl_ne hF11 hFo rfl)]; exact hF11
        have hFqm12_23 : F23 (qm 12) = cI (cy 1) 60 Kr.2.2 := by rw [eF23, va_up_ne _ _ (pl_ne hF12 hFo rfl)]; exact hF12
        have hFqm13_23 : F23 (qm 13) = cI (cy 1) 4 Bk.1 := by rw [eF23, va_up_ne _ _ (pl_ne hF13 hFo rfl)]; exact hF13
        have hFqm14_23 : F23 (qm 14) = cD (cy 0) 4 Bk.2 := by rw [eF23, va_up_ne _ _ (pl_ne hF14 hFo rfl)]; exact hF14
        have hFqm15_23 : F23 (qm 15) = cI (cy 1) 6 Xx.2 := by rw [eF23, va_up_ne _ _ (pl_ne hF15 hFo rfl)]; exact hF15
        refine lv_iload_n hx hb dX9_reckon_5 rfl (lv_at hl 2 rfl) ?_
        refine vp_callSi (W.runS (As := [.int (nI j_x)]) (rest := []) ⟨hx, hb, hml, hown, hts⟩ (c9_isMeter l (nI j_x)) (va_cwS 1 hts gX9_reckon_X9_isMeter rfl rfl rfl (by decide +kernel) ⟨Nat.le_of_ble_eq_true rfl, Nat.le_of_ble_eq_true rfl⟩) (preS_of okT (trivial)) rfl rfl hl.1 rfl (lv_room (Nat.le_of_ble_eq_true rfl)) dX9_reckon_6 ⟨Nat.le_of_ble_eq_true rfl, Nat.le_of_ble_eq_true rfl⟩) (fun r24 hr24 => ?_)
        rw [isx1 hi_x] at hr24
        subst hr24
        refine lv_if_eq (tgt := 27) hx hb dX9_reckon_9 (by decide) (fun c25 => absurd c25 (by decide)) (fun c25 => ?_)
        refine lv_iload_n hx hb dX9_reckon_12 rfl (lv_at hl 3 rfl) ?_
        refine vp_callSi (W.runS (As := [.int (nI j_y)]) (rest := []) ⟨hx, hb, hml, hown, hts⟩ (c9_isMeter l (nI j_y)) (va_cwS 1 hts gX9_reckon_X9_isMeter rfl rfl rfl (by decide +kernel) ⟨Nat.le_of_ble_eq_true rfl, Nat.le_of_ble_eq_true rfl⟩) (preS_of okT (trivial)) rfl rfl hl.1 rfl (lv_room (Nat.le_of_ble_eq_true rfl)) dX9_reckon_13 ⟨Nat.le_of_ble_eq_true rfl, Nat.le_of_ble_eq_true rfl⟩) (fun r26 hr26 => ?_)
        rw [isx1 hi_y] at hr26
        subst hr26
        refine lv_if_eq (tgt := 27) hx hb dX9_reckon_16 (by decide) (fun c27 => absurd c27 (by decide)) (fun c27 => ?_)
        refine lv_iload hx hb dX9_reckon_19 (lv_at hl 4 rfl) ?_
        refine vp_callSi (W.runS (As := [.int into]) (rest := []) ⟨hx, hb, hml, hown, hts⟩ (c9_isMeter l into) (va_cwS 1 hts gX9_reckon_X9_isMeter rfl rfl rfl (by decide +kernel) ⟨Nat.le_of_ble_eq_true rfl, Nat.le_of_ble_eq_true rfl⟩) (preS_of okT (trivial)) rfl rfl hl.1 rfl (lv_room (Nat.le_of_ble_eq_true rfl)) dX9_reckon_21 ⟨Nat.le_of_ble_eq_true rfl, Nat.le_of_ble_eq_true rfl⟩) (fun r28 hr28 => ?_)
        rw [isx0 hi_into] at hr28
        subst hr28
        refine lv_if_ne (tgt := 31) hx hb dX9_reckon_24 (by decide) (fun c29 => absurd (by decide) c29) (fun c29 => ?_)
        refine lv_sipush (v := -1001) hx hb dX9_reckon_27 (by decide) ?_
        exact W.iret (v := -1001) hx hb hr (fun t ht hW => ⟨⟨-1001, F23, rfl, (by have hsp : sp_reckon Mm Xx 4 (nI j_x) (nI j_y) into = (-1001, Mm, Xx) := (by unfold sp_reckon; rw [hi_x, hi_y, hi_into]); rw [hsp]; exact ⟨rfl, (by exact ⟨⟨_, _, hmo, hFo_23⟩, ⟨hm0, hFqm0_23⟩, ⟨hm1, hFqm1_23⟩, ⟨hm2, hFqm2_23⟩, ⟨hm3, hFqm3_23⟩, ⟨hm4, hFqm4_23⟩, ⟨hm5, hFqm5_23⟩, ⟨hm6, hFqm6_23⟩, ⟨hm7, hFqm7_23⟩, ⟨hm8, hFqm8_23⟩, ⟨hm9, hFqm9_23⟩, ⟨hm10, hFqm10_23⟩, ⟨hm11, hFqm11_23⟩, ⟨hm12, hFqm12_23⟩, ⟨hm13, hFqm13_23⟩, ⟨hm14, hFqm14_23⟩, ⟨hm15, hFqm15_23⟩, hne⟩)⟩), (by show va_P _ _ _ t.heap; rw [ht]; exact hP)⟩, hS.F ht⟩) hS.2.2 dX9_reckon_30
      · subst ei_into
        refine lv_aload_n hx hb dX9_reckon_0 rfl (lv_at hl 0 rfl) ?_
        refine lv_iconst (v := 0) hx hb dX9_reckon_1 (by decide) ?_
        refine pg_put (ci := 8) (v := .int 0) (ty := .int) (C := RX9) (T := TX9) (N := 20) hx hb hts hinX9 tyX9 tyX9_ok nmX9 hown hK hP hD hS hmo hFo rfl 0 (by decide) (hts (.fieldLink RX9 61 "RopeDrumsModel" "thrown" "I") (by decide +kernel)) (fun _ h9 => h9) rfl (by decide +kernel) (rfl) (rfl) (Nat.le_of_ble_eq_true rfl) dX9_reckon_2 (fun H locs F30 eF30 hP hS => ?_)
        have eF30 : F30 = va_up F o (.inr (8, [.int 0, .ref (qm 0), .ref (qm 1), .ref (qm 2), .ref (qm 3), .ref (qm 4), .ref (qm 5), .ref (qm 6), .ref (qm 7), .int Pp.1, .ref (qm 8), .ref (qm 9), .ref (qm 10), .ref (qm 11), .ref (qm 12), .ref (qm 13), .ref (qm 14), .int Xx.1, .ref (qm 15), .long oc])) := eF30
        have hFo_30 : F30 o = .inr (8, [.int 0, .ref (qm 0), .ref (qm 1), .ref (qm 2), .ref (qm 3), .ref (qm 4), .ref (qm 5), .ref (qm 6), .ref (qm 7), .int Pp.1, .ref (qm 8), .ref (qm 9), .ref (qm 10), .ref (qm 11), .ref (qm 12), .ref (qm 13), .ref (qm 14), .int Xx.1, .ref (qm 15), .long oc]) := by rw [eF30]; exact va_up_self _ _ _
        have hFqm0_30 : F30 (qm 0) = cI (cy 1) 10 Mm.1 := by rw [eF30, va_up_ne _ _ (pl_ne hF0 hFo rfl)]; exact hF0
        have hFqm1_30 : F30 (qm 1) = cJ (cy 2) 10 Mm.2 := by rw [eF30, va_up_ne _ _ (pl_ne hF1 hFo rfl)]; exact hF1
        have hFqm2_30 : F30 (qm 2) = cD (cy 0) 6 Dd.1 := by rw [eF30, va_up_ne _ _ (pl_ne hF2 hFo rfl)]; exact hF2
        have hFqm3_30 : F30 (qm 3) = cD (cy 0) 6 Dd.2.1 := by rw [eF30, va_up_ne _ _ (pl_ne hF3 hFo rfl)]; exact hF3
        have hFqm4_30 : F30 (qm 4) = cD (cy 0) 6 Dd.2.2.1 := by rw [eF30, va_up_ne _ _ (pl_ne hF4 hFo rfl)]; exact hF4
        have hFqm5_30 : F30 (qm 5) = cJ (cy 2) 6 Dd.2.2.2 := by rw [eF30, va_up_ne _ _ (pl_ne hF5 hFo rfl)]; exact hF5
        have hFqm6_30 : F30 (qm 6) = cI (cy 1) 8 Sl.1 := by rw [eF30, va_up_ne _ _ (pl_ne hF6 hFo rfl)]; exact hF6
        have hFqm7_30 : F30 (qm 7) = cJ (cy 2) 128 Sl.2 := by rw [eF30, va_up_ne _ _ (pl_ne hF7 hFo rfl)]; exact hF7
        have hFqm8_30 : F30 (qm 8) = cI (cy 1) 30 Pp.2.1 := by rw [eF30, va_up_ne _ _ (pl_ne hF8 hFo rfl)]; exact hF8
        have hFqm9_30 : F30 (qm 9) = cI (cy 3) 30 Pp.2.2 := by rw [eF30, va_up_ne _ _ (pl_ne hF9 hFo rfl)]; exact hF9
        have hFqm10_30 : F30 (qm 10) = cI (cy 1) 5 Kr.1 := by rw [eF30, va_up_ne _ _ (pl_ne hF10 hFo rfl)]; exact hF10
        have hFqm11_30 : F30 (qm 11) = cI (cy 3) 5 Kr.2.1 := by rw [eF30, va_up_ne _ _ (pl_ne hF11 hFo rfl)]; exact hF11
        have hFqm12_30 : F30 (qm 12) = cI (cy 1) 60 Kr.2.2 := by rw [eF30, va_up_ne _ _ (pl_ne hF12 hFo rfl)]; exact hF12
        have hFqm13_30 : F30 (qm 13) = cI (cy 1) 4 Bk.1 := by rw [eF30, va_up_ne _ _ (pl_ne hF13 hFo rfl)]; exact hF13
        have hFqm14_30 : F30 (qm 14) = cD (cy 0) 4 Bk.2 := by rw [eF30, va_up_ne _ _ (pl_ne hF14 hFo rfl)]; exact hF14
        have hFqm15_30 : F30 (qm 15) = cI (cy 1) 6 Xx.2 := by rw [eF30, va_up_ne _ _ (pl_ne hF15 hFo rfl)]; exact hF15
        refine lv_iload_n hx hb dX9_reckon_5 rfl (lv_at hl 2 rfl) ?_
        refine vp_callSi (W.runS (As := [.int (nI j_x)]) (rest := []) ⟨hx, hb, hml, hown, hts⟩ (c9_isMeter l (nI j_x)) (va_cwS 1 hts gX9_reckon_X9_isMeter rfl rfl rfl (by decide +kernel) ⟨Nat.le_of_ble_eq_true rfl, Nat.le_of_ble_eq_true rfl⟩) (preS_of okT (trivial)) rfl rfl hl.1 rfl (lv_room (Nat.le_of_ble_eq_true rfl)) dX9_reckon_6 ⟨Nat.le_of_ble_eq_true rfl, Nat.le_of_ble_eq_true rfl⟩) (fun r31 hr31 => ?_)
        rw [isx1 hi_x] at hr31
        subst hr31
        refine lv_if_eq (tgt := 27) hx hb dX9_reckon_9 (by decide) (fun c32 => absurd c32 (by decide)) (fun c32 => ?_)
        refine lv_iload_n hx hb dX9_reckon_12 rfl (lv_at hl 3 rfl) ?_
        refine vp_callSi (W.runS (As := [.int (nI j_y)]) (rest := []) ⟨hx, hb, hml, hown, hts⟩ (c9_isMeter l (nI j_y)) (va_cwS 1 hts gX9_reckon_X9_isMeter rfl rfl rfl (by decide +kernel) ⟨Nat.le_of_ble_eq_true rfl, Nat.le_of_ble_eq_true rfl⟩) (preS_of okT (trivial)) rfl rfl hl.1 rfl (lv_room (Nat.le_of_ble_eq_true rfl)) dX9_reckon_13 ⟨Nat.le_of_ble_eq_true rfl, Nat.le_of_ble_eq_true rfl⟩) (fun r33 hr33 => ?_)
        rw [isx1 hi_y] at hr33
        subst hr33
        refine lv_if_eq (tgt := 27) hx hb dX9_reckon_16 (by decide) (fun c34 => absurd c34 (by decide)) (fun c34 => ?_)
        refine lv_iload hx hb dX9_reckon_19 (lv_at hl 4 rfl) ?_
        refine vp_callSi (W.runS (As := [.int (nI j_into)]) (rest := []) ⟨hx, hb, hml, hown, hts⟩ (c9_isMeter l (nI j_into)) (va_cwS 1 hts gX9_reckon_X9_isMeter rfl rfl rfl (by decide +kernel) ⟨Nat.le_of_ble_eq_true rfl, Nat.le_of_ble_eq_true rfl⟩) (preS_of okT (trivial)) rfl rfl hl.1 rfl (lv_room (Nat.le_of_ble_eq_true rfl)) dX9_reckon_21 ⟨Nat.le_of_ble_eq_true rfl, Nat.le_of_ble_eq_true rfl⟩) (fun r35 hr35 => ?_)
        rw [isx1 hi_into] at hr35
        subst hr35
        refine lv_if_ne (tgt := 31) hx hb dX9_reckon_24 (by decide) (fun c36 => ?_) (fun c36 => absurd c36 (by decide))
        refine lv_iload_n hx hb dX9_reckon_31 rfl (lv_at hl 1 rfl) ?_
        refine lv_i2l hx hb dX9_reckon_32 rfl ?_
        refine lv_topl (fun v37 ev37 => ?_)
        refine lv_lconst (v := 0) hx hb dX9_reckon_33 (by decide) ?_
        refine lv_ldc2 hx hb hown (hts (.constantLong RX9 143 (4)) (by decide +kernel)) dX9_reckon_34 ?_
        refine vp_callSi (W.runS (As := [.long v37, .long 0, .long 4]) (rest := []) ⟨hx, hb, hml, hown, hts⟩ (c9_in l v37 0 4) (va_cwS 3 hts gX9_reckon_X9_in rfl rfl rfl (by decide +kernel) ⟨Nat.le_of_ble_eq_true rfl, Nat.le_of_ble_eq_true rfl⟩) (preS_of okT (trivial)) rfl rfl hl.1 rfl (lv_room (Nat.le_of_ble_eq_true rfl)) dX9_reckon_37 ⟨Nat.le_of_ble_eq_true rfl, Nat.le_of_ble_eq_true rfl⟩) (fun r38 hr38 => ?_)
        have hzr38 : r38 = 1 := by rw [hr38, ev37, inq_i (y := 0) (z := 4) (by decide) (by decide)]; exact if_pos (by decide)
        subst hzr38
        refine lv_if_ne (tgt := 47) hx hb dX9_reckon_40 (by decide) (fun c39 => ?_) (fun c39 => absurd c39 (by decide))
        refine lv_aload_n hx hb dX9_reckon_47 rfl (lv_at hl 0 rfl) ?_
        refine lv_iconst (v := 0) hx hb dX9_reckon_48 (by decide) ?_
        refine pg_put (ci := 8) (v := .int 0) (ty := .int) (C := RX9) (T := TX9) (N := 20) hx hb hts hinX9 tyX9 tyX9_ok nmX9 hown hK hP hD hS hmo hFo_30 rfl 17 (by decide) (hts (.fieldLink RX9 65 "RopeDrumsModel" "failed" "I") (by decide +kernel)) (fun _ h9 => h9) rfl (by decide +kernel) (rfl) (rfl) (Nat.le_of_ble_eq_true rfl) dX9_reckon_49 (fun H locs F40 eF40 hP hS => ?_)
        have eF40 : F40 = va_up F30 o (.inr (8, [.int 0, .ref (qm 0), .ref (qm 1), .ref (qm 2), .ref (qm 3), .ref (qm 4), .ref (qm 5), .ref (qm 6), .ref (qm 7), .int Pp.1, .ref (qm 8), .ref (qm 9), .ref (qm 10), .ref (qm 11), .ref (qm 12), .ref (qm 13), .ref (qm 14), .int 0, .ref (qm 15), .long oc])) := eF40
        have hFo_40 : F40 o = .inr (8, [.int 0, .ref (qm 0), .ref (qm 1), .ref (qm 2), .ref (qm 3), .ref (qm 4), .ref (qm 5), .ref (qm 6), .ref (qm 7), .int Pp.1, .ref (qm 8), .ref (qm 9), .ref (qm 10), .ref (qm 11), .ref (qm 12), .ref (qm 13), .ref (qm 14), .int 0, .ref (qm 15), .long oc]) := by rw [eF40]; exact va_up_self _ _ _
        have hFqm0_40 : F40 (qm 0) = cI (cy 1) 10 Mm.1 := by rw [eF40, va_up_ne _ _ (pl_ne hFqm0_30 hFo_30 rfl)]; exact hFqm0_30
        have hFqm1_40 : F40 (qm 1) = cJ (cy 2) 10 Mm.2 := by rw [eF40, va_up_ne _ _ (pl_ne hFqm1_30 hFo_30 rfl)]; exact hFqm1_30
        have hFqm2_40 : F40 (qm 2) = cD (cy 0) 6 Dd.1 := by rw [eF40, va_up_ne _ _ (pl_ne hFqm2_30 hFo_30 rfl)]; exact hFqm2_30
        have hFqm3_40 : F40 (qm 3) = cD (cy 0) 6 Dd.2.1 := by rw [eF40, va_up_ne _ _ (pl_ne hFqm3_30 hFo_30 rfl)]; exact hFqm3_30
        have hFqm4_40 : F40 (qm 4) = cD (cy 0) 6 Dd.2.2.1 := by rw [eF40, va_up_ne _ _ (pl_ne hFqm4_30 hFo_30 rfl)]; exact hFqm4_30
        have hFqm5_40 : F40 (qm 5) = cJ (cy 2) 6 Dd.2.2.2 := by rw [eF40, va_up_ne _ _ (pl_ne hFqm5_30 hFo_30 rfl)]; exact hFqm5_30
        have hFqm6_40 : F40 (qm 6) = cI (cy 1) 8 Sl.1 := by rw [eF40, va_up_ne _ _ (pl_ne hFqm6_30 hFo_30 rfl)]; exact hFqm6_30
        have hFqm7_40 : F40 (qm 7) = cJ (cy 2) 128 Sl.2 := by rw [eF40, va_up_ne _ _ (pl_ne hFqm7_30 hFo_30 rfl)]; exact hFqm7_30
        have hFqm8_40 : F40 (qm 8) = cI (cy 1) 30 Pp.2.1 := by rw [eF40, va_up_ne _ _ (pl_ne hFqm8_30 hFo_30 rfl)]; exact hFqm8_30
        have hFqm9_40 : F40 (qm 9) = cI (cy 3) 30 Pp.2.2 := by rw [eF40, va_up_ne _ _ (pl_ne hFqm9_30 hFo_30 rfl)]; exact hFqm9_30
        have hFqm10_40 : F40 (qm 10) = cI (cy 1) 5 Kr.1 := by rw [eF40, va_up_ne _ _ (pl_ne hFqm10_30 hFo_30 rfl)]; exact hFqm10_30
        have hFqm11_40 : F40 (qm 11) = cI (cy 3) 5 Kr.2.1 := by rw [eF40, va_up_ne _ _ (pl_ne hFqm11_30 hFo_30 rfl)]; exact hFqm11_30
        have hFqm12_40 : F40 (qm 12) = cI (cy 1) 60 Kr.2.2 := by rw [eF40, va_up_ne _ _ (pl_ne hFqm12_30 hFo_30 rfl)]; exact hFqm12_30
        have hFqm13_40 : F40 (qm 13) = cI (cy 1) 4 Bk.1 := by rw [eF40, va_up_ne _ _ (pl_ne hFqm13_30 hFo_30 rfl)]; exact hFqm13_30
        have hFqm14_40 : F40 (qm 14) = cD (cy 0) 4 Bk.2 := by rw [eF40, va_up_ne _ _ (pl_ne hFqm14_30 hFo_30 rfl)]; exact hFqm14_30
        have hFqm15_40 : F40 (qm 15) = cI (cy 1) 6 Xx.2 := by rw [eF40, va_up_ne _ _ (pl_ne hFqm15_30 hFo_30 rfl)]; exact hFqm15_30
        refine jn_i (pc := 82) (ls := ls) (rest := []) (fun vv => vv = mx (Mm.1 j_x) (Mm.1 j_y)) (fun j41 hj41 => ?_) (fun K => ?_)
        · subst hj41
          refine lv_istore (lv' := [(5, .int (mx (Mm.1 j_x) (Mm.1 j_y))), (0, .ref o), (1, .int 4), (2, .int (nI j_x)), (3, .int (nI j_y)), (4, .int (nI j_into))]) hx hb dX9_reckon_82 hl (by decide) rfl (fun ls hl => ?_)
          refine lv_aload_n hx hb dX9_reckon_84 rfl (lv_at hl 1 rfl) ?_
          refine pg_get (ci := 8) (C := RX9) (T := TX9) (N := 20) hx hb hts hinX9 hown hK hP hmo hFo_40 rfl 1 (by decide) (hts (.fieldLink RX9 7 "RopeDrumsModel" "laneOf" "[I") (by decide +kernel)) (fun _ h9 => h9) rfl dX9_reckon_85 ?_
          refine lv_iload_n hx hb dX9_reckon_88 rfl (lv_at hl 3 rfl) ?_
          refine pg_iald hx hb hK hP 1 hm0 hFqm0_40 rfl (vp_in_nI (by omega) (by decide)) dX9_reckon_89 ?_
          refine lv_topi (fun v42 ev42 => ?_)
          rw [nI_clamp (by omega)] at ev42
          refine lv_aload_n hx hb dX9_reckon_90 rfl (lv_at hl 1 rfl) ?_
          refine pg_get (ci := 8) (C := RX9) (T := TX9) (N := 20) hx hb hts hinX9 hown hK hP hmo hFo_40 rfl 2 (by decide) (hts (.fieldLink RX9 13 "RopeDrumsModel" "held" "[J") (by decide +kernel)) (fun _ h9 => h9) rfl dX9_reckon_91 ?_
          refine lv_iload_n hx hb dX9_reckon_94 rfl (lv_at hl 3 rfl) ?_
          refine pg_lald hx hb hK hP 2 hm1 hFqm1_40 rfl (vp_in_nI (by omega) (by decide)) dX9_reckon_95 ?_
          refine lv_topl (fun v43 ev43 => ?_)
          rw [nI_clamp (by omega)] at ev43
          refine lv_iload hx hb dX9_reckon_96 (lv_at hl 0 rfl) ?_
          refine vp_callSl (W.runS (As := [.int v42, .long v43, .int (mx (Mm.1 j_x) (Mm.1 j_y))]) (rest := []) ⟨hx, hb, hml, hown, hts⟩ (c9_turned l v42 (mx (Mm.1 j_x) (Mm.1 j_y)) v43 (by rw [ev42, ev43]; exact (hVM j_x hj_x))) (va_cwS 3 hts gX9_reckon_X9_turned rfl rfl rfl (by decide +kernel) ⟨Nat.le_of_ble_eq_true rfl, Nat.le_of_ble_eq_true rfl⟩) (preS_of okT (trivial)) rfl rfl hl.1 rfl (lv_room (Nat.le_of_ble_eq_true rfl)) dX9_reckon_98 ⟨Nat.le_of_ble_eq_true rfl, Nat.le_of_ble_eq_true rfl⟩) (fun r44 hr44 => ?_)
          refine lv_lstore (lv' := [(6, .long r44), (5, .int (mx (Mm.1 j_x) (Mm.1 j_y))), (0, .ref o), (1, .int 4), (2, .int (nI j_x)), (3, .int (nI j_y)), (4, .int (nI j_into))]) hx hb dX9_reckon_101 hl (by decide) rfl (fun ls hl => ?_)
          refine lv_aload_n hx hb dX9_reckon_103 rfl (lv_at hl 2 rfl) ?_
          refine pg_get (ci := 8) (C := RX9) (T := TX9) (N := 20) hx hb hts hinX9 hown hK hP hmo hFo_40 rfl 1 (by decide) (hts (.fieldLink RX9 7 "RopeDrumsModel" "laneOf" "[I") (by decide +kernel)) (fun _ h9 => h9) rfl dX9_reckon_104 ?_
          refine lv_iload_n hx hb dX9_reckon_107 rfl (lv_at hl 5 rfl) ?_
          refine pg_iald hx hb hK hP 1 hm0 hFqm0_40 rfl (vp_in_nI (by omega) (by decide)) dX9_reckon_108 ?_
          refine lv_topi (fun v45 ev45 => ?_)
          rw [nI_clamp (by omega)] at ev45
          refine lv_aload_n hx hb dX9_reckon_109 rfl (lv_at hl 2 rfl) ?_
          refine pg_get (ci := 8) (C := RX9) (T := TX9) (N := 20) hx hb hts hinX9 hown hK hP hmo hFo_40 rfl 2 (by decide) (hts (.fieldLink RX9 13 "RopeDrumsModel" "held" "[J") (by decide +kernel)) (fun _ h9 => h9) rfl dX9_reckon_110 ?_
          refine lv_iload_n hx hb dX9_reckon_113 rfl (lv_at hl 5 rfl) ?_
          refine pg_lald hx hb hK hP 2 hm1 hFqm1_40 rfl (vp_in_nI (by omega) (by decide)) dX9_reckon_114 ?_
          refine lv_topl (fun v46 ev46 => ?_)
          rw [nI_clamp (by omega)] at ev46
          refine lv_iload hx hb dX9_reckon_115 (lv_at hl 1 rfl) ?_
          refine vp_callSl (W.runS (As := [.int v45, .long v46, .int (mx (Mm.1 j_x) (Mm.1 j_y))]) (rest := []) ⟨hx, hb, hml, hown, hts⟩ (c9_turned l v45 (mx (Mm.1 j_x) (Mm.1 j_y)) v46 (by rw [ev45, ev46]; exact (hVM j_y hj_y))) (va_cwS 3 hts gX9_reckon_X9_turned rfl rfl rfl (by decide +kernel) ⟨Nat.le_of_ble_eq_true rfl, Nat.le_of_ble_eq_true rfl⟩) (preS_of okT (trivial)) rfl rfl hl.1 rfl (lv_room (Nat.le_of_ble_eq_true rfl)) dX9_reckon_117 ⟨Nat.le_of_ble_eq_true rfl, Nat.le_of_ble_eq_true rfl⟩) (fun r47 hr47 => ?_)
          refine lv_lstore (lv' := [(8, .long r47), (6, .long r44), (5, .int (mx (Mm.1 j_x) (Mm.1 j_y))), (0, .ref o), (1, .int 4), (2, .int (nI j_x)), (3, .int (nI j_y)), (4, .int (nI j_into))]) hx hb dX9_reckon_120 hl (by decide) rfl (fun ls hl => ?_)
          have hmx := mx_v (hVM j_x hj_x).lane (hVM j_y hj_y).lane
          by_cases h1l : (1 : Int32) < mx (Mm.1 j_x) (Mm.1 j_y)
          · rcases (hmx.2 h1l).1 with hmxl | hmxl
            · by_cases hnan0 : FP.Core.fIsNaN (rkF 4 (fl (tn (Mm.1 j_x) (Mm.2 j_x) 2)) (fl (tn (Mm.1 j_y) (Mm.2 j_y) 2))) = true
              · refine lv_iload hx hb dX9_reckon_122 (lv_at hl 2 rfl) ?_
                refine lv_iconst (v := 2) hx hb dX9_reckon_124 (by decide) ?_
                refine lv_icmp_ge (tgt := 162) hx hb dX9_reckon_125 (by decide) (fun c48 => ?_) (fun c48 => absurd (by rw [hmxl]; decide) c48)
                refine lv_iload hx hb dX9_reckon_162 (lv_at hl 2 rfl) ?_
                refine lv_iconst (v := 2) hx hb dX9_reckon_164 (by decide) ?_
                refine lv_icmp_ne (tgt := 186) hx hb dX9_reckon_165 (by decide) (fun c49 => absurd (hmxl) c49) (fun c49 => ?_)
                refine lv_aload_n hx hb dX9_reckon_168 rfl (lv_at hl 3 rfl) ?_
                refine lv_iload_n hx hb dX9_reckon_169 rfl (lv_at hl 4 rfl) ?_
                refine lv_lload hx hb dX9_reckon_170 (lv_at hl 1 rfl) ?_
                refine vp_callSf (W.runS (As := [.long r44]) (rest := [.int 4, .ref o]) ⟨hx, hb, hml, hown, hts⟩ (c9_floatOf l r44 (by rw [hr44, ev42, ev43]; exact (by rw [hmxl]; exact tn2_ok (hVM j_x hj_x)))) (va_cwS 1 hts gX9_reckon_X9_floatOf rfl rfl rfl (by decide +kernel) ⟨Nat.le_of_ble_eq_true rfl, Nat.le_of_ble_eq_true rfl⟩) (preS_of okT (trivial)) rfl rfl hl.1 rfl (lv_room (Nat.le_of_ble_eq_true rfl)) dX9_reckon_172 ⟨Nat.le_of_ble_eq_true rfl, Nat.le_of_ble_eq_true rfl⟩) (fun r50 hr50 => ?_)
                refine lv_lload hx hb dX9_reckon_175 (lv_at hl 0 rfl) ?_
                refine vp_callSf (W.runS (As := [.long r47]) (rest := [.float r50, .int 4, .ref o]) ⟨hx, hb, hml, hown, hts⟩ (c9_floatOf l r47 (by rw [hr47, ev45, ev46]; exact (by rw [hmxl]; exact tn2_ok (hVM j_y hj_y)))) (va_cwS 1 hts gX9_reckon_X9_floatOf rfl rfl rfl (by decide +kernel) ⟨Nat.le_of_ble_eq_true rfl, Nat.le_of_ble_eq_true rfl⟩) (preS_of okT (trivial)) rfl rfl hl.1 rfl (lv_room (Nat.le_of_ble_eq_true rfl)) dX9_reckon_177 ⟨Nat.le_of_ble_eq_true rfl, Nat.le_of_ble_eq_true rfl⟩) (fun r51 hr51 => ?_)
                refine va_callv (va_runV (As := [.int 4, .float r50, .float r51]) (rest := []) ⟨hx, hb, hml, hown, hts⟩ (c9_rF_4_no l G cy L F40 H.size o qm 0 Pp.1 0 oc hmo hFo_40 r50 r51 (by rw [hr50, hr44, ev42, ev43, hmxl]; exact tn2_ok (hVM j_x hj_x)) (by rw [hr51, hr47, ev45, ev46, hmxl]; exact tn2_ok (hVM j_y hj_y)) (by rw [hr50, hr44, ev42, ev43, hr51, hr47, ev45, ev46, hmxl]; exact hnan0)) (cwV 3 hts gX9_reckon_X9_reckonFloats rfl rfl rfl (by decide +kernel) ⟨Nat.le_of_ble_eq_true rfl, Nat.le_of_ble_eq_true rfl⟩) (preV_of okQ (⟨rfl, hP, hK, hD.top⟩) (pl_recv hK hP (ci := 8) rfl hmo hFo_40)) rfl rfl hl.1 rfl (lv_room (Nat.le_of_ble_eq_true rfl)) dX9_reckon_180 ⟨Nat.le_of_ble_eq_true rfl, Nat.le_of_ble_eq_true rfl⟩) hS (fun q _ h => pl_free hD hS hA q h) (pl_free hD hS hA) (fun F52 t H1 locs ht hvm hw hP1 hz1 hk1 hS => ?_)
                have hP1 : va_P G vwCl (va_pl L F52) t.heap := hP1
                rw [ht] at hP1
                have hP := hP1
                generalize H1 = H at hP hS ⊢
                have eF52 : F52 = va_up F40 o (.inr (8, [.int 0, .ref (qm 0), .ref (qm 1), .ref (qm 2), .ref (qm 3), .ref (qm 4), .ref (qm 5), .ref (qm 6), .ref (qm 7), .int Pp.1, .ref (qm 8), .ref (qm 9), .ref (qm 10), .ref (qm 11), .ref (qm 12), .ref (qm 13), .ref (qm 14), .int 5, .ref (qm 15), .long oc])) := hw
                have hFo_52 : F52 o = .inr (8, [.int 0, .ref (qm 0), .ref (qm 1), .ref (qm 2), .ref (qm 3), .ref (qm 4), .ref (qm 5), .ref (qm 6), .ref (qm 7), .int Pp.1, .ref (qm 8), .ref (qm 9), .ref (qm 10), .ref (qm 11), .ref (qm 12), .ref (qm 13), .ref (qm 14), .int 5, .ref (qm 15), .long oc]) := by rw [eF52]; exact va_up_self _ _ _
                have hFqm0_52 : F52 (qm 0) = cI (cy 1) 10 Mm.1 := by rw [eF52, va_up_ne _ _ (pl_ne hFqm0_40 hFo_40 rfl)]; exact hFqm0_40
                have hFqm1_52 : F52 (qm 1) = cJ (cy 2) 10 Mm.2 := by rw [eF52, va_up_ne _ _ (pl_ne hFqm1_40 hFo_40 rfl)]; exact hFqm1_40
                have hFqm2_52 : F52 (qm 2) = cD (cy 0) 6 Dd.1 := by rw [eF52, va_up_ne _ _ (pl_ne hFqm2_40 hFo_40 rfl)]; exact hFqm2_40
                have hFqm3_52 : F52 (qm 3) = cD (cy 0) 6 Dd.2.1 := by rw [eF52, va_up_ne _ _ (pl_ne hFqm3_40 hFo_40 rfl)]; exact hFqm3_40
                have hFqm4_52 : F52 (qm 4) = cD (cy 0) 6 Dd.2.2.1 := by rw [eF52, va_up_ne _ _ (pl_ne hFqm4_40 hFo_40 rfl)]; exact hFqm4_40
                have hFqm5_52 : F52 (qm 5) = cJ (cy 2) 6 Dd.2.2.2 := by rw [eF52, va_up_ne _ _ (pl_ne hFqm5_40 hFo_40 rfl)]; exact hFqm5_40
                have hFqm6_52 : F52 (qm 6) = cI (cy 1) 8 Sl.1 := by rw [eF52, va_up_ne _ _ (pl_ne hFqm6_40 hFo_40 rfl)]; exact hFqm6_40
                have hFqm7_52 : F52 (qm 7) = cJ (cy 2) 128 Sl.2 := by rw [eF52, va_up_ne _ _ (pl_ne hFqm7_40 hFo_40 rfl)]; exact hFqm7_40
                have hFqm8_52 : F52 (qm 8) = cI (cy 1) 30 Pp.2.1 := by rw [eF52, va_up_ne _ _ (pl_ne hFqm8_40 hFo_40 rfl)]; exact hFqm8_40
                have hFqm9_52 : F52 (qm 9) = cI (cy 3) 30 Pp.2.2 := by rw [eF52, va_up_ne _ _ (pl_ne hFqm9_40 hFo_40 rfl)]; exact hFqm9_40
                have hFqm10_52 : F52 (qm 10) = cI (cy 1) 5 Kr.1 := by rw [eF52, va_up_ne _ _ (pl_ne hFqm10_40 hFo_40 rfl)]; exact hFqm10_40
                have hFqm11_52 : F52 (qm 11) = cI (cy 3) 5 Kr.2.1 := by rw [eF52, va_up_ne _ _ (pl_ne hFqm11_40 hFo_40 rfl)]; exact hFqm11_40
                have hFqm12_52 : F52 (qm 12) = cI (cy 1) 60 Kr.2.2 := by rw [eF52, va_up_ne _ _ (pl_ne hFqm12_40 hFo_40 rfl)]; exact hFqm12_40
                have hFqm13_52 : F52 (qm 13) = cI (cy 1) 4 Bk.1 := by rw [eF52, va_up_ne _ _ (pl_ne hFqm13_40 hFo_40 rfl)]; exact hFqm13_40
                have hFqm14_52 : F52 (qm 14) = cD (cy 0) 4 Bk.2 := by rw [eF52, va_up_ne _ _ (pl_ne hFqm14_40 hFo_40 rfl)]; exact hFqm14_40
                have hFqm15_52 : F52 (qm 15) = cI (cy 1) 6 Xx.2 := by rw [eF52, va_up_ne _ _ (pl_ne hFqm15_40 hFo_40 rfl)]; exact hFqm15_40
                refine lv_goto (tgt := 201) hx hb dX9_reckon_183 (by decide) ?_
                refine lv_aload_n hx hb dX9_reckon_201 rfl (lv_at hl 3 rfl) ?_
                refine pg_get (ci := 8) (C := RX9) (T := TX9) (N := 20) hx hb hts hinX9 hown hK hP hmo hFo_52 rfl 17 (by decide) (hts (.fieldLink RX9 65 "RopeDrumsModel" "failed" "I") (by decide +kernel)) (fun _ h9 => h9) rfl dX9_reckon_202 ?_
                refine lv_if_ne (tgt := 228) hx hb dX9_reckon_205 (by decide) (fun c53 => ?_) (fun c53 => absurd c53 (by decide))
                refine lv_aload_n hx hb dX9_reckon_228 rfl (lv_at hl 3 rfl) ?_
                refine lv_iload hx hb dX9_reckon_229 (lv_at hl 2 rfl) ?_
                refine va_calli (va_runV (As := [.int (mx (Mm.1 j_x) (Mm.1 j_y))]) (rest := []) ⟨hx, hb, hml, hown, hts⟩ (c9_answers_5 l G cy L F52 H.size o qm 0 Pp.1 oc hmo hFo_52 Xx.2 hm15 hFqm15_52 (mx (Mm.1 j_x) (Mm.1 j_y))) (cwV 1 hts gX9_reckon_X9_answers rfl rfl rfl (by decide +kernel) ⟨Nat.le_of_ble_eq_true rfl, Nat.le_of_ble_eq_true rfl⟩) (preV_of okQ (⟨rfl, hP, hK, hD.top⟩) (pl_recv hK hP (ci := 8) rfl hmo hFo_52)) rfl rfl hl.1 rfl (lv_room (Nat.le_of_ble_eq_true rfl)) dX9_reckon_231 ⟨Nat.le_of_ble_eq_true rfl, Nat.le_of_ble_eq_true rfl⟩) hS (fun q _ h => pl_free hD hS hA q h) (pl_free hD hS hA) (fun r55 F54 t H1 locs ht hvm hw hP1 hz1 hk1 hS => ?_)
                have hP1 : va_P G vwCl (va_pl L F54) t.heap := hP1
                rw [ht] at hP1
                have hP := hP1
                generalize H1 = H at hP hS ⊢
                obtain ⟨hqr55, eF54⟩ := hw
                have eF54 : F54 = va_up F52 (qm 15) (cI (cy 1) 6 (upd Xx.2 5 (Xx.2 5 + 1))) := eF54
                have hFo_55 : F54 o = .inr (8, [.int 0, .ref (qm 0), .ref (qm 1), .ref (qm 2), .ref (qm 3), .ref (qm 4), .ref (qm 5), .ref (qm 6), .ref (qm 7), .int Pp.1, .ref (qm 8), .ref (qm 9), .ref (qm 10), .ref (qm 11), .ref (qm 12), .ref (qm 13), .ref (qm 14), .int 5, .ref (qm 15), .long oc]) := by rw [eF54, va_up_ne _ _ (pl_ne hFo_52 hFqm15_52 rfl)]; exact hFo_52
                have hFqm0_55 : F54 (qm 0) = cI (cy 1) 10 Mm.1 := by rw [eF54, va_up_ne _ _ (pl_ne hFqm0_52 hFqm15_52 rfl)]; exact hFqm0_52
                have hFqm1_55 : F54 (qm 1) = cJ (cy 2) 10 Mm.2 := by rw [eF54, va_up_ne _ _ (pl_ne hFqm1_52 hFqm15_52 rfl)]; exact hFqm1_52
                have hFqm2_55 : F54 (qm 2) = cD (cy 0) 6 Dd.1 := by rw [eF54, va_up_ne _ _ (pl_ne hFqm2_52 hFqm15_52 rfl)]; exact hFqm2_52
                have hFqm3_55 : F54 (qm 3) = cD (cy 0) 6 Dd.2.1 := by rw [eF54, va_up_ne _ _ (pl_ne hFqm3_52 hFqm15_52 rfl)]; exact hFqm3_52
                have hFqm4_55 : F54 (qm 4) = cD (cy 0) 6 Dd.2.2.1 := by rw [eF54, va_up_ne _ _ (pl_ne hFqm4_52 hFqm15_52 rfl)]; exact hFqm4_52
                have hFqm5_55 : F54 (qm 5) = cJ (cy 2) 6 Dd.2.2.2 := by rw [eF54, va_up_ne _ _ (pl_ne hFqm5_52 hFqm15_52 rfl)]; exact hFqm5_52
                have hFqm6_55 : F54 (qm 6) = cI (cy 1) 8 Sl.1 := by rw [eF54, va_up_ne _ _ (pl_ne hFqm6_52 hFqm15_52 rfl)]; exact hFqm6_52
                have hFqm7_55 : F54 (qm 7) = cJ (cy 2) 128 Sl.2 := by rw [eF54, va_up_ne _ _ (pl_ne hFqm7_52 hFqm15_52 rfl)]; exact hFqm7_52
                have hFqm8_55 : F54 (qm 8) = cI (cy 1) 30 Pp.2.1 := by rw [eF54, va_up_ne _ _ (pl_ne hFqm8_52 hFqm15_52 rfl)]; exact hFqm8_52
                have hFqm9_55 : F54 (qm 9) = cI (cy 3) 30 Pp.2.2 := by rw [eF54, va_up_ne _ _ (pl_ne hFqm9_52 hFqm15_52 rfl)]; exact hFqm9_52
                have hFqm10_55 : F54 (qm 10) = cI (cy 1) 5 Kr.1 := by rw [eF54, va_up_ne _ _ (pl_ne hFqm10_52 hFqm15_52 rfl)]; exact hFqm10_52
                have hFqm11_55 : F54 (qm 11) = cI (cy 3) 5 Kr.2.1 := by rw [eF54, va_up_ne _ _ (pl_ne hFqm11_52 hFqm15_52 rfl)]; exact hFqm11_52
                have hFqm12_55 : F54 (qm 12) = cI (cy 1) 60 Kr.2.2 := by rw [eF54, va_up_ne _ _ (pl_ne hFqm12_52 hFqm15_52 rfl)]; exact hFqm12_52
                have hFqm13_55 : F54 (qm 13) = cI (cy 1) 4 Bk.1 := by rw [eF54, va_up_ne _ _ (pl_ne hFqm13_52 hFqm15_52 rfl)]; exact hFqm13_52
                have hFqm14_55 : F54 (qm 14) = cD (cy 0) 4 Bk.2 := by rw [eF54, va_up_ne _ _ (pl_ne hFqm14_52 hFqm15_52 rfl)]; exact hFqm14_52
                have hFqm15_55 : F54 (qm 15) = cI (cy 1) 6 (upd Xx.2 5 (Xx.2 5 + 1)) := by rw [eF54]; exact va_up_self _ _ _
                have hr55 := hqr55
                exact W.iret (v := r55) hx hb hr (fun t ht hW => ⟨⟨r55, F54, rfl, (by subst hr55 hr51 hr50 hr47 ev46 ev45 hr44 ev43 ev42 ev37; have hsp : sp_reckon Mm Xx 4 (nI j_x) (nI j_y) (nI j_into) = (-15, Mm, failX Xx 5) := (by unfold sp_reckon; rw [hi_x, hi_y, hi_into, ixk.2.2.2.2]; show rk Mm Xx 4 j_x j_y j_into = _; unfold rk; rw [if_neg (hmx.2 h1l).2, if_pos hmxl]; exact if_pos hnan0); rw [hsp]; exact ⟨rfl, (by exact ⟨⟨_, _, hmo, hFo_55⟩, ⟨hm0, hFqm0_55⟩, ⟨hm1, hFqm1_55⟩, ⟨hm2, hFqm2_55⟩, ⟨hm3, hFqm3_55⟩, ⟨hm4, hFqm4_55⟩, ⟨hm5, hFqm5_55⟩, ⟨hm6, hFqm6_55⟩, ⟨hm7, hFqm7_55⟩, ⟨hm8, hFqm8_55⟩, ⟨hm9, hFqm9_55⟩, ⟨hm10, hFqm10_55⟩, ⟨hm11, hFqm11_55⟩, ⟨hm12, hFqm12_55⟩, ⟨hm13, hFqm13_55⟩, ⟨hm14, hFqm14_55⟩, ⟨hm15, hFqm15_55⟩, hne⟩)⟩), (by show va_P _ _ _ t.heap; rw [ht]; exact hP)⟩, hS.F ht⟩) hS.2.2 dX9_reckon_234
              · have hnan : FP.Core.fIsNaN (rkF 4 (fl (tn (Mm.1 j_x) (Mm.2 j_x) 2)) (fl (tn (Mm.1 j_y) (Mm.2 j_y) 2))) = false := Bool.eq_false_iff.mpr hnan0
                refine lv_iload hx hb dX9_reckon_122 (lv_at hl 2 rfl) ?_
                refine lv_iconst (v := 2) hx hb dX9_reckon_124 (by decide) ?_
                refine lv_icmp_ge (tgt := 162) hx hb dX9_reckon_125 (by decide) (fun c56 => ?_) (fun c56 => absurd (by rw [hmxl]; decide) c56)
                refine lv_iload hx hb dX9_reckon_162 (lv_at hl 2 rfl) ?_
                refine lv_iconst (v := 2) hx hb dX9_reckon_164 (by decide) ?_
                refine lv_icmp_ne (tgt := 186) hx hb dX9_reckon_165 (by decide) (fun c57 => absurd (hmxl) c57) (fun c57 => ?_)
                refine lv_aload_n hx hb dX9_reckon_168 rfl (lv_at hl 3 rfl) ?_
                refine lv_iload_n hx hb dX9_reckon_169 rfl (lv_at hl 4 rfl) ?_
                refine lv_lload hx hb dX9_reckon_170 (lv_at hl 1 rfl) ?_
                refine vp_callSf (W.runS (As := [.long r44]) (rest := [.int 4, .ref o]) ⟨hx, hb, hml, hown, hts⟩ (c9_floatOf l r44 (by rw [hr44, ev42, ev43]; exact (by rw [hmxl]; exact tn2_ok (hVM j_x hj_x)))) (va_cwS 1 hts gX9_reckon_X9_floatOf rfl rfl rfl (by decide +kernel) ⟨Nat.le_of_ble_eq_true rfl, Nat.le_of_ble_eq_true rfl⟩) (preS_of okT (trivial)) rfl rfl hl.1 rfl (lv_room (Nat.le_of_ble_eq_true rfl)) dX9_reckon_172 ⟨Nat.le_of_ble_eq_true rfl, Nat.le_of_ble_eq_true rfl⟩) (fun r58 hr58 => ?_)
                refine lv_lload hx hb dX9_reckon_175 (lv_at hl 0 rfl) ?_
                refine vp_callSf (W.runS (As := [.long r47]) (rest := [.float r58, .int 4, .ref o]) ⟨hx, hb, hml, hown, hts⟩ (c9_floatOf l r47 (by rw [hr47, ev45, ev46]; exact (by rw [hmxl]; exact tn2_ok (hVM j_y hj_y)))) (va_cwS 1 hts gX9_reckon_X9_floatOf rfl rfl rfl (by decide +kernel) ⟨Nat.le_of_ble_eq_true rfl, Nat.le_of_ble_eq_true rfl⟩) (preS_of okT (trivial)) rfl rfl hl.1 rfl (lv_room (Nat.le_of_ble_eq_true rfl)) dX9_reckon_177 ⟨Nat.le_of_ble_eq_true rfl, Nat.le_of_ble_eq_true rfl⟩) (fun r59 hr59 => ?_)
                refine va_callv (va_runV (As := [.int 4, .float r58, .float r59]) (rest := []) ⟨hx, hb, hml, hown, hts⟩ (c9_rF_4 l G cy L F40 H.size o qm 0 Pp.1 0 oc hmo hFo_40 r58 r59 (by rw [hr58, hr44, ev42, ev43, hmxl]; exact tn2_ok (hVM j_x hj_x)) (by rw [hr59, hr47, ev45, ev46, hmxl]; exact tn2_ok (hVM j_y hj_y)) (by rw [hr58, hr44, ev42, ev43, hr59, hr47, ev45, ev46, hmxl]; exact hnan)) (cwV 3 hts gX9_reckon_X9_reckonFloats rfl rfl rfl (by decide +kernel) ⟨Nat.le_of_ble_eq_true rfl, Nat.le_of_ble_eq_true rfl⟩) (preV_of okQ (⟨rfl, hP, hK, hD.top⟩) (pl_recv hK hP (ci := 8) rfl hmo hFo_40)) rfl rfl hl.1 rfl (lv_room (Nat.le_of_ble_eq_true rfl)) dX9_reckon_180 ⟨Nat.le_of_ble_eq_true rfl, Nat.le_of_ble_eq_true rfl⟩) hS (fun q _ h => pl_free hD hS hA q h) (pl_free hD hS hA) (fun F60 t H1 locs ht hvm hw hP1 hz1 hk1 hS => ?_)
                have hP1 : va_P G vwCl (va_pl L F60) t.heap := hP1
                rw [ht] at hP1
                have hP := hP1
                generalize H1 = H at hP hS ⊢
                have eF60 : F60 = va_up F40 o (.inr (8, [.int 0, .ref (qm 0), .ref (qm 1), .ref (qm 2), .ref (qm 3), .ref (qm 4), .ref (qm 5), .ref (qm 6), .ref (qm 7), .int Pp.1, .ref (qm 8), .ref (qm 9), .ref (qm 10), .ref (qm 11), .ref (qm 12), .ref (qm 13), .ref (qm 14), .int 0, .ref (qm 15), .long ((FP.frem r58 r59).toInt32.toInt64)])) := hw
                have hFo_60 : F60 o = .inr (8, [.int 0, .ref (qm 0), .ref (qm 1), .ref (qm 2), .ref (qm 3), .ref (qm 4), .ref (qm 5), .ref (qm 6), .ref (qm 7), .int Pp.1, .ref (qm 8), .ref (qm 9), .ref (qm 10), .ref (qm 11), .ref (qm 12), .ref (qm 13), .ref (qm 14), .int 0, .ref (qm 15), .long ((FP.frem r58 r59).toInt32.toInt64)]) := by rw [eF60]; exact va_up_self _ _ _
                have hFqm0_60 : F60 (qm 0) = cI (cy 1) 10 Mm.1 := by rw [eF60, va_up_ne _ _ (pl_ne hFqm0_40 hFo_40 rfl)]; exact hFqm0_40
                have hFqm1_60 : F60 (qm 1) = cJ (cy 2) 10 Mm.2 := by rw [eF60, va_up_ne _ _ (pl_ne hFqm1_40 hFo_40 rfl)]; exact hFqm1_40
                have hFqm2_60 : F60 (qm 2) = cD (cy 0) 6 Dd.1 := by rw [eF60, va_up_ne _ _ (pl_ne hFqm2_40 hFo_40 rfl)]; exact hFqm2_40
                have hFqm3_60 : F60 (qm 3) = cD (cy 0) 6 Dd.2.1 := by rw [eF60, va_up_ne _ _ (pl_ne hFqm3_40 hFo_40 rfl)]; exact hFqm3_40
                have hFqm4_60 : F60 (qm 4) = cD (cy 0) 6 Dd.2.2.1 := by rw [eF60, va_up_ne _ _ (pl_ne hFqm4_40 hFo_40 rfl)]; exact hFqm4_40
                have hFqm5_60 : F60 (qm 5) = cJ (cy 2) 6 Dd.2.2.2 := by rw [eF60, va_up_ne _ _ (pl_ne hFqm5_40 hFo_40 rfl)]; exact hFqm5_40
                have hFqm6_60 : F60 (qm 6) = cI (cy 1) 8 Sl.1 := by rw [eF60, va_up_ne _ _ (pl_ne hFqm6_40 hFo_40 rfl)]; exact hFqm6_40
                have hFqm7_60 : F60 (qm 7) = cJ (cy 2) 128 Sl.2 := by rw [eF60, va_up_ne _ _ (pl_ne hFqm7_40 hFo_40 rfl)]; exact hFqm7_40
                have hFqm8_60 : F60 (qm 8) = cI (cy 1) 30 Pp.2.1 := by rw [eF60, va_up_ne _ _ (pl_ne hFqm8_40 hFo_40 rfl)]; exact hFqm8_40
                have hFqm9_60 : F60 (qm 9) = cI (cy 3) 30 Pp.2.2 := by rw [eF60, va_up_ne _ _ (pl_ne hFqm9_40 hFo_40 rfl)]; exact hFqm9_40
                have hFqm10_60 : F60 (qm 10) = cI (cy 1) 5 Kr.1 := by rw [eF60, va_up_ne _ _ (pl_ne hFqm10_40 hFo_40 rfl)]; exact hFqm10_40
                have hFqm11_60 : F60 (qm 11) = cI (cy 3) 5 Kr.2.1 := by rw [eF60, va_up_ne _ _ (pl_ne hFqm11_40 hFo_40 rfl)]; exact hFqm11_40
                have hFqm12_60 : F60 (qm 12) = cI (cy 1) 60 Kr.2.2 := by rw [eF60, va_up_ne _ _ (pl_ne hFqm12_40 hFo_40 rfl)]; exact hFqm12_40
                have hFqm13_60 : F60 (qm 13) = cI (cy 1) 4 Bk.1 := by rw [eF60, va_up_ne _ _ (pl_ne hFqm13_40 hFo_40 rfl)]; exact hFqm13_40
                have hFqm14_60 : F60 (qm 14) = cD (cy 0) 4 Bk.2 := by rw [eF60, va_up_ne _ _ (pl_ne hFqm14_40 hFo_40 rfl)]; exact hFqm14_40
                have hFqm15_60 : F60 (qm 15) = cI (cy 1) 6 Xx.2 := by rw [eF60, va_up_ne _ _ (pl_ne hFqm15_40 hFo_40 rfl)]; exact hFqm15_40
                refine lv_goto (tgt := 201) hx hb dX9_reckon_183 (by decide) ?_
                refine lv_aload_n hx hb dX9_reckon_201 rfl (lv_at hl 3 rfl) ?_
                refine pg_get (ci := 8) (C := RX9) (T := TX9) (N := 20) hx hb hts hinX9 hown hK hP hmo hFo_60 rfl 17 (by decide) (hts (.fieldLink RX9 65 "RopeDrumsModel" "failed" "I") (by decide +kernel)) (fun _ h9 => h9) rfl dX9_reckon_202 ?_
                refine lv_if_ne (tgt := 228) hx hb dX9_reckon_205 (by decide) (fun c61 => absurd (by decide) c61) (fun c61 => ?_)
                refine lv_aload_n hx hb dX9_reckon_208 rfl (lv_at hl 3 rfl) ?_
                refine pg_get (ci := 8) (C := RX9) (T := TX9) (N := 20) hx hb hts hinX9 hown hK hP hmo hFo_60 rfl 1 (by decide) (hts (.fieldLink RX9 7 "RopeDrumsModel" "laneOf" "[I") (by decide +kernel)) (fun _ h9 => h9) rfl dX9_reckon_209 ?_
                refine lv_iload hx hb dX9_reckon_212 (lv_at hl 7 rfl) ?_
                refine lv_iload hx hb dX9_reckon_214 (lv_at hl 2 rfl) ?_
                refine pg_iast hx hb hK hP hD hS 1 hm0 hFqm0_60 rfl (vp_in_nI (by omega) (by decide)) dX9_reckon_216 (fun H locs F62 eF62 hP hS => ?_)
                rw [nI_clamp (by omega)] at eF62
                have hFo_62 : F62 o = .inr (8, [.int 0, .ref (qm 0), .ref (qm 1), .ref (qm 2), .ref (qm 3), .ref (qm 4), .ref (qm 5), .ref (qm 6), .ref (qm 7), .int Pp.1, .ref (qm 8), .ref (qm 9), .ref (qm 10), .ref (qm 11), .ref (qm 12), .ref (qm 13), .ref (qm 14), .int 0, .ref (qm 15), .long ((FP.frem r58 r59).toInt32.toInt64)]) := by rw [eF62, va_up_ne _ _ (pl_ne hFo_60 hFqm0_60 rfl)]; exact hFo_60
                have hFqm0_62 : F62 (qm 0) = cI (cy 1) 10 (upd Mm.1 j_into (mx (Mm.1 j_x) (Mm.1 j_y))) := by rw [eF62]; exact va_up_self _ _ _
                have hFqm1_62 : F62 (qm 1) = cJ (cy 2) 10 Mm.2 := by rw [eF62, va_up_ne _ _ (pl_ne hFqm1_60 hFqm0_60 rfl)]; exact hFqm1_60
                have hFqm2_62 : F62 (qm 2) = cD (cy 0) 6 Dd.1 := by rw [eF62, va_up_ne _ _ (pl_ne hFqm2_60 hFqm0_60 rfl)]; exact hFqm2_60
                have hFqm3_62 : F62 (qm 3) = cD (cy 0) 6 Dd.2.1 := by rw [eF62, va_up_ne _ _ (pl_ne hFqm3_60 hFqm0_60 rfl)]; exact hFqm3_60
                have hFqm4_62 : F62 (qm 4) = cD (cy 0) 6 Dd.2.2.1 := by rw [eF62, va_up_ne _ _ (pl_ne hFqm4_60 hFqm0_60 rfl)]; exact hFqm4_60
                have hFqm5_62 : F62 (qm 5) = cJ (cy 2) 6 Dd.2.2.2 := by rw [eF62, va_up_ne _ _ (pl_ne hFqm5_60 hFqm0_60 rfl)]; exact hFqm5_60
                have hFqm6_62 : F62 (qm 6) = cI (cy 1) 8 Sl.1 := by rw [eF62, va_up_ne _ _ (pl_ne hFqm6_60 hFqm0_60 rfl)]; exact hFqm6_60
                have hFqm7_62 : F62 (qm 7) = cJ (cy 2) 128 Sl.2 := by rw [eF62, va_up_ne _ _ (pl_ne hFqm7_60 hFqm0_60 rfl)]; exact hFqm7_60
                have hFqm8_62 : F62 (qm 8) = cI (cy 1) 30 Pp.2.1 := by rw [eF62, va_up_ne _ _ (pl_ne hFqm8_60 hFqm0_60 rfl)]; exact hFqm8_60
                have hFqm9_62 : F62 (qm 9) = cI (cy 3) 30 Pp.2.2 := by rw [eF62, va_up_ne _ _ (pl_ne hFqm9_60 hFqm0_60 rfl)]; exact hFqm9_60
                have hFqm10_62 : F62 (qm 10) = cI (cy 1) 5 Kr.1 := by rw [eF62, va_up_ne _ _ (pl_ne hFqm10_60 hFqm0_60 rfl)]; exact hFqm10_60
                have hFqm11_62 : F62 (qm 11) = cI (cy 3) 5 Kr.2.1 := by rw [eF62, va_up_ne _ _ (pl_ne hFqm11_60 hFqm0_60 rfl)]; exact hFqm11_60
                have hFqm12_62 : F62 (qm 12) = cI (cy 1) 60 Kr.2.2 := by rw [eF62, va_up_ne _ _ (pl_ne hFqm12_60 hFqm0_60 rfl)]; exact hFqm12_60
                have hFqm13_62 : F62 (qm 13) = cI (cy 1) 4 Bk.1 := by rw [eF62, va_up_ne _ _ (pl_ne hFqm13_60 hFqm0_60 rfl)]; exact hFqm13_60
                have hFqm14_62 : F62 (qm 14) = cD (cy 0) 4 Bk.2 := by rw [eF62, va_up_ne _ _ (pl_ne hFqm14_60 hFqm0_60 rfl)]; exact hFqm14_60
                have hFqm15_62 : F62 (qm 15) = cI (cy 1) 6 Xx.2 := by rw [eF62, va_up_ne _ _ (pl_ne hFqm15_60 hFqm0_60 rfl)]; exact hFqm15_60
                refine lv_aload_n hx hb dX9_reckon_217 rfl (lv_at hl 3 rfl) ?_
                refine pg_get (ci := 8) (C := RX9) (T := TX9) (N := 20) hx hb hts hinX9 hown hK hP hmo hFo_62 rfl 2 (by decide) (hts (.fieldLink RX9 13 "RopeDrumsModel" "held" "[J") (by decide +kernel)) (fun _ h9 => h9) rfl dX9_reckon_218 ?_
                refine lv_iload hx hb dX9_reckon_221 (lv_at hl 7 rfl) ?_
                refine lv_aload_n hx hb dX9_reckon_223 rfl (lv_at hl 3 rfl) ?_
                refine pg_get (ci := 8) (C := RX9) (T := TX9) (N := 20) hx hb hts hinX9 hown hK hP hmo hFo_62 rfl 19 (by decide) (hts (.fieldLink RX9 131 "RopeDrumsModel" "outcome" "J") (by decide +kernel)) (fun _ h9 => h9) rfl dX9_reckon_224 ?_
                refine pg_last hx hb hK hP hD hS 2 hm1 hFqm1_62 rfl (vp_in_nI (by omega) (by decide)) dX9_reckon_227 (fun H locs F63 eF63 hP hS => ?_)
                rw [nI_clamp (by omega)] at eF63
                have hFo_63 : F63 o = .inr (8, [.int 0, .ref (qm 0), .ref (qm 1), .ref (qm 2), .ref (qm 3), .ref (qm 4), .ref (qm 5), .ref (qm 6), .ref (qm 7), .int Pp.1, .ref (qm 8), .ref (qm 9), .ref (qm 10), .ref (qm 11), .ref (qm 12), .ref (qm 13), .ref (qm 14), .int 0, .ref (qm 15), .long ((FP.frem r58 r59).toInt32.toInt64)]) := by rw [eF63, va_up_ne _ _ (pl_ne hFo_62 hFqm1_62 rfl)]; exact hFo_62
                have hFqm0_63 : F63 (qm 0) = cI (cy 1) 10 (upd Mm.1 j_into (mx (Mm.1 j_x) (Mm.1 j_y))) := by rw [eF63, va_up_ne _ _ (pl_ne hFqm0_62 hFqm1_62 rfl)]; exact hFqm0_62
                have hFqm1_63 : F63 (qm 1) = cJ (cy 2) 10 (vp_updL Mm.2 j_into ((FP.frem r58 r59).toInt32.toInt64)) := by rw [eF63]; exact va_up_self _ _ _
                have hFqm2_63 : F63 (qm 2) = cD (cy 0) 6 Dd.1 := by rw [eF63, va_up_ne _ _ (pl_ne hFqm2_62 hFqm1_62 rfl)]; exact hFqm2_62
                have hFqm3_63 : F63 (qm 3) = cD (cy 0) 6 Dd.2.1 := by rw [eF63, va_up_ne _ _ (pl_ne hFqm3_62 hFqm1_62 rfl)]; exact hFqm3_62
                have hFqm4_63 : F63 (qm 4) = cD (cy 0) 6 Dd.2.2.1 := by rw [eF63, va_up_ne _ _ (pl_ne hFqm4_62 hFqm1_62 rfl)]; exact hFqm4_62
                have hFqm5_63 : F63 (qm 5) = cJ (cy 2) 6 Dd.2.2.2 := by rw [eF63, va_up_ne _ _ (pl_ne hFqm5_62 hFqm1_62 rfl)]; exact hFqm5_62
                have hFqm6_63 : F63 (qm 6) = cI (cy 1) 8 Sl.1 := by rw [eF63, va_up_ne _ _ (pl_ne hFqm6_62 hFqm1_62 rfl)]; exact hFqm6_62
                have hFqm7_63 : F63 (qm 7) = cJ (cy 2) 128 Sl.2 := by rw [eF63, va_up_ne _ _ (pl_ne hFqm7_62 hFqm1_62 rfl)]; exact hFqm7_62
                have hFqm8_63 : F63 (qm 8) = cI (cy 1) 30 Pp.2.1 := by rw [eF63, va_up_ne _ _ (pl_ne hFqm8_62 hFqm1_62 rfl)]; exact hFqm8_62
                have hFqm9_63 : F63 (qm 9) = cI (cy 3) 30 Pp.2.2 := by rw [eF63, va_up_ne _ _ (pl_ne hFqm9_62 hFqm1_62 rfl)]; exact hFqm9_62
                have hFqm10_63 : F63 (qm 10) = cI (cy 1) 5 Kr.1 := by rw [eF63, va_up_ne _ _ (pl_ne hFqm10_62 hFqm1_62 rfl)]; exact hFqm10_62
                have hFqm11_63 : F63 (qm 11) = cI (cy 3) 5 Kr.2.1 := by rw [eF63, va_up_ne _ _ (pl_ne hFqm11_62 hFqm1_62 rfl)]; exact hFqm11_62
                have hFqm12_63 : F63 (qm 12) = cI (cy 1) 60 Kr.2.2 := by rw [eF63, va_up_ne _ _ (pl_ne hFqm12_62 hFqm1_62 rfl)]; exact hFqm12_62
                have hFqm13_63 : F63 (qm 13) = cI (cy 1) 4 Bk.1 := by rw [eF63, va_up_ne _ _ (pl_ne hFqm13_62 hFqm1_62 rfl)]; exact hFqm13_62
                have hFqm14_63 : F63 (qm 14) = cD (cy 0) 4 Bk.2 := by rw [eF63, va_up_ne _ _ (pl_ne hFqm14_62 hFqm1_62 rfl)]; exact hFqm14_62
                have hFqm15_63 : F63 (qm 15) = cI (cy 1) 6 Xx.2 := by rw [eF63, va_up_ne _ _ (pl_ne hFqm15_62 hFqm1_62 rfl)]; exact hFqm15_62
                refine lv_aload_n hx hb dX9_reckon_228 rfl (lv_at hl 3 rfl) ?_
                refine lv_iload hx hb dX9_reckon_229 (lv_at hl 2 rfl) ?_
                refine va_calli (va_runV (As := [.int (mx (Mm.1 j_x) (Mm.1 j_y))]) (rest := []) ⟨hx, hb, hml, hown, hts⟩ (c9_answers_0 l G cy L F63 H.size o qm 0 Pp.1 ((FP.frem r58 r59).toInt32.toInt64) hmo hFo_63 Xx.2 hm15 hFqm15_63 (mx (Mm.1 j_x) (Mm.1 j_y))) (cwV 1 hts gX9_reckon_X9_answers rfl rfl rfl (by decide +kernel) ⟨Nat.le_of_ble_eq_true rfl, Nat.le_of_ble_eq_true rfl⟩) (preV_of okQ (⟨rfl, hP, hK, hD.top⟩) (pl_recv hK hP (ci := 8) rfl hmo hFo_63)) rfl rfl hl.1 rfl (lv_room (Nat.le_of_ble_eq_true rfl)) dX9_reckon_231 ⟨Nat.le_of_ble_eq_true rfl, Nat.le_of_ble_eq_true rfl⟩) hS (fun q _ h => pl_free hD hS hA q h) (pl_free hD hS hA) (fun r65 F64 t H1 locs ht hvm hw hP1 hz1 hk1 hS => ?_)
                have hP1 : va_P G vwCl (va_pl L F64) t.heap := hP1
                rw [ht] at hP1
                have hP := hP1
                generalize H1 = H at hP hS ⊢
                obtain ⟨hqr65, eF64⟩ := hw
                have hFo_F64 : F64 o = .inr (8, [.int 0, .ref (qm 0), .ref (qm 1), .ref (qm 2), .ref (qm 3), .ref (qm 4), .ref (qm 5), .ref (qm 6), .ref (qm 7), .int Pp.1, .ref (qm 8), .ref (qm 9), .ref (qm 10), .ref (qm 11), .ref (qm 12), .ref (qm 13), .ref (qm 14), .int 0, .ref (qm 15), .long ((FP.frem r58 r59).toInt32.toInt64)]) := by rw [eF64]; exact hFo_63
                have hFqm0_F64 : F64 (qm 0) = cI (cy 1) 10 (upd Mm.1 j_into (mx (Mm.1 j_x) (Mm.1 j_y))) := by rw [eF64]; exact hFqm0_63
                have hFqm1_F64 : F64 (qm 1) = cJ (cy 2) 10 (vp_updL Mm.2 j_into ((FP.frem r58 r59).toInt32.toInt64)) := by rw [eF64]; exact hFqm1_63
                have hFqm2_F64 : F64 (qm 2) = cD (cy 0) 6 Dd.1 := by rw [eF64]; exact hFqm2_63
                have hFqm3_F64 : F64 (qm 3) = cD (cy 0) 6 Dd.2.1 := by rw [eF64]; exact hFqm3_63
                have hFqm4_F64 : F64 (qm 4) = cD (cy 0) 6 Dd.2.2.1 := by rw [eF64]; exact hFqm4_63
                have hFqm5_F64 : F64 (qm 5) = cJ (cy 2) 6 Dd.2.2.2 := by rw [eF64]; exact hFqm5_63
                have hFqm6_F64 : F64 (qm 6) = cI (cy 1) 8 Sl.1 := by rw [eF64]; exact hFqm6_63
                have hFqm7_F64 : F64 (qm 7) = cJ (cy 2) 128 Sl.2 := by rw [eF64]; exact hFqm7_63
                have hFqm8_F64 : F64 (qm 8) = cI (cy 1) 30 Pp.2.1 := by rw [eF64]; exact hFqm8_63
                have hFqm9_F64 : F64 (qm 9) = cI (cy 3) 30 Pp.2.2 := by rw [eF64]; exact hFqm9_63
                have hFqm10_F64 : F64 (qm 10) = cI (cy 1) 5 Kr.1 := by rw [eF64]; exact hFqm10_63
                have hFqm11_F64 : F64 (qm 11) = cI (cy 3) 5 Kr.2.1 := by rw [eF64]; exact hFqm11_63
                have hFqm12_F64 : F64 (qm 12) = cI (cy 1) 60 Kr.2.2 := by rw [eF64]; exact hFqm12_63
                have hFqm13_F64 : F64 (qm 13) = cI (cy 1) 4 Bk.1 := by rw [eF64]; exact hFqm13_63
                have hFqm14_F64 : F64 (qm 14) = cD (cy 0) 4 Bk.2 := by rw [eF64]; exact hFqm14_63
                have hFqm15_F64 : F64 (qm 15) = cI (cy 1) 6 Xx.2 := by rw [eF64]; exact hFqm15_63
                have hr65 := hqr65
                exact W.iret (v := r65) hx hb hr (fun t ht hW => ⟨⟨r65, F64, rfl, (by subst hr65 hr59 hr58 hr47 ev46 ev45 hr44 ev43 ev42 ev37; have hsp : sp_reckon Mm Xx 4 (nI j_x) (nI j_y) (nI j_into) = (2, setM Mm j_into 2 (rkF 4 (fl (tn (Mm.1 j_x) (Mm.2 j_x) 2)) (fl (tn (Mm.1 j_y) (Mm.2 j_y) 2))).toInt32.toInt64, goodX Xx) := (by unfold sp_reckon; rw [hi_x, hi_y, hi_into, ixk.2.2.2.2]; show rk Mm Xx 4 j_x j_y j_into = _; unfold rk; rw [if_neg (hmx.2 h1l).2, if_pos hmxl]; exact if_neg (by rw [hnan]; decide)); rw [hsp]; have hh := hFqm1_F64; have hh0 := hFqm0_F64; rw [hmxl] at hh hh0; exact ⟨hmxl, ⟨⟨_, _, hmo, hFo_F64⟩, ⟨hm0, hh0⟩, ⟨hm1, hh⟩, ⟨hm2, hFqm2_F64⟩, ⟨hm3, hFqm3_F64⟩, ⟨hm4, hFqm4_F64⟩, ⟨hm5, hFqm5_F64⟩, ⟨hm6, hFqm6_F64⟩, ⟨hm7, hFqm7_F64⟩, ⟨hm8, hFqm8_F64⟩, ⟨hm9, hFqm9_F64⟩, ⟨hm10, hFqm10_F64⟩, ⟨hm11, hFqm11_F64⟩, ⟨hm12, hFqm12_F64⟩, ⟨hm13, hFqm13_F64⟩, ⟨hm14, hFqm14_F64⟩, ⟨hm15, hFqm15_F64⟩, hne⟩⟩), (by show va_P _ _ _ t.heap; rw [ht]; exact hP)⟩, hS.F ht⟩) hS.2.2 dX9_reckon_234
            · by_cases hnan0 : FP.Core.dIsNaN (rkD 4 (db (tn (Mm.1 j_x) (Mm.2 j_x) 3)) (db (tn (Mm.1 j_y) (Mm.2 j_y) 3))) = true
              · refine lv_iload hx hb dX9_reckon_122 (lv_at hl 2 rfl) ?_
                refine lv_iconst (v := 2) hx hb dX9_reckon_124 (by decide) ?_
                refine lv_icmp_ge (tgt := 162) hx hb dX9_reckon_125 (by decide) (fun c66 => ?_) (fun c66 => absurd (by rw [hmxl]; decide) c66)
                refine lv_iload hx hb dX9_reckon_162 (lv_at hl 2 rfl) ?_
                refine lv_iconst (v := 2) hx hb dX9_reckon_164 (by decide) ?_
                refine lv_icmp_ne (tgt := 186) hx hb dX9_reckon_165 (by decide) (fun c67 => ?_) (fun c67 => absurd c67 (by rw [hmxl]; decide))
                refine lv_aload_n hx hb dX9_reckon_186 rfl (lv_at hl 3 rfl) ?_
                refine lv_iload_n hx hb dX9_reckon_187 rfl (lv_at hl 4 rfl) ?_
                refine lv_lload hx hb dX9_reckon_188 (lv_at hl 1 rfl) ?_
                refine vp_callSd (W.runS (As := [.long r44]) (rest := [.int 4, .ref o]) ⟨hx, hb, hml, hown, hts⟩ (c9_doubleOf l r44 (by rw [hr44, ev42, ev43]; exact (by rw [hmxl]; exact tn3_ok (hVM j_x hj_x)))) (va_cwS 1 hts gX9_reckon_X9_doubleOf rfl rfl rfl (by decide +kernel) ⟨Nat.le_of_ble_eq_true rfl, Nat.le_of_ble_eq_true rfl⟩) (preS_of okT (trivial)) rfl rfl hl.1 rfl (lv_room (Nat.le_of_ble_eq_true rfl)) dX9_reckon_190 ⟨Nat.le_of_ble_eq_true rfl, Nat.le_of_ble_eq_true rfl⟩) (fun r68 hr68 => ?_)
                refine lv_lload hx hb dX9_reckon_193 (lv_at hl 0 rfl) ?_
                refine vp_callSd (W.runS (As := [.long r47]) (rest := [.double r68, .int 4, .ref o]) ⟨hx, hb, hml, hown, hts⟩ (c9_doubleOf l r47 (by rw [hr47, ev45, ev46]; exact (by rw [hmxl]; exact tn3_ok (hVM j_y hj_y)))) (va_cwS 1 hts gX9_reckon_X9_doubleOf rfl rfl rfl (by decide +kernel) ⟨Nat.le_of_ble_eq_true rfl, Nat.le_of_ble_eq_true rfl⟩) (preS_of okT (trivial)) rfl rfl hl.1 rfl (lv_room (Nat.le_of_ble_eq_true rfl)) dX9_reckon_195 ⟨Nat.le_of_ble_eq_true rfl, Nat.le_of_ble_eq_true rfl⟩) (fun r69 hr69 => ?_)
                refine va_callv (va_runV (As := [.int 4, .double r68, .double r69]) (rest := []) ⟨hx, hb, hml, hown, hts⟩ (c9_rD_4_no l G cy L F40 H.size o qm 0 Pp.1 0 oc hmo hFo_40 r68 r69 (by rw [hr68, hr44, ev42, ev43, hmxl]; exact tn3_ok (hVM j_x hj_x)) (by rw [hr69, hr47, ev45, ev46, hmxl]; exact tn3_ok (hVM j_y hj_y)) (by rw [hr68, hr44, ev42, ev43, hr69, hr47, ev45, ev46, hmxl]; exact hnan0)) (cwV 3 hts gX9_reckon_X9_reckonDoubles rfl rfl rfl (by decide +kernel) ⟨Nat.le_of_ble_eq_true rfl, Nat.le_of_ble_eq_true rfl⟩) (preV_of okQ (⟨rfl, hP, hK, hD.top⟩) (pl_recv hK hP (ci := 8) rfl hmo hFo_40)) rfl rfl hl.1 rfl (lv_room (Nat.le_of_ble_eq_true rfl)) dX9_reckon_198 ⟨Nat.le_of_ble_eq_true rfl, Nat.le_of_ble_eq_true rfl⟩) hS (fun q _ h => pl_free hD hS hA q h) (pl_free hD hS hA) (fun F70 t H1 locs ht hvm hw hP1 hz1 hk1 hS => ?_)
                have hP1 : va_P G vwCl (va_pl L F70) t.heap := hP1
                rw [ht] at hP1
                have hP := hP1
                generalize H1 = H at hP hS ⊢
                have eF70 : F70 = va_up F40 o (.inr (8, [.int 0, .ref (qm 0), .ref (qm 1), .ref (qm 2), .ref (qm 3), .ref (qm 4), .ref (qm 5), .ref (qm 6), .ref (qm 7), .int Pp.1, .ref (qm 8), .ref (qm 9), .ref (qm 10), .ref (qm 11), .ref (qm 12), .ref (qm 13), .ref (qm 14), .int 5, .ref (qm 15), .long oc])) := hw
                have hFo_70 : F70 o = .inr (8, [.int 0, .ref (qm 0), .ref (qm 1), .ref (qm 2), .ref (qm 3), .ref (qm 4), .ref (qm 5), .ref (qm 6), .ref (qm 7), .int Pp.1, .ref (qm 8), .ref (qm 9), .ref (qm 10), .ref (qm 11), .ref (qm 12), .ref (qm 13), .ref (qm 14), .int 5, .ref (qm 15), .long oc]) := by rw [eF70]; exact va_up_self _ _ _
                have hFqm0_70 : F70 (qm 0) = cI (cy 1) 10 Mm.1 := by rw [eF70, va_up_ne _ _ (pl_ne hFqm0_40 hFo_40 rfl)]; exact hFqm0_40
                have hFqm1_70 : F70 (qm 1) = cJ (cy 2) 10 Mm.2 := by rw [eF70, va_up_ne _ _ (pl_ne hFqm1_40 hFo_40 rfl)]; exact hFqm1_40
                have hFqm2_70 : F70 (qm 2) = cD (cy 0) 6 Dd.1 := by rw [eF70, va_up_ne _ _ (pl_ne hFqm2_40 hFo_40 rfl)]; exact hFqm2_40
                have hFqm3_70 : F70 (qm 3) = cD (cy 0) 6 Dd.2.1 := by rw [eF70, va_up_ne _ _ (pl_ne hFqm3_40 hFo_40 rfl)]; exact hFqm3_40
                have hFqm4_70 : F70 (qm 4) = cD (cy 0) 6 Dd.2.2.1 := by rw [eF70, va_up_ne _ _ (pl_ne hFqm4_40 hFo_40 rfl)]; exact hFqm4_40
                have hFqm5_70 : F70 (qm 5) = cJ (cy 2) 6 Dd.2.2.2 := by rw [eF70, va_up_ne _ _ (pl_ne hFqm5_40 hFo_40 rfl)]; exact hFqm5_40
                have hFqm6_70 : F70 (qm 6) = cI (cy 1) 8 Sl.1 := by rw [eF70, va_up_ne _ _ (pl_ne hFqm6_40 hFo_40 rfl)]; exact hFqm6_40
                have hFqm7_70 : F70 (qm 7) = cJ (cy 2) 128 Sl.2 := by rw [eF70, va_up_ne _ _ (pl_ne hFqm7_40 hFo_40 rfl)]; exact hFqm7_40
                have hFqm8_70 : F70 (qm 8) = cI (cy 1) 30 Pp.2.1 := by rw [eF70, va_up_ne _ _ (pl_ne hFqm8_40 hFo_40 rfl)]; exact hFqm8_40
                have hFqm9_70 : F70 (qm 9) = cI (cy 3) 30 Pp.2.2 := by rw [eF70, va_up_ne _ _ (pl_ne hFqm9_40 hFo_40 rfl)]; exact hFqm9_40
                have hFqm10_70 : F70 (qm 10) = cI (cy 1) 5 Kr.1 := by rw [eF70, va_up_ne _ _ (pl_ne hFqm10_40 hFo_40 rfl)]; exact hFqm10_40
                have hFqm11_70 : F70 (qm 11) = cI (cy 3) 5 Kr.2.1 := by rw [eF70, va_up_ne _ _ (pl_ne hFqm11_40 hFo_40 rfl)]; exact hFqm11_40
                have hFqm12_70 : F70 (qm 12) = cI (cy 1) 60 Kr.2.2 := by rw [eF70, va_up_ne _ _ (pl_ne hFqm12_40 hFo_40 rfl)]; exact hFqm12_40
                have hFqm13_70 : F70 (qm 13) = cI (cy 1) 4 Bk.1 := by rw [eF70, va_up_ne _ _ (pl_ne hFqm13_40 hFo_40 rfl)]; exact hFqm13_40
                have hFqm14_70 : F70 (qm 14) = cD (cy 0) 4 Bk.2 := by rw [eF70, va_up_ne _ _ (pl_ne hFqm14_40 hFo_40 rfl)]; exact hFqm14_40
                have hFqm15_70 : F70 (qm 15) = cI (cy 1) 6 Xx.2 := by rw [eF70, va_up_ne _ _ (pl_ne hFqm15_40 hFo_40 rfl)]; exact hFqm15_40
                refine lv_aload_n hx hb dX9_reckon_201 rfl (lv_at hl 3 rfl) ?_
                refine pg_get (ci := 8) (C := RX9) (T := TX9) (N := 20) hx hb hts hinX9 hown hK hP hmo hFo_70 rfl 17 (by decide) (hts (.fieldLink RX9 65 "RopeDrumsModel" "failed" "I") (by decide +kernel)) (fun _ h9 => h9) rfl dX9_reckon_202 ?_
                refine lv_if_ne (tgt := 228) hx hb dX9_reckon_205 (by decide) (fun c71 => ?_) (fun c71 => absurd c71 (by decide))
                refine lv_aload_n hx hb dX9_reckon_228 rfl (lv_at hl 3 rfl) ?_
                refine lv_iload hx hb dX9_reckon_229 (lv_at hl 2 rfl) ?_
                refine va_calli (va_runV (As := [.int (mx (Mm.1 j_x) (Mm.1 j_y))]) (rest := []) ⟨hx, hb, hml, hown, hts⟩ (c9_answers_5 l G cy L F70 H.size o qm 0 Pp.1 oc hmo hFo_70 Xx.2 hm15 hFqm15_70 (mx (Mm.1 j_x) (Mm.1 j_y))) (cwV 1 hts gX9_reckon_X9_answers rfl rfl rfl (by decide +kernel) ⟨Nat.le_of_ble_eq_true rfl, Nat.le_of_ble_eq_true rfl⟩) (preV_of okQ (⟨rfl, hP, hK, hD.top⟩) (pl_recv hK hP (ci := 8) rfl hmo hFo_70)) rfl rfl hl.1 rfl (lv_room (Nat.le_of_ble_eq_true rfl)) dX9_reckon_231 ⟨Nat.le_of_ble_eq_true rfl, Nat.le_of_ble_eq_true rfl⟩) hS (fun q _ h => pl_free hD hS hA q h) (pl_free hD hS hA) (fun r73 F72 t H1 locs ht hvm hw hP1 hz1 hk1 hS => ?_)
                have hP1 : va_P G vwCl (va_pl L F72) t.heap := hP1
                rw [ht] at hP1
                have hP := hP1
                generalize H1 = H at hP hS ⊢
                obtain ⟨hqr73, eF72⟩ := hw
                have eF72 : F72 = va_up F70 (qm 15) (cI (cy 1) 6 (upd Xx.2 5 (Xx.2 5 + 1))) := eF72
                have hFo_73 : F72 o = .inr (8, [.int 0, .ref (qm 0), .ref (qm 1), .ref (qm 2), .ref (qm 3), .ref (qm 4), .ref (qm 5), .ref (qm 6), .ref (qm 7), .int Pp.1, .ref (qm 8), .ref (qm 9), .ref (qm 10), .ref (qm 11), .ref (qm 12), .ref (qm 13), .ref (qm 14), .int 5, .ref (qm 15), .long oc]) := by rw [eF72, va_up_ne _ _ (pl_ne hFo_70 hFqm15_70 rfl)]; exact hFo_70
                have hFqm0_73 : F72 (qm 0) = cI (cy 1) 10 Mm.1 := by rw [eF72, va_up_ne _ _ (pl_ne hFqm0_70 hFqm15_70 rfl)]; exact hFqm0_70
                have hFqm1_73 : F72 (qm 1) = cJ (cy 2) 10 Mm.2 := by rw [eF72, va_up_ne _ _ (pl_ne hFqm1_70 hFqm15_70 rfl)]; exact hFqm1_70
                have hFqm2_73 : F72 (qm 2) = cD (cy 0) 6 Dd.1 := by rw [eF72, va_up_ne _ _ (pl_ne hFqm2_70 hFqm15_70 rfl)]; exact hFqm2_70
                have hFqm3_73 : F72 (qm 3) = cD (cy 0) 6 Dd.2.1 := by rw [eF72, va_up_ne _ _ (pl_ne hFqm3_70 hFqm15_70 rfl)]; exact hFqm3_70
                have hFqm4_73 : F72 (qm 4) = cD (cy 0) 6 Dd.2.2.1 := by rw [eF72, va_up_ne _ _ (pl_ne hFqm4_70 hFqm15_70 rfl)]; exact hFqm4_70
                have hFqm5_73 : F72 (qm 5) = cJ (cy 2) 6 Dd.2.2.2 := by rw [eF72, va_up_ne _ _ (pl_ne hFqm5_70 hFqm15_70 rfl)]; exact hFqm5_70
                have hFqm6_73 : F72 (qm 6) = cI (cy 1) 8 Sl.1 := by rw [eF72, va_up_ne _ _ (pl_ne hFqm6_70 hFqm15_70 rfl)]; exact hFqm6_70
                have hFqm7_73 : F72 (qm 7) = cJ (cy 2) 128 Sl.2 := by rw [eF72, va_up_ne _ _ (pl_ne hFqm7_70 hFqm15_70 rfl)]; exact hFqm7_70
                have hFqm8_73 : F72 (qm 8) = cI (cy 1) 30 Pp.2.1 := by rw [eF72, va_up_ne _ _ (pl_ne hFqm8_70 hFqm15_70 rfl)]; exact hFqm8_70
                have hFqm9_73 : F72 (qm 9) = cI (cy 3) 30 Pp.2.2 := by rw [eF72, va_up_ne _ _ (pl_ne hFqm9_70 hFqm15_70 rfl)]; exact hFqm9_70
                have hFqm10_73 : F72 (qm 10) = cI (cy 1) 5 Kr.1 := by rw [eF72, va_up_ne _ _ (pl_ne hFqm10_70 hFqm15_70 rfl)]; exact hFqm10_70
                have hFqm11_73 : F72 (qm 11) = cI (cy 3) 5 Kr.2.1 := by rw [eF72, va_up_ne _ _ (pl_ne hFqm11_70 hFqm15_70 rfl)]; exact hFqm11_70
                have hFqm12_73 : F72 (qm 12) = cI (cy 1) 60 Kr.2.2 := by rw [eF72, va_up_ne _ _ (pl_ne hFqm12_70 hFqm15_70 rfl)]; exact hFqm12_70
                have hFqm13_73 : F72 (qm 13) = cI (cy 1) 4 Bk.1 := by rw [eF72, va_up_ne _ _ (pl_ne hFqm13_70 hFqm15_70 rfl)]; exact hFqm13_70
                have hFqm14_73 : F72 (qm 14) = cD (cy 0) 4 Bk.2 := by rw [eF72, va_up_ne _ _ (pl_ne hFqm14_70 hFqm15_70 rfl)]; exact hFqm14_70
                have hFqm15_73 : F72 (qm 15) = cI (cy 1) 6 (upd Xx.2 5 (Xx.2 5 + 1)) := by rw [eF72]; exact va_up_self _ _ _
                have hr73 := hqr73
                exact W.iret (v := r73) hx hb hr (fun t ht hW => ⟨⟨r73, F72, rfl, (by subst hr73 hr69 hr68 hr47 ev46 ev45 hr44 ev43 ev42 ev37; have hsp : sp_reckon Mm Xx 4 (nI j_x) (nI j_y) (nI j_into) = (-15, Mm, failX Xx 5) := (by unfold sp_reckon; rw [hi_x, hi_y, hi_into, ixk.2.2.2.2]; show rk Mm Xx 4 j_x j_y j_into = _; unfold rk; rw [if_neg (hmx.2 h1l).2, if_neg (by rw [hmxl]; decide)]; exact if_pos hnan0); rw [hsp]; exact ⟨rfl, (by exact ⟨⟨_, _, hmo, hFo_73⟩, ⟨hm0, hFqm0_73⟩, ⟨hm1, hFqm1_73⟩, ⟨hm2, hFqm2_73⟩, ⟨hm3, hFqm3_73⟩, ⟨hm4, hFqm4_73⟩, ⟨hm5, hFqm5_73⟩, ⟨hm6, hFqm6_73⟩, ⟨hm7, hFqm7_73⟩, ⟨hm8, hFqm8_73⟩, ⟨hm9, hFqm9_73⟩, ⟨hm10, hFqm10_73⟩, ⟨hm11, hFqm11_73⟩, ⟨hm12, hFqm12_73⟩, ⟨hm13, hFqm13_73⟩, ⟨hm14, hFqm14_73⟩, ⟨hm15, hFqm15_73⟩, hne⟩)⟩), (by show va_P _ _ _ t.heap; rw [ht]; exact hP)⟩, hS.F ht⟩) hS.2.2 dX9_reckon_234
              · have hnan : FP.Core.dIsNaN (rkD 4 (db (tn (Mm.1 j_x) (Mm.2 j_x) 3)) (db (tn (Mm.1 j_y) (Mm.2 j_y) 3))) = false := Bool.eq_false_iff.mpr hnan0
                refine lv_iload hx hb dX9_reckon_122 (lv_at hl 2 rfl) ?_
                refine lv_iconst (v := 2) hx hb dX9_reckon_124 (by decide) ?_
                refine lv_icmp_ge (tgt := 162) hx hb dX9_reckon_125 (by decide) (fun c74 => ?_) (fun c74 => absurd (by rw [hmxl]; decide) c74)
                refine lv_iload hx hb dX9_reckon_162 (lv_at hl 2 rfl) ?_
                refine lv_iconst (v := 2) hx hb dX9_reckon_164 (by decide) ?_
                refine lv_icmp_ne (tgt := 186) hx hb dX9_reckon_165 (by decide) (fun c75 => ?_) (fun c75 => absurd c75 (by rw [hmxl]; decide))
                refine lv_aload_n hx hb dX9_reckon_186 rfl (lv_at hl 3 rfl) ?_
                refine lv_iload_n hx hb dX9_reckon_187 rfl (lv_at hl 4 rfl) ?_
                refine lv_lload hx hb dX9_reckon_188 (lv_at hl 1 rfl) ?_
                refine vp_callSd (W.runS (As := [.long r44]) (rest := [.int 4, .ref o]) ⟨hx, hb, hml, hown, hts⟩ (c9_doubleOf l r44 (by rw [hr44, ev42, ev43]; exact (by rw [hmxl]; exact tn3_ok (hVM j_x hj_x)))) (va_cwS 1 hts gX9_reckon_X9_doubleOf rfl rfl rfl (by decide +kernel) ⟨Nat.le_of_ble_eq_true rfl, Nat.le_of_ble_eq_true rfl⟩) (preS_of okT (trivial)) rfl rfl hl.1 rfl (lv_room (Nat.le_of_ble_eq_true rfl)) dX9_reckon_190 ⟨Nat.le_of_ble_eq_true rfl, Nat.le_of_ble_eq_true rfl⟩) (fun r76 hr76 => ?_)
                refine lv_lload hx hb dX9_reckon_193 (lv_at hl 0 rfl) ?_
                refine vp_callSd (W.runS (As := [.long r47]) (rest := [.double r76, .int 4, .ref o]) ⟨hx, hb, hml, hown, hts⟩ (c9_doubleOf l r47 (by rw [hr47, ev45, ev46]; exact (by rw [hmxl]; exact tn3_ok (hVM j_y hj_y)))) (va_cwS 1 hts gX9_reckon_X9_doubleOf rfl rfl rfl (by decide +kernel) ⟨Nat.le_of_ble_eq_true rfl, Nat.le_of_ble_eq_true rfl⟩) (preS_of okT (trivial)) rfl rfl hl.1 rfl (lv_room (Nat.le_of_ble_eq_true rfl)) dX9_reckon_195 ⟨Nat.le_of_ble_eq_true rfl, Nat.le_of_ble_eq_true rfl⟩) (fun r77 hr77 => ?_)
                refine va_callv (va_runV (As := [.int 4, .double r76, .double r77]) (rest := []) ⟨hx, hb, hml, hown, hts⟩ (c9_rD_4 l G cy L F40 H.size o qm 0 Pp.1 0 oc hmo hFo_40 r76 r77 (by rw [hr76, hr44, ev42, ev43, hmxl]; exact tn3_ok (hVM j_x hj_x)) (by rw [hr77, hr47, ev45, ev46, hmxl]; exact tn3_ok (hVM j_y hj_y)) (by rw [hr76, hr44, ev42, ev43, hr77, hr47, ev45, ev46, hmxl]; exact hnan)) (cwV 3 hts gX9_reckon_X9_reckonDoubles rfl rfl rfl (by decide +kernel) ⟨Nat.le_of_ble_eq_true rfl, Nat.le_of_ble_eq_true rfl⟩) (preV_of okQ (⟨rfl, hP, hK, hD.top⟩) (pl_recv hK hP (ci := 8) rfl hmo hFo_40)) rfl rfl hl.1 rfl (lv_room (Nat.le_of_ble_eq_true rfl)) dX9_reckon_198 ⟨Nat.le_of_ble_eq_true rfl, Nat.le_of_ble_eq_true rfl⟩) hS (fun q _ h => pl_free hD hS hA q h) (pl_free hD hS hA) (fun F78 t H1 locs ht hvm hw hP1 hz1 hk1 hS => ?_)
                have hP1 : va_P G vwCl (va_pl L F78) t.heap := hP1
                rw [ht] at hP1
                have hP := hP1
                generalize H1 = H at hP hS ⊢
                have eF78 : F78 = va_up F40 o (.inr (8, [.int 0, .ref (qm 0), .ref (qm 1), .ref (qm 2), .ref (qm 3), .ref (qm 4), .ref (qm 5), .ref (qm 6), .ref (qm 7), .int Pp.1, .ref (qm 8), .ref (qm 9), .ref (qm 10), .ref (qm 11), .ref (qm 12), .ref (qm 13), .ref (qm 14), .int 0, .ref (qm 15), .long ((FP.drem r76 r77).toInt64)])) := hw
                have hFo_78 : F78 o = .inr (8, [.int 0, .ref (qm 0), .ref (qm 1), .ref (qm 2), .ref (qm 3), .ref (qm 4), .ref (qm 5), .ref (qm 6), .ref (qm 7), .int Pp.1, .ref (qm 8), .ref (qm 9), .ref (qm 10), .ref (qm 11), .ref (qm 12), .ref (qm 13), .ref (qm 14), .int 0, .ref (qm 15), .long ((FP.drem r76 r77).toInt64)]) := by rw [eF78]; exact va_up_self _ _ _
                have hFqm0_78 : F78 (qm 0) = cI (cy 1) 10 Mm.1 := by rw [eF78, va_up_ne _ _ (pl_ne hFqm0_40 hFo_40 rfl)]; exact hFqm0_40
                have hFqm1_78 : F78 (qm 1) = cJ (cy 2) 10 Mm.2 := by rw [eF78, va_up_ne _ _ (pl_ne hFqm1_40 hFo_40 rfl)]; exact hFqm1_40
                have hFqm2_78 : F78 (qm 2) = cD (cy 0) 6 Dd.1 := by rw [eF78, va_up_ne _ _ (pl_ne hFqm2_40 hFo_40 rfl)]; exact hFqm2_40
                have hFqm3_78 : F78 (qm 3) = cD (cy 0) 6 Dd.2.1 := by rw [eF78, va_up_ne _ _ (pl_ne hFqm3_40 hFo_40 rfl)]; exact hFqm3_40
                have hFqm4_78 : F78 (qm 4) = cD (cy 0) 6 Dd.2.2.1 := by rw [eF78, va_up_ne _ _ (pl_ne hFqm4_40 hFo_40 rfl)]; exact hFqm4_40
                have hFqm5_78 : F78 (qm 5) = cJ (cy 2) 6 Dd.2.2.2 := by rw [eF78, va_up_ne _ _ (pl_ne hFqm5_40 hFo_40 rfl)]; exact hFqm5_40
                have hFqm6_78 : F78 (qm 6) = cI (cy 1) 8 Sl.1 := by rw [eF78, va_up_ne _ _ (pl_ne hFqm6_40 hFo_40 rfl)]; exact hFqm6_40
                have hFqm7_78 : F78 (qm 7) = cJ (cy 2) 128 Sl.2 := by rw [eF78, va_up_ne _ _ (pl_ne hFqm7_40 hFo_40 rfl)]; exact hFqm7_40
                have hFqm8_78 : F78 (qm 8) = cI (cy 1) 30 Pp.2.1 := by rw [eF78, va_up_ne _ _ (pl_ne hFqm8_40 hFo_40 rfl)]; exact hFqm8_40
                have hFqm9_78 : F78 (qm 9) = cI (cy 3) 30 Pp.2.2 := by rw [eF78, va_up_ne _ _ (pl_ne hFqm9_40 hFo_40 rfl)]; exact hFqm9_40
                have hFqm10_78 : F78 (qm 10) = cI (cy 1) 5 Kr.1 := by rw [eF78, va_up_ne _ _ (pl_ne hFqm10_40 hFo_40 rfl)]; exact hFqm10_40
                have hFqm11_78 : F78 (qm 11) = cI (cy 3) 5 Kr.2.1 := by rw [eF78, va_up_ne _ _ (pl_ne hFqm11_40 hFo_40 rfl)]; exact hFqm11_40
                have hFqm12_78 : F78 (qm 12) = cI (cy 1) 60 Kr.2.2 := by rw [eF78, va_up_ne _ _ (pl_ne hFqm12_40 hFo_40 rfl)]; exact hFqm12_40
                have hFqm13_78 : F78 (qm 13) = cI (cy 1) 4 Bk.1 := by rw [eF78, va_up_ne _ _ (pl_ne hFqm13_40 hFo_40 rfl)]; exact hFqm13_40
                have hFqm14_78 : F78 (qm 14) = cD (cy 0) 4 Bk.2 := by rw [eF78, va_up_ne _ _ (pl_ne hFqm14_40 hFo_40 rfl)]; exact hFqm14_40
                have hFqm15_78 : F78 (qm 15) = cI (cy 1) 6 Xx.2 := by rw [eF78, va_up_ne _ _ (pl_ne hFqm15_40 hFo_40 rfl)]; exact hFqm15_40
                refine lv_aload_n hx hb dX9_reckon_201 rfl (lv_at hl 3 rfl) ?_
                refine pg_get (ci := 8) (C := RX9) (T := TX9) (N := 20) hx hb hts hinX9 hown hK hP hmo hFo_78 rfl 17 (by decide) (hts (.fieldLink RX9 65 "RopeDrumsModel" "failed" "I") (by decide +kernel)) (fun _ h9 => h9) rfl dX9_reckon_202 ?_
                refine lv_if_ne (tgt := 228) hx hb dX9_reckon_205 (by decide) (fun c79 => absurd (by decide) c79) (fun c79 => ?_)
                refine lv_aload_n hx hb dX9_reckon_208 rfl (lv_at hl 3 rfl) ?_
                refine pg_get (ci := 8) (C := RX9) (T := TX9) (N := 20) hx hb hts hinX9 hown hK hP hmo hFo_78 rfl 1 (by decide) (hts (.fieldLink RX9 7 "RopeDrumsModel" "laneOf" "[I") (by decide +kernel)) (fun _ h9 => h9) rfl dX9_reckon_209 ?_
                refine lv_iload hx hb dX9_reckon_212 (lv_at hl 7 rfl) ?_
                refine lv_iload hx hb dX9_reckon_214 (lv_at hl 2 rfl) ?_
                refine pg_iast hx hb hK hP hD hS 1 hm0 hFqm0_78 rfl (vp_in_nI (by omega) (by decide)) dX9_reckon_216 (fun H locs F80 eF80 hP hS => ?_)
                rw [nI_clamp (by omega)] at eF80
                have hFo_80 : F80 o = .inr (8, [.int 0, .ref (qm 0), .ref (qm 1), .ref (qm 2), .ref (qm 3), .ref (qm 4), .ref (qm 5), .ref (qm 6), .ref (qm 7), .int Pp.1, .ref (qm 8), .ref (qm 9), .ref (qm 10), .ref (qm 11), .ref (qm 12), .ref (qm 13), .ref (qm 14), .int 0, .ref (qm 15), .long ((FP.drem r76 r77).toInt64)]) := by rw [eF80, va_up_ne _ _ (pl_ne hFo_78 hFqm0_78 rfl)]; exact hFo_78
                have hFqm0_80 : F80 (qm 0) = cI (cy 1) 10 (upd Mm.1 j_into (mx (Mm.1 j_x) (Mm.1 j_y))) := by rw [eF80]; exact va_up_self _ _ _
                have hFqm1_80 : F80 (qm 1) = cJ (cy 2) 10 Mm.2 := by rw [eF80, va_up_ne _ _ (pl_ne hFqm1_78 hFqm0_78 rfl)]; exact hFqm1_78
                have hFqm2_80 : F80 (qm 2) = cD (cy 0) 6 Dd.1 := by rw [eF80, va_up_ne _ _ (pl_ne hFqm2_78 hFqm0_78 rfl)]; exact hFqm2_78
                have hFqm3_80 : F80 (qm 3) = cD (cy 0) 6 Dd.2.1 := by rw [eF80, va_up_ne _ _ (pl_ne hFqm3_78 hFqm0_78 rfl)]; exact hFqm3_78
                have hFqm4_80 : F80 (qm 4) = cD (cy 0) 6 Dd.2.2.1 := by rw [eF80, va_up_ne _ _ (pl_ne hFqm4_78 hFqm0_78 rfl)]; exact hFqm4_78
                have hFqm5_80 : F80 (qm 5) = cJ (cy 2) 6 Dd.2.2.2 := by rw [eF80, va_up_ne _ _ (pl_ne hFqm5_78 hFqm0_78 rfl)]; exact hFqm5_78
                have hFqm6_80 : F80 (qm 6) = cI (cy 1) 8 Sl.1 := by rw [eF80, va_up_ne _ _ (pl_ne hFqm6_78 hFqm0_78 rfl)]; exact hFqm6_78
                have hFqm7_80 : F80 (qm 7) = cJ (cy 2) 128 Sl.2 := by rw [eF80, va_up_ne _ _ (pl_ne hFqm7_78 hFqm0_78 rfl)]; exact hFqm7_78
                have hFqm8_80 : F80 (qm 8) = cI (cy 1) 30 Pp.2.1 := by rw [eF80, va_up_ne _ _ (pl_ne hFqm8_78 hFqm0_78 rfl)]; exact hFqm8_78
                have hFqm9_80 : F80 (qm 9) = cI (cy 3) 30 Pp.2.2 := by rw [eF80, va_up_ne _ _ (pl_ne hFqm9_78 hFqm0_78 rfl)]; exact hFqm9_78
                have hFqm10_80 : F80 (qm 10) = cI (cy 1) 5 Kr.1 := by rw [eF80, va_up_ne _ _ (pl_ne hFqm10_78 hFqm0_78 rfl)]; exact hFqm10_78
                have hFqm11_80 : F80 (qm 11) = cI (cy 3) 5 Kr.2.1 := by rw [eF80, va_up_ne _ _ (pl_ne hFqm11_78 hFqm0_78 rfl)]; exact hFqm11_78
                have hFqm12_80 : F80 (qm 12) = cI (cy 1) 60 Kr.2.2 := by rw [eF80, va_up_ne _ _ (pl_ne hFqm12_78 hFqm0_78 rfl)]; exact hFqm12_78
                have hFqm13_80 : F80 (qm 13) = cI (cy 1) 4 Bk.1 := by rw [eF80, va_up_ne _ _ (pl_ne hFqm13_78 hFqm0_78 rfl)]; exact hFqm13_78
                have hFqm14_80 : F80 (qm 14) = cD (cy 0) 4 Bk.2 := by rw [eF80, va_up_ne _ _ (pl_ne hFqm14_78 hFqm0_78 rfl)]; exact hFqm14_78
                have hFqm15_80 : F80 (qm 15) = cI (cy 1) 6 Xx.2 := by rw [eF80, va_up_ne _ _ (pl_ne hFqm15_78 hFqm0_78 rfl)]; exact hFqm15_78
                refine lv_aload_n hx hb dX9_reckon_217 rfl (lv_at hl 3 rfl) ?_
                refine pg_get (ci := 8) (C := RX9) (T := TX9) (N := 20) hx hb hts hinX9 hown hK hP hmo hFo_80 rfl 2 (by decide) (hts (.fieldLink RX9 13 "RopeDrumsModel" "held" "[J") (by decide +kernel)) (fun _ h9 => h9) rfl dX9_reckon_218 ?_
                refine lv_iload hx hb dX9_reckon_221 (lv_at hl 7 rfl) ?_
                refine lv_aload_n hx hb dX9_reckon_223 rfl (lv_at hl 3 rfl) ?_
                refine pg_get (ci := 8) (C := RX9) (T := TX9) (N := 20) hx hb hts hinX9 hown hK hP hmo hFo_80 rfl 19 (by decide) (hts (.fieldLink RX9 131 "RopeDrumsModel" "outcome" "J") (by decide +kernel)) (fun _ h9 => h9) rfl dX9_reckon_224 ?_
                refine pg_last hx hb hK hP hD hS 2 hm1 hFqm1_80 rfl (vp_in_nI (by omega) (by decide)) dX9_reckon_227 (fun H locs F81 eF81 hP hS => ?_)
                rw [nI_clamp (by omega)] at eF81
                have hFo_81 : F81 o = .inr (8, [.int 0, .ref (qm 0), .ref (qm 1), .ref (qm 2), .ref (qm 3), .ref (qm 4), .ref (qm 5), .ref (qm 6), .ref (qm 7), .int Pp.1, .ref (qm 8), .ref (qm 9), .ref (qm 10), .ref (qm 11), .ref (qm 12), .ref (qm 13), .ref (qm 14), .int 0, .ref (qm 15), .long ((FP.drem r76 r77).toInt64)]) := by rw [eF81, va_up_ne _ _ (pl_ne hFo_80 hFqm1_80 rfl)]; exact hFo_80
                have hFqm0_81 : F81 (qm 0) = cI (cy 1) 10 (upd Mm.1 j_into (mx (Mm.1 j_x) (Mm.1 j_y))) := by rw [eF81, va_up_ne _ _ (pl_ne hFqm0_80 hFqm1_80 rfl)]; exact hFqm0_80
                have hFqm1_81 : F81 (qm 1) = cJ (cy 2) 10 (vp_updL Mm.2 j_into ((FP.drem r76 r77).toInt64)) := by rw [eF81]; exact va_up_self _ _ _
                have hFqm2_81 : F81 (qm 2) = cD (cy 0) 6 Dd.1 := by rw [eF81, va_up_ne _ _ (pl_ne hFqm2_80 hFqm1_80 rfl)]; exact hFqm2_80
                have hFqm3_81 : F81 (qm 3) = cD (cy 0) 6 Dd.2.1 := by rw [eF81, va_up_ne _ _ (pl_ne hFqm3_80 hFqm1_80 rfl)]; exact hFqm3_80
                have hFqm4_81 : F81 (qm 4) = cD (cy 0) 6 Dd.2.2.1 := by rw [eF81, va_up_ne _ _ (pl_ne hFqm4_80 hFqm1_80 rfl)]; exact hFqm4_80
                have hFqm5_81 : F81 (qm 5) = cJ (cy 2) 6 Dd.2.2.2 := by rw [eF81, va_up_ne _ _ (pl_ne hFqm5_80 hFqm1_80 rfl)]; exact hFqm5_80
                have hFqm6_81 : F81 (qm 6) = cI (cy 1) 8 Sl.1 := by rw [eF81, va_up_ne _ _ (pl_ne hFqm6_80 hFqm1_80 rfl)]; exact hFqm6_80
                have hFqm7_81 : F81 (qm 7) = cJ (cy 2) 128 Sl.2 := by rw [eF81, va_up_ne _ _ (pl_ne hFqm7_80 hFqm1_80 rfl)]; exact hFqm7_80
                have hFqm8_81 : F81 (qm 8) = cI (cy 1) 30 Pp.2.1 := by rw [eF81, va_up_ne _ _ (pl_ne hFqm8_80 hFqm1_80 rfl)]; exact hFqm8_80
                have hFqm9_81 : F81 (qm 9) = cI (cy 3) 30 Pp.2.2 := by rw [eF81, va_up_ne _ _ (pl_ne hFqm9_80 hFqm1_80 rfl)]; exact hFqm9_80
                have hFqm10_81 : F81 (qm 10) = cI (cy 1) 5 Kr.1 := by rw [eF81, va_up_ne _ _ (pl_ne hFqm10_80 hFqm1_80 rfl)]; exact hFqm10_80
                have hFqm11_81 : F81 (qm 11) = cI (cy 3) 5 Kr.2.1 := by rw [eF81, va_up_ne _ _ (pl_ne hFqm11_80 hFqm1_80 rfl)]; exact hFqm11_80
                have hFqm12_81 : F81 (qm 12) = cI (cy 1) 60 Kr.2.2 := by rw [eF81, va_up_ne _ _ (pl_ne hFqm12_80 hFqm1_80 rfl)]; exact hFqm12_80
                have hFqm13_81 : F81 (qm 13) = cI (cy 1) 4 Bk.1 := by rw [eF81, va_up_ne _ _ (pl_ne hFqm13_80 hFqm1_80 rfl)]; exact hFqm13_80
                have hFqm14_81 : F81 (qm 14) = cD (cy 0) 4 Bk.2 := by rw [eF81, va_up_ne _ _ (pl_ne hFqm14_80 hFqm1_80 rfl)]; exact hFqm14_80
                have hFqm15_81 : F81 (qm 15) = cI (cy 1) 6 Xx.2 := by rw [eF81, va_up_ne _ _ (pl_ne hFqm15_80 hFqm1_80 rfl)]; exact hFqm15_80
                refine lv_aload_n hx hb dX9_reckon_228 rfl (lv_at hl 3 rfl) ?_
                refine lv_iload hx hb dX9_reckon_229 (lv_at hl 2 rfl) ?_
                refine va_calli (va_runV (As := [.int (mx (Mm.1 j_x) (Mm.1 j_y))]) (rest := []) ⟨hx, hb, hml, hown, hts⟩ (c9_answers_0 l G cy L F81 H.size o qm 0 Pp.1 ((FP.drem r76 r77).toInt64) hmo hFo_81 Xx.2 hm15 hFqm15_81 (mx (Mm.1 j_x) (Mm.1 j_y))) (cwV 1 hts gX9_reckon_X9_answers rfl rfl rfl (by decide +kernel) ⟨Nat.le_of_ble_eq_true rfl, Nat.le_of_ble_eq_true rfl⟩) (preV_of okQ (⟨rfl, hP, hK, hD.top⟩) (pl_recv hK hP (ci := 8) rfl hmo hFo_81)) rfl rfl hl.1 rfl (lv_room (Nat.le_of_ble_eq_true rfl)) dX9_reckon_231 ⟨Nat.le_of_ble_eq_true rfl, Nat.le_of_ble_eq_true rfl⟩) hS (fun q _ h => pl_free hD hS hA q h) (pl_free hD hS hA) (fun r83 F82 t H1 locs ht hvm hw hP1 hz1 hk1 hS => ?_)
                have hP1 : va_P G vwCl (va_pl L F82) t.heap := hP1
                rw [ht] at hP1
                have hP := hP1
                generalize H1 = H at hP hS ⊢
                obtain ⟨hqr83, eF82⟩ := hw
                have hFo_F82 : F82 o = .inr (8, [.int 0, .ref (qm 0), .ref (qm 1), .ref (qm 2), .ref (qm 3), .ref (qm 4), .ref (qm 5), .ref (qm 6), .ref (qm 7), .int Pp.1, .ref (qm 8), .ref (qm 9), .ref (qm 10), .ref (qm 11), .ref (qm 12), .ref (qm 13), .ref (qm 14), .int 0, .ref (qm 15), .long ((FP.drem r76 r77).toInt64)]) := by rw [eF82]; exact hFo_81
                have hFqm0_F82 : F82 (qm 0) = cI (cy 1) 10 (upd Mm.1 j_into (mx (Mm.1 j_x) (Mm.1 j_y))) := by rw [eF82]; exact hFqm0_81
                have hFqm1_F82 : F82 (qm 1) = cJ (cy 2) 10 (vp_updL Mm.2 j_into ((FP.drem r76 r77).toInt64)) := by rw [eF82]; exact hFqm1_81
                have hFqm2_F82 : F82 (qm 2) = cD (cy 0) 6 Dd.1 := by rw [eF82]; exact hFqm2_81
                have hFqm3_F82 : F82 (qm 3) = cD (cy 0) 6 Dd.2.1 := by rw [eF82]; exact hFqm3_81
                have hFqm4_F82 : F82 (qm 4) = cD (cy 0) 6 Dd.2.2.1 := by rw [eF82]; exact hFqm4_81
                have hFqm5_F82 : F82 (qm 5) = cJ (cy 2) 6 Dd.2.2.2 := by rw [eF82]; exact hFqm5_81
                have hFqm6_F82 : F82 (qm 6) = cI (cy 1) 8 Sl.1 := by rw [eF82]; exact hFqm6_81
                have hFqm7_F82 : F82 (qm 7) = cJ (cy 2) 128 Sl.2 := by rw [eF82]; exact hFqm7_81
                have hFqm8_F82 : F82 (qm 8) = cI (cy 1) 30 Pp.2.1 := by rw [eF82]; exact hFqm8_81
                have hFqm9_F82 : F82 (qm 9) = cI (cy 3) 30 Pp.2.2 := by rw [eF82]; exact hFqm9_81
                have hFqm10_F82 : F82 (qm 10) = cI (cy 1) 5 Kr.1 := by rw [eF82]; exact hFqm10_81
                have hFqm11_F82 : F82 (qm 11) = cI (cy 3) 5 Kr.2.1 := by rw [eF82]; exact hFqm11_81
                have hFqm12_F82 : F82 (qm 12) = cI (cy 1) 60 Kr.2.2 := by rw [eF82]; exact hFqm12_81
                have hFqm13_F82 : F82 (qm 13) = cI (cy 1) 4 Bk.1 := by rw [eF82]; exact hFqm13_81
                have hFqm14_F82 : F82 (qm 14) = cD (cy 0) 4 Bk.2 := by rw [eF82]; exact hFqm14_81
                have hFqm15_F82 : F82 (qm 15) = cI (cy 1) 6 Xx.2 := by rw [eF82]; exact hFqm15_81
                have hr83 := hqr83
                exact W.iret (v := r83) hx hb hr (fun t ht hW => ⟨⟨r83, F82, rfl, (by subst hr83 hr77 hr76 hr47 ev46 ev45 hr44 ev43 ev42 ev37; have hsp : sp_reckon Mm Xx 4 (nI j_x) (nI j_y) (nI j_into) = (3, setM Mm j_into 3 (rkD 4 (db (tn (Mm.1 j_x) (Mm.2 j_x) 3)) (db (tn (Mm.1 j_y) (Mm.2 j_y) 3))).toInt64, goodX Xx) := (by unfold sp_reckon; rw [hi_x, hi_y, hi_into, ixk.2.2.2.2]; show rk Mm Xx 4 j_x j_y j_into = _; unfold rk; rw [if_neg (hmx.2 h1l).2, if_neg (by rw [hmxl]; decide)]; exact if_neg (by rw [hnan]; decide)); rw [hsp]; have hh := hFqm1_F82; have hh0 := hFqm0_F82; rw [hmxl] at hh hh0; exact ⟨hmxl, ⟨⟨_, _, hmo, hFo_F82⟩, ⟨hm0, hh0⟩, ⟨hm1, hh⟩, ⟨hm2, hFqm2_F82⟩, ⟨hm3, hFqm3_F82⟩, ⟨hm4, hFqm4_F82⟩, ⟨hm5, hFqm5_F82⟩, ⟨hm6, hFqm6_F82⟩, ⟨hm7, hFqm7_F82⟩, ⟨hm8, hFqm8_F82⟩, ⟨hm9, hFqm9_F82⟩, ⟨hm10, hFqm10_F82⟩, ⟨hm11, hFqm11_F82⟩, ⟨hm12, hFqm12_F82⟩, ⟨hm13, hFqm13_F82⟩, ⟨hm14, hFqm14_F82⟩, ⟨hm15, hFqm15_F82⟩, hne⟩⟩), (by show va_P _ _ _ t.heap; rw [ht]; exact hP)⟩, hS.F ht⟩) hS.2.2 dX9_reckon_234
          · by_cases hz0 : tn (Mm.1 j_y) (Mm.2 j_y) (mx (Mm.1 j_x) (Mm.1 j_y)) = 0
            · refine lv_iload hx hb dX9_reckon_122 (lv_at hl 2 rfl) ?_
              refine lv_iconst (v := 2) hx hb dX9_reckon_124 (by decide) ?_
              refine lv_icmp_ge (tgt := 162) hx hb dX9_reckon_125 (by decide) (fun c84 => absurd c84 (Int32.not_le.mpr (hmx.1 h1l).2.1)) (fun c84 => ?_)
              refine lv_aload_n hx hb dX9_reckon_128 rfl (lv_at hl 3 rfl) ?_
              refine lv_iload_n hx hb dX9_reckon_129 rfl (lv_at hl 4 rfl) ?_
              refine lv_lload hx hb dX9_reckon_130 (lv_at hl 1 rfl) ?_
              refine lv_lload hx hb dX9_reckon_132 (lv_at hl 0 rfl) ?_
              refine va_callv (va_runV (As := [.int 4, .long r44, .long r47]) (rest := []) ⟨hx, hb, hml, hown, hts⟩ (c9_rL_4_no l G cy L F40 H.size o qm 0 Pp.1 0 oc hmo hFo_40 r44 r47 (by rw [hr47, ev45, ev46]; exact hz0)) (cwV 3 hts gX9_reckon_X9_reckonLongs rfl rfl rfl (by decide +kernel) ⟨Nat.le_of_ble_eq_true rfl, Nat.le_of_ble_eq_true rfl⟩) (preV_of okQ (⟨rfl, hP, hK, hD.top⟩) (pl_recv hK hP (ci := 8) rfl hmo hFo_40)) rfl rfl hl.1 rfl (lv_room (Nat.le_of_ble_eq_true rfl)) dX9_reckon_134 ⟨Nat.le_of_ble_eq_true rfl, Nat.le_of_ble_eq_true rfl⟩) hS (fun q _ h => pl_free hD hS hA q h) (pl_free hD hS hA) (fun F85 t H1 locs ht hvm hw hP1 hz1 hk1 hS => ?_)
              have hP1 : va_P G vwCl (va_pl L F85) t.heap := hP1
              rw [ht] at hP1
              have hP := hP1
              generalize H1 = H at hP hS ⊢
              have eF85 : F85 = va_up F40 o (.inr (8, [.int 0, .ref (qm 0), .ref (qm 1), .ref (qm 2), .ref (qm 3), .ref (qm 4), .ref (qm 5), .ref (qm 6), .ref (qm 7), .int Pp.1, .ref (qm 8), .ref (qm 9), .ref (qm 10), .ref (qm 11), .ref (qm 12), .ref (qm 13), .ref (qm 14), .int 4, .ref (qm 15), .long oc])) := hw
              have hFo_85 : F85 o = .inr (8, [.int 0, .ref (qm 0), .ref (qm 1), .ref (qm 2), .ref (qm 3), .ref (qm 4), .ref (qm 5), .ref (qm 6), .ref (qm 7), .int Pp.1, .ref (qm 8), .ref (qm 9), .ref (qm 10), .ref (qm 11), .ref (qm 12), .ref (qm 13), .ref (qm 14), .int 4, .ref (qm 15), .long oc]) := by rw [eF85]; exact va_up_self _ _ _
              have hFqm0_85 : F85 (qm 0) = cI (cy 1) 10 Mm.1 := by rw [eF85, va_up_ne _ _ (pl_ne hFqm0_40 hFo_40 rfl)]; exact hFqm0_40
              have hFqm1_85 : F85 (qm 1) = cJ (cy 2) 10 Mm.2 := by rw [eF85, va_up_ne _ _ (pl_ne hFqm1_40 hFo_40 rfl)]; exact hFqm1_40
              have hFqm2_85 : F85 (qm 2) = cD (cy 0) 6 Dd.1 := by rw [eF85, va_up_ne _ _ (pl_ne hFqm2_40 hFo_40 rfl)]; exact hFqm2_40
              have hFqm3_85 : F85 (qm 3) = cD (cy 0) 6 Dd.2.1 := by rw [eF85, va_up_ne _ _ (pl_ne hFqm3_40 hFo_40 rfl)]; exact hFqm3_40
              have hFqm4_85 : F85 (qm 4) = cD (cy 0) 6 Dd.2.2.1 := by rw [eF85, va_up_ne _ _ (pl_ne hFqm4_40 hFo_40 rfl)]; exact hFqm4_40
              have hFqm5_85 : F85 (qm 5) = cJ (cy 2) 6 Dd.2.2.2 := by rw [eF85, va_up_ne _ _ (pl_ne hFqm5_40 hFo_40 rfl)]; exact hFqm5_40
              have hFqm6_85 : F85 (qm 6) = cI (cy 1) 8 Sl.1 := by rw [eF85, va_up_ne _ _ (pl_ne hFqm6_40 hFo_40 rfl)]; exact hFqm6_40
              have hFqm7_85 : F85 (qm 7) = cJ (cy 2) 128 Sl.2 := by rw [eF85, va_up_ne _ _ (pl_ne hFqm7_40 hFo_40 rfl)]; exact hFqm7_40
              have hFqm8_85 : F85 (qm 8) = cI (cy 1) 30 Pp.2.1 := by rw [eF85, va_up_ne _ _ (pl_ne hFqm8_40 hFo_40 rfl)]; exact hFqm8_40
              have hFqm9_85 : F85 (qm 9) = cI (cy 3) 30 Pp.2.2 := by rw [eF85, va_up_ne _ _ (pl_ne hFqm9_40 hFo_40 rfl)]; exact hFqm9_40
              have hFqm10_85 : F85 (qm 10) = cI (cy 1) 5 Kr.1 := by rw [eF85, va_up_ne _ _ (pl_ne hFqm10_40 hFo_40 rfl)]; exact hFqm10_40
              have hFqm11_85 : F85 (qm 11) = cI (cy 3) 5 Kr.2.1 := by rw [eF85, va_up_ne _ _ (pl_ne hFqm11_40 hFo_40 rfl)]; exact hFqm11_40
              have hFqm12_85 : F85 (qm 12) = cI (cy 1) 60 Kr.2.2 := by rw [eF85, va_up_ne _ _ (pl_ne hFqm12_40 hFo_40 rfl)]; exact hFqm12_40
              have hFqm13_85 : F85 (qm 13) = cI (cy 1) 4 Bk.1 := by rw [eF85, va_up_ne _ _ (pl_ne hFqm13_40 hFo_40 rfl)]; exact hFqm13_40
              have hFqm14_85 : F85 (qm 14) = cD (cy 0) 4 Bk.2 := by rw [eF85, va_up_ne _ _ (pl_ne hFqm14_40 hFo_40 rfl)]; exact hFqm14_40
              have hFqm15_85 : F85 (qm 15) = cI (cy 1) 6 Xx.2 := by rw [eF85, va_up_ne _ _ (pl_ne hFqm15_40 hFo_40 rfl)]; exact hFqm15_40
              refine lv_aload_n hx hb dX9_reckon_137 rfl (lv_at hl 3 rfl) ?_
              refine lv_iload hx hb dX9_reckon_138 (lv_at hl 2 rfl) ?_
              refine lv_if_ne (tgt := 152) hx hb dX9_reckon_140 (by decide) (fun c86 => ?_) (fun c86 => ?_)
              · refine lv_aload_n hx hb dX9_reckon_152 rfl (lv_at hl 3 rfl) ?_
                refine pg_get (ci := 8) (C := RX9) (T := TX9) (N := 20) hx hb hts hinX9 hown hK hP hmo hFo_85 rfl 19 (by decide) (hts (.fieldLink RX9 131 "RopeDrumsModel" "outcome" "J") (by decide +kernel)) (fun _ h9 => h9) rfl dX9_reckon_153 ?_
                refine pg_put (ci := 8) (v := .long oc) (ty := .long) (C := RX9) (T := TX9) (N := 20) hx hb hts hinX9 tyX9 tyX9_ok nmX9 hown hK hP hD hS hmo hFo_85 rfl 19 (by decide) (hts (.fieldLink RX9 131 "RopeDrumsModel" "outcome" "J") (by decide +kernel)) (fun _ h9 => h9) rfl (by decide +kernel) (rfl) (rfl) (Nat.le_of_ble_eq_true rfl) dX9_reckon_156 (fun H locs F87 eF87 hP hS => ?_)
                have eF87 : F87 = va_up F85 o (.inr (8, [.int 0, .ref (qm 0), .ref (qm 1), .ref (qm 2), .ref (qm 3), .ref (qm 4), .ref (qm 5), .ref (qm 6), .ref (qm 7), .int Pp.1, .ref (qm 8), .ref (qm 9), .ref (qm 10), .ref (qm 11), .ref (qm 12), .ref (qm 13), .ref (qm 14), .int 4, .ref (qm 15), .long oc])) := eF87
                have hFo_87 : F87 o = .inr (8, [.int 0, .ref (qm 0), .ref (qm 1), .ref (qm 2), .ref (qm 3), .ref (qm 4), .ref (qm 5), .ref (qm 6), .ref (qm 7), .int Pp.1, .ref (qm 8), .ref (qm 9), .ref (qm 10), .ref (qm 11), .ref (qm 12), .ref (qm 13), .ref (qm 14), .int 4, .ref (qm 15), .long oc]) := by rw [eF87]; exact va_up_self _ _ _
                have hFqm0_87 : F87 (qm 0) = cI (cy 1) 10 Mm.1 := by rw [eF87, va_up_ne _ _ (pl_ne hFqm0_85 hFo_85 rfl)]; exact hFqm0_85
                have hFqm1_87 : F87 (qm 1) = cJ (cy 2) 10 Mm.2 := by rw [eF87, va_up_ne _ _ (pl_ne hFqm1_85 hFo_85 rfl)]; exact hFqm1_85
                have hFqm2_87 : F87 (qm 2) = cD (cy 0) 6 Dd.1 := by rw [eF87, va_up_ne _ _ (pl_ne hFqm2_85 hFo_85 rfl)]; exact hFqm2_85
                have hFqm3_87 : F87 (qm 3) = cD (cy 0) 6 Dd.2.1 := by rw [eF87, va_up_ne _ _ (pl_ne hFqm3_85 hFo_85 rfl)]; exact hFqm3_85
                have hFqm4_87 : F87 (qm 4) = cD (cy 0) 6 Dd.2.2.1 := by rw [eF87, va_up_ne _ _ (pl_ne hFqm4_85 hFo_85 rfl)]; exact hFqm4_85
                have hFqm5_87 : F87 (qm 5) = cJ (cy 2) 6 Dd.2.2.2 := by rw [eF87, va_up_ne _ _ (pl_ne hFqm5_85 hFo_85 rfl)]; exact hFqm5_85
                have hFqm6_87 : F87 (qm 6) = cI (cy 1) 8 Sl.1 := by rw [eF87, va_up_ne _ _ (pl_ne hFqm6_85 hFo_85 rfl)]; exact hFqm6_85
                have hFqm7_87 : F87 (qm 7) = cJ (cy 2) 128 Sl.2 := by rw [eF87, va_up_ne _ _ (pl_ne hFqm7_85 hFo_85 rfl)]; exact hFqm7_85
                have hFqm8_87 : F87 (qm 8) = cI (cy 1) 30 Pp.2.1 := by rw [eF87, va_up_ne _ _ (pl_ne hFqm8_85 hFo_85 rfl)]; exact hFqm8_85
                have hFqm9_87 : F87 (qm 9) = cI (cy 3) 30 Pp.2.2 := by rw [eF87, va_up_ne _ _ (pl_ne hFqm9_85 hFo_85 rfl)]; exact hFqm9_85
                have hFqm10_87 : F87 (qm 10) = cI (cy 1) 5 Kr.1 := by rw [eF87, va_up_ne _ _ (pl_ne hFqm10_85 hFo_85 rfl)]; exact hFqm10_85
                have hFqm11_87 : F87 (qm 11) = cI (cy 3) 5 Kr.2.1 := by rw [eF87, va_up_ne _ _ (pl_ne hFqm11_85 hFo_85 rfl)]; exact hFqm11_85
                have hFqm12_87 : F87 (qm 12) = cI (cy 1) 60 Kr.2.2 := by rw [eF87, va_up_ne _ _ (pl_ne hFqm12_85 hFo_85 rfl)]; exact hFqm12_85
                have hFqm13_87 : F87 (qm 13) = cI (cy 1) 4 Bk.1 := by rw [eF87, va_up_ne _ _ (pl_ne hFqm13_85 hFo_85 rfl)]; exact hFqm13_85
                have hFqm14_87 : F87 (qm 14) = cD (cy 0) 4 Bk.2 := by rw [eF87, va_up_ne _ _ (pl_ne hFqm14_85 hFo_85 rfl)]; exact hFqm14_85
                have hFqm15_87 : F87 (qm 15) = cI (cy 1) 6 Xx.2 := by rw [eF87, va_up_ne _ _ (pl_ne hFqm15_85 hFo_85 rfl)]; exact hFqm15_85
                refine lv_goto (tgt := 201) hx hb dX9_reckon_159 (by decide) ?_
                refine lv_aload_n hx hb dX9_reckon_201 rfl (lv_at hl 3 rfl) ?_
                refine pg_get (ci := 8) (C := RX9) (T := TX9) (N := 20) hx hb hts hinX9 hown hK hP hmo hFo_87 rfl 17 (by decide) (hts (.fieldLink RX9 65 "RopeDrumsModel" "failed" "I") (by decide +kernel)) (fun _ h9 => h9) rfl dX9_reckon_202 ?_
                refine lv_if_ne (tgt := 228) hx hb dX9_reckon_205 (by decide) (fun c88 => ?_) (fun c88 => absurd c88 (by decide))
                refine lv_aload_n hx hb dX9_reckon_228 rfl (lv_at hl 3 rfl) ?_
                refine lv_iload hx hb dX9_reckon_229 (lv_at hl 2 rfl) ?_
                refine va_calli (va_runV (As := [.int (mx (Mm.1 j_x) (Mm.1 j_y))]) (rest := []) ⟨hx, hb, hml, hown, hts⟩ (c9_answers_4 l G cy L F87 H.size o qm 0 Pp.1 oc hmo hFo_87 Xx.2 hm15 hFqm15_87 (mx (Mm.1 j_x) (Mm.1 j_y))) (cwV 1 hts gX9_reckon_X9_answers rfl rfl rfl (by decide +kernel) ⟨Nat.le_of_ble_eq_true rfl, Nat.le_of_ble_eq_true rfl⟩) (preV_of okQ (⟨rfl, hP, hK, hD.top⟩) (pl_recv hK hP (ci := 8) rfl hmo hFo_87)) rfl rfl hl.1 rfl (lv_room (Nat.le_of_ble_eq_true rfl)) dX9_reckon_231 ⟨Nat.le_of_ble_eq_true rfl, Nat.le_of_ble_eq_true rfl⟩) hS (fun q _ h => pl_free hD hS hA q h) (pl_free hD hS hA) (fun r90 F89 t H1 locs ht hvm hw hP1 hz1 hk1 hS => ?_)
                have hP1 : va_P G vwCl (va_pl L F89) t.heap := hP1
                rw [ht] at hP1
                have hP := hP1
                generalize H1 = H at hP hS ⊢
                obtain ⟨hqr90, eF89⟩ := hw
                have eF89 : F89 = va_up F87 (qm 15) (cI (cy 1) 6 (upd Xx.2 4 (Xx.2 4 + 1))) := eF89
                have hFo_90 : F89 o = .inr (8, [.int 0, .ref (qm 0), .ref (qm 1), .ref (qm 2), .ref (qm 3), .ref (qm 4), .ref (qm 5), .ref (qm 6), .ref (qm 7), .int Pp.1, .ref (qm 8), .ref (qm 9), .ref (qm 10), .ref (qm 11), .ref (qm 12), .ref (qm 13), .ref (qm 14), .int 4, .ref (qm 15), .long oc]) := by rw [eF89, va_up_ne _ _ (pl_ne hFo_87 hFqm15_87 rfl)]; exact hFo_87
                have hFqm0_90 : F89 (qm 0) = cI (cy 1) 10 Mm.1 := by rw [eF89, va_up_ne _ _ (pl_ne hFqm0_87 hFqm15_87 rfl)]; exact hFqm0_87
                have hFqm1_90 : F89 (qm 1) = cJ (cy 2) 10 Mm.2 := by rw [eF89, va_up_ne _ _ (pl_ne hFqm1_87 hFqm15_87 rfl)]; exact hFqm1_87
                have hFqm2_90 : F89 (qm 2) = cD (cy 0) 6 Dd.1 := by rw [eF89, va_up_ne _ _ (pl_ne hFqm2_87 hFqm15_87 rfl)]; exact hFqm2_87
                have hFqm3_90 : F89 (qm 3) = cD (cy 0) 6 Dd.2.1 := by rw [eF89, va_up_ne _ _ (pl_ne hFqm3_87 hFqm15_87 rfl)]; exact hFqm3_87
                have hFqm4_90 : F89 (qm 4) = cD (cy 0) 6 Dd.2.2.1 := by rw [eF89, va_up_ne _ _ (pl_ne hFqm4_87 hFqm15_87 rfl)]; exact hFqm4_87
                have hFqm5_90 : F89 (qm 5) = cJ (cy 2) 6 Dd.2.2.2 := by rw [eF89, va_up_ne _ _ (pl_ne hFqm5_87 hFqm15_87 rfl)]; exact hFqm5_87
                have hFqm6_90 : F89 (qm 6) = cI (cy 1) 8 Sl.1 := by rw [eF89, va_up_ne _ _ (pl_ne hFqm6_87 hFqm15_87 rfl)]; exact hFqm6_87
                have hFqm7_90 : F89 (qm 7) = cJ (cy 2) 128 Sl.2 := by rw [eF89, va_up_ne _ _ (pl_ne hFqm7_87 hFqm15_87 rfl)]; exact hFqm7_87
                have hFqm8_90 : F89 (qm 8) = cI (cy 1) 30 Pp.2.1 := by rw [eF89, va_up_ne _ _ (pl_ne hFqm8_87 hFqm15_87 rfl)]; exact hFqm8_87
                have hFqm9_90 : F89 (qm 9) = cI (cy 3) 30 Pp.2.2 := by rw [eF89, va_up_ne _ _ (pl_ne hFqm9_87 hFqm15_87 rfl)]; exact hFqm9_87
                have hFqm10_90 : F89 (qm 10) = cI (cy 1) 5 Kr.1 := by rw [eF89, va_up_ne _ _ (pl_ne hFqm10_87 hFqm15_87 rfl)]; exact hFqm10_87
                have hFqm11_90 : F89 (qm 11) = cI (cy 3) 5 Kr.2.1 := by rw [eF89, va_up_ne _ _ (pl_ne hFqm11_87 hFqm15_87 rfl)]; exact hFqm11_87
                have hFqm12_90 : F89 (qm 12) = cI (cy 1) 60 Kr.2.2 := by rw [eF89, va_up_ne _ _ (pl_ne hFqm12_87 hFqm15_87 rfl)]; exact hFqm12_87
                have hFqm13_90 : F89 (qm 13) = cI (cy 1) 4 Bk.1 := by rw [eF89, va_up_ne _ _ (pl_ne hFqm13_87 hFqm15_87 rfl)]; exact hFqm13_87
                have hFqm14_90 : F89 (qm 14) = cD (cy 0) 4 Bk.2 := by rw [eF89, va_up_ne _ _ (pl_ne hFqm14_87 hFqm15_87 rfl)]; exact hFqm14_87
                have hFqm15_90 : F89 (qm 15) = cI (cy 1) 6 (upd Xx.2 4 (Xx.2 4 + 1)) := by rw [eF89]; exact va_up_self _ _ _
                have hr90 := hqr90
                exact W.iret (v := r90) hx hb hr (fun t ht hW => ⟨⟨r90, F89, rfl, (by subst hr90 hr47 ev46 ev45 hr44 ev43 ev42 ev37; have hsp : sp_reckon Mm Xx 4 (nI j_x) (nI j_y) (nI j_into) = (-14, Mm, failX Xx 4) := (by unfold sp_reckon; rw [hi_x, hi_y, hi_into, ixk.2.2.2.2]; show rk Mm Xx 4 j_x j_y j_into = _; unfold rk; rw [if_pos (hmx.1 h1l).2.1]; exact if_pos ⟨by decide, hz0⟩); rw [hsp]; exact ⟨rfl, (by exact ⟨⟨_, _, hmo, hFo_90⟩, ⟨hm0, hFqm0_90⟩, ⟨hm1, hFqm1_90⟩, ⟨hm2, hFqm2_90⟩, ⟨hm3, hFqm3_90⟩, ⟨hm4, hFqm4_90⟩, ⟨hm5, hFqm5_90⟩, ⟨hm6, hFqm6_90⟩, ⟨hm7, hFqm7_90⟩, ⟨hm8, hFqm8_90⟩, ⟨hm9, hFqm9_90⟩, ⟨hm10, hFqm10_90⟩, ⟨hm11, hFqm11_90⟩, ⟨hm12, hFqm12_90⟩, ⟨hm13, hFqm13_90⟩, ⟨hm14, hFqm14_90⟩, ⟨hm15, hFqm15_90⟩, hne⟩)⟩), (by show va_P _ _ _ t.heap; rw [ht]; exact hP)⟩, hS.F ht⟩) hS.2.2 dX9_reckon_234
              · refine lv_aload_n hx hb dX9_reckon_143 rfl (lv_at hl 3 rfl) ?_
                refine pg_get (ci := 8) (C := RX9) (T := TX9) (N := 20) hx hb hts hinX9 hown hK hP hmo hFo_85 rfl 19 (by decide) (hts (.fieldLink RX9 131 "RopeDrumsModel" "outcome" "J") (by decide +kernel)) (fun _ h9 => h9) rfl dX9_reckon_144 ?_
                refine lv_l2i hx hb dX9_reckon_147 rfl ?_
                refine lv_topi (fun v91 ev91 => ?_)
                refine lv_i2l hx hb dX9_reckon_148 rfl ?_
                refine lv_topl (fun v92 ev92 => ?_)
                refine lv_goto (tgt := 156) hx hb dX9_reckon_149 (by decide) ?_
                refine pg_put (ci := 8) (v := .long v92) (ty := .long) (C := RX9) (T := TX9) (N := 20) hx hb hts hinX9 tyX9 tyX9_ok nmX9 hown hK hP hD hS hmo hFo_85 rfl 19 (by decide) (hts (.fieldLink RX9 131 "RopeDrumsModel" "outcome" "J") (by decide +kernel)) (fun _ h9 => h9) rfl (by decide +kernel) (rfl) (rfl) (Nat.le_of_ble_eq_true rfl) dX9_reckon_156 (fun H locs F93 eF93 hP hS => ?_)
                have eF93 : F93 = va_up F85 o (.inr (8, [.int 0, .ref (qm 0), .ref (qm 1), .ref (qm 2), .ref (qm 3), .ref (qm 4), .ref (qm 5), .ref (qm 6), .ref (qm 7), .int Pp.1, .ref (qm 8), .ref (qm 9), .ref (qm 10), .ref (qm 11), .ref (qm 12), .ref (qm 13), .ref (qm 14), .int 4, .ref (qm 15), .long v92])) := eF93
                have hFo_93 : F93 o = .inr (8, [.int 0, .ref (qm 0), .ref (qm 1), .ref (qm 2), .ref (qm 3), .ref (qm 4), .ref (qm 5), .ref (qm 6), .ref (qm 7), .int Pp.1, .ref (qm 8), .ref (qm 9), .ref (qm 10), .ref (qm 11), .ref (qm 12), .ref (qm 13), .ref (qm 14), .int 4, .ref (qm 15), .long v92]) := by rw [eF93]; exact va_up_self _ _ _
                have hFqm0_93 : F93 (qm 0) = cI (cy 1) 10 Mm.1 := by rw [eF93, va_up_ne _ _ (pl_ne hFqm0_85 hFo_85 rfl)]; exact hFqm0_85
                have hFqm1_93 : F93 (qm 1) = cJ (cy 2) 10 Mm.2 := by rw [eF93, va_up_ne _ _ (pl_ne hFqm1_85 hFo_85 rfl)]; exact hFqm1_85
                have hFqm2_93 : F93 (qm 2) = cD (cy 0) 6 Dd.1 := by rw [eF93, va_up_ne _ _ (pl_ne hFqm2_85 hFo_85 rfl)]; exact hFqm2_85
                have hFqm3_93 : F93 (qm 3) = cD (cy 0) 6 Dd.2.1 := by rw [eF93, va_up_ne _ _ (pl_ne hFqm3_85 hFo_85 rfl)]; exact hFqm3_85
                have hFqm4_93 : F93 (qm 4) = cD (cy 0) 6 Dd.2.2.1 := by rw [eF93, va_up_ne _ _ (pl_ne hFqm4_85 hFo_85 rfl)]; exact hFqm4_85
                have hFqm5_93 : F93 (qm 5) = cJ (cy 2) 6 Dd.2.2.2 := by rw [eF93, va_up_ne _ _ (pl_ne hFqm5_85 hFo_85 rfl)]; exact hFqm5_85
                have hFqm6_93 : F93 (qm 6) = cI (cy 1) 8 Sl.1 := by rw [eF93, va_up_ne _ _ (pl_ne hFqm6_85 hFo_85 rfl)]; exact hFqm6_85
                have hFqm7_93 : F93 (qm 7) = cJ (cy 2) 128 Sl.2 := by rw [eF93, va_up_ne _ _ (pl_ne hFqm7_85 hFo_85 rfl)]; exact hFqm7_85
                have hFqm8_93 : F93 (qm 8) = cI (cy 1) 30 Pp.2.1 := by rw [eF93, va_up_ne _ _ (pl_ne hFqm8_85 hFo_85 rfl)]; exact hFqm8_85
                have hFqm9_93 : F93 (qm 9) = cI (cy 3) 30 Pp.2.2 := by rw [eF93, va_up_ne _ _ (pl_ne hFqm9_85 hFo_85 rfl)]; exact hFqm9_85
                have hFqm10_93 : F93 (qm 10) = cI (cy 1) 5 Kr.1 := by rw [eF93, va_up_ne _ _ (pl_ne hFqm10_85 hFo_85 rfl)]; exact hFqm10_85
                have hFqm11_93 : F93 (qm 11) = cI (cy 3) 5 Kr.2.1 := by rw [eF93, va_up_ne _ _ (pl_ne hFqm11_85 hFo_85 rfl)]; exact hFqm11_85
                have hFqm12_93 : F93 (qm 12) = cI (cy 1) 60 Kr.2.2 := by rw [eF93, va_up_ne _ _ (pl_ne hFqm12_85 hFo_85 rfl)]; exact hFqm12_85
                have hFqm13_93 : F93 (qm 13) = cI (cy 1) 4 Bk.1 := by rw [eF93, va_up_ne _ _ (pl_ne hFqm13_85 hFo_85 rfl)]; exact hFqm13_85
                have hFqm14_93 : F93 (qm 14) = cD (cy 0) 4 Bk.2 := by rw [eF93, va_up_ne _ _ (pl_ne hFqm14_85 hFo_85 rfl)]; exact hFqm14_85
                have hFqm15_93 : F93 (qm 15) = cI (cy 1) 6 Xx.2 := by rw [eF93, va_up_ne _ _ (pl_ne hFqm15_85 hFo_85 rfl)]; exact hFqm15_85
                refine lv_goto (tgt := 201) hx hb dX9_reckon_159 (by decide) ?_
                refine lv_aload_n hx hb dX9_reckon_201 rfl (lv_at hl 3 rfl) ?_
                refine pg_get (ci := 8) (C := RX9) (T := TX9) (N := 20) hx hb hts hinX9 hown hK hP hmo hFo_93 rfl 17 (by decide) (hts (.fieldLink RX9 65 "RopeDrumsModel" "failed" "I") (by decide +kernel)) (fun _ h9 => h9) rfl dX9_reckon_202 ?_
                refine lv_if_ne (tgt := 228) hx hb dX9_reckon_205 (by decide) (fun c94 => ?_) (fun c94 => absurd c94 (by decide))
                refine lv_aload_n hx hb dX9_reckon_228 rfl (lv_at hl 3 rfl) ?_
                refine lv_iload hx hb dX9_reckon_229 (lv_at hl 2 rfl) ?_
                refine va_calli (va_runV (As := [.int (mx (Mm.1 j_x) (Mm.1 j_y))]) (rest := []) ⟨hx, hb, hml, hown, hts⟩ (c9_answers_4 l G cy L F93 H.size o qm 0 Pp.1 v92 hmo hFo_93 Xx.2 hm15 hFqm15_93 (mx (Mm.1 j_x) (Mm.1 j_y))) (cwV 1 hts gX9_reckon_X9_answers rfl rfl rfl (by decide +kernel) ⟨Nat.le_of_ble_eq_true rfl, Nat.le_of_ble_eq_true rfl⟩) (preV_of okQ (⟨rfl, hP, hK, hD.top⟩) (pl_recv hK hP (ci := 8) rfl hmo hFo_93)) rfl rfl hl.1 rfl (lv_room (Nat.le_of_ble_eq_true rfl)) dX9_reckon_231 ⟨Nat.le_of_ble_eq_true rfl, Nat.le_of_ble_eq_true rfl⟩) hS (fun q _ h => pl_free hD hS hA q h) (pl_free hD hS hA) (fun r96 F95 t H1 locs ht hvm hw hP1 hz1 hk1 hS => ?_)
                have hP1 : va_P G vwCl (va_pl L F95) t.heap := hP1
                rw [ht] at hP1
                have hP := hP1
                generalize H1 = H at hP hS ⊢
                obtain ⟨hqr96, eF95⟩ := hw
                have eF95 : F95 = va_up F93 (qm 15) (cI (cy 1) 6 (upd Xx.2 4 (Xx.2 4 + 1))) := eF95
                have hFo_96 : F95 o = .inr (8, [.int 0, .ref (qm 0), .ref (qm 1), .ref (qm 2), .ref (qm 3), .ref (qm 4), .ref (qm 5), .ref (qm 6), .ref (qm 7), .int Pp.1, .ref (qm 8), .ref (qm 9), .ref (qm 10), .ref (qm 11), .ref (qm 12), .ref (qm 13), .ref (qm 14), .int 4, .ref (qm 15), .long v92]) := by rw [eF95, va_up_ne _ _ (pl_ne hFo_93 hFqm15_93 rfl)]; exact hFo_93
                have hFqm0_96 : F95 (qm 0) = cI (cy 1) 10 Mm.1 := by rw [eF95, va_up_ne _ _ (pl_ne hFqm0_93 hFqm15_93 rfl)]; exact hFqm0_93
                have hFqm1_96 : F95 (qm 1) = cJ (cy 2) 10 Mm.2 := by rw [eF95, va_up_ne _ _ (pl_ne hFqm1_93 hFqm15_93 rfl)]; exact hFqm1_93
                have hFqm2_96 : F95 (qm 2) = cD (cy 0) 6 Dd.1 := by rw [eF95, va_up_ne _ _ (pl_ne hFqm2_93 hFqm15_93 rfl)]; exact hFqm2_93
                have hFqm3_96 : F95 (qm 3) = cD (cy 0) 6 Dd.2.1 := by rw [eF95, va_up_ne _ _ (pl_ne hFqm3_93 hFqm15_93 rfl)]; exact hFqm3_93
                have hFqm4_96 : F95 (qm 4) = cD (cy 0) 6 Dd.2.2.1 := by rw [eF95, va_up_ne _ _ (pl_ne hFqm4_93 hFqm15_93 rfl)]; exact hFqm4_93
                have hFqm5_96 : F95 (qm 5) = cJ (cy 2) 6 Dd.2.2.2 := by rw [eF95, va_up_ne _ _ (pl_ne hFqm5_93 hFqm15_93 rfl)]; exact hFqm5_93
                have hFqm6_96 : F95 (qm 6) = cI (cy 1) 8 Sl.1 := by rw [eF95, va_up_ne _ _ (pl_ne hFqm6_93 hFqm15_93 rfl)]; exact hFqm6_93
                have hFqm7_96 : F95 (qm 7) = cJ (cy 2) 128 Sl.2 := by rw [eF95, va_up_ne _ _ (pl_ne hFqm7_93 hFqm15_93 rfl)]; exact hFqm7_93
                have hFqm8_96 : F95 (qm 8) = cI (cy 1) 30 Pp.2.1 := by rw [eF95, va_up_ne _ _ (pl_ne hFqm8_93 hFqm15_93 rfl)]; exact hFqm8_93
                have hFqm9_96 : F95 (qm 9) = cI (cy 3) 30 Pp.2.2 := by rw [eF95, va_up_ne _ _ (pl_ne hFqm9_93 hFqm15_93 rfl)]; exact hFqm9_93
                have hFqm10_96 : F95 (qm 10) = cI (cy 1) 5 Kr.1 := by rw [eF95, va_up_ne _ _ (pl_ne hFqm10_93 hFqm15_93 rfl)]; exact hFqm10_93
                have hFqm11_96 : F95 (qm 11) = cI (cy 3) 5 Kr.2.1 := by rw [eF95, va_up_ne _ _ (pl_ne hFqm11_93 hFqm15_93 rfl)]; exact hFqm11_93
                have hFqm12_96 : F95 (qm 12) = cI (cy 1) 60 Kr.2.2 := by rw [eF95, va_up_ne _ _ (pl_ne hFqm12_93 hFqm15_93 rfl)]; exact hFqm12_93
                have hFqm13_96 : F95 (qm 13) = cI (cy 1) 4 Bk.1 := by rw [eF95, va_up_ne _ _ (pl_ne hFqm13_93 hFqm15_93 rfl)]; exact hFqm13_93
                have hFqm14_96 : F95 (qm 14) = cD (cy 0) 4 Bk.2 := by rw [eF95, va_up_ne _ _ (pl_ne hFqm14_93 hFqm15_93 rfl)]; exact hFqm14_93
                have hFqm15_96 : F95 (qm 15) = cI (cy 1) 6 (upd Xx.2 4 (Xx.2 4 + 1)) := by rw [eF95]; exact va_up_self _ _ _
                have hr96 := hqr96
                exact W.iret (v := r96) hx hb hr (fun t ht hW => ⟨⟨r96, F95, rfl, (by subst hr96 ev92 ev91 hr47 ev46 ev45 hr44 ev43 ev42 ev37; have hsp : sp_reckon Mm Xx 4 (nI j_x) (nI j_y) (nI j_into) = (-14, Mm, failX Xx 4) := (by unfold sp_reckon; rw [hi_x, hi_y, hi_into, ixk.2.2.2.2]; show rk Mm Xx 4 j_x j_y j_into = _; unfold rk; rw [if_pos (hmx.1 h1l).2.1]; exact if_pos ⟨by decide, hz0⟩); rw [hsp]; exact ⟨rfl, (by exact ⟨⟨_, _, hmo, hFo_96⟩, ⟨hm0, hFqm0_96⟩, ⟨hm1, hFqm1_96⟩, ⟨hm2, hFqm2_96⟩, ⟨hm3, hFqm3_96⟩, ⟨hm4, hFqm4_96⟩, ⟨hm5, hFqm5_96⟩, ⟨hm6, hFqm6_96⟩, ⟨hm7, hFqm7_96⟩, ⟨hm8, hFqm8_96⟩, ⟨hm9, hFqm9_96⟩, ⟨hm10, hFqm10_96⟩, ⟨hm11, hFqm11_96⟩, ⟨hm12, hFqm12_96⟩, ⟨hm13, hFqm13_96⟩, ⟨hm14, hFqm14_96⟩, ⟨hm15, hFqm15_96⟩, hne⟩)⟩), (by show va_P _ _ _ t.heap; rw [ht]; exact hP)⟩, hS.F ht⟩) hS.2.2 dX9_reckon_234
            · refine lv_iload hx hb dX9_reckon_122 (lv_at hl 2 rfl) ?_
              refine lv_iconst (v := 2) hx hb dX9_reckon_124 (by decide) ?_
              refine lv_icmp_ge (tgt := 162) hx hb dX9_reckon_125 (by decide) (fun c97 => absurd c97 (Int32.not_le.mpr (hmx.1 h1l).2.1)) (fun c97 => ?_)
              refine lv_aload_n hx hb dX9_reckon_128 rfl (lv_at hl 3 rfl) ?_
              refine lv_iload_n hx hb dX9_reckon_129 rfl (lv_at hl 4 rfl) ?_
              refine lv_lload hx hb dX9_reckon_130 (lv_at hl 1 rfl) ?_
              refine lv_lload hx hb dX9_reckon_132 (lv_at hl 0 rfl) ?_
              refine va_callv (va_runV (As := [.int 4, .long r44, .long r47]) (rest := []) ⟨hx, hb, hml, hown, hts⟩ (c9_rL_4 l G cy L F40 H.size o qm 0 Pp.1 0 oc hmo hFo_40 r44 r47 (by rw [hr47, ev45, ev46]; exact hz0)) (cwV 3 hts gX9_reckon_X9_reckonLongs rfl rfl rfl (by decide +kernel) ⟨Nat.le_of_ble_eq_true rfl, Nat.le_of_ble_eq_true rfl⟩) (preV_of okQ (⟨rfl, hP, hK, hD.top⟩) (pl_recv hK hP (ci := 8) rfl hmo hFo_40)) rfl rfl hl.1 rfl (lv_room (Nat.le_of_ble_eq_true rfl)) dX9_reckon_134 ⟨Nat.le_of_ble_eq_true rfl, Nat.le_of_ble_eq_true rfl⟩) hS (fun q _ h => pl_free hD hS hA q h) (pl_free hD hS hA) (fun F98 t H1 locs ht hvm hw hP1 hz1 hk1 hS => ?_)
              have hP1 : va_P G vwCl (va_pl L F98) t.heap := hP1
              rw [ht] at hP1
              have hP := hP1
              generalize H1 = H at hP hS ⊢
              have eF98 : F98 = va_up F40 o (.inr (8, [.int 0, .ref (qm 0), .ref (qm 1), .ref (qm 2), .ref (qm 3), .ref (qm 4), .ref (qm 5), .ref (qm 6), .ref (qm 7), .int Pp.1, .ref (qm 8), .ref (qm 9), .ref (qm 10), .ref (qm 11), .ref (qm 12), .ref (qm 13), .ref (qm 14), .int 0, .ref (qm 15), .long (rkL 4 r44 r47)])) := hw
              have hFo_98 : F98 o = .inr (8, [.int 0, .ref (qm 0), .ref (qm 1), .ref (qm 2), .ref (qm 3), .ref (qm 4), .ref (qm 5), .ref (qm 6), .ref (qm 7), .int Pp.1, .ref (qm 8), .ref (qm 9), .ref (qm 10), .ref (qm 11), .ref (qm 12), .ref (qm 13), .ref (qm 14), .int 0, .ref (qm 15), .long (rkL 4 r44 r47)]) := by rw [eF98]; exact va_up_self _ _ _
              have hFqm0_98 : F98 (qm 0) = cI (cy 1) 10 Mm.1 := by rw [eF98, va_up_ne _ _ (pl_ne hFqm0_40 hFo_40 rfl)]; exact hFqm0_40
              have hFqm1_98 : F98 (qm 1) = cJ (cy 2) 10 Mm.2 := by rw [eF98, va_up_ne _ _ (pl_ne hFqm1_40 hFo_40 rfl)]; exact hFqm1_40
              have hFqm2_98 : F98 (qm 2) = cD (cy 0) 6 Dd.1 := by rw [eF98, va_up_ne _ _ (pl_ne hFqm2_40 hFo_40 rfl)]; exact hFqm2_40
              have hFqm3_98 : F98 (qm 3) = cD (cy 0) 6 Dd.2.1 := by rw [eF98, va_up_ne _ _ (pl_ne hFqm3_40 hFo_40 rfl)]; exact hFqm3_40
              have hFqm4_98 : F98 (qm 4) = cD (cy 0) 6 Dd.2.2.1 := by rw [eF98, va_up_ne _ _ (pl_ne hFqm4_40 hFo_40 rfl)]; exact hFqm4_40
              have hFqm5_98 : F98 (qm 5) = cJ (cy 2) 6 Dd.2.2.2 := by rw [eF98, va_up_ne _ _ (pl_ne hFqm5_40 hFo_40 rfl)]; exact hFqm5_40
              have hFqm6_98 : F98 (qm 6) = cI (cy 1) 8 Sl.1 := by rw [eF98, va_up_ne _ _ (pl_ne hFqm6_40 hFo_40 rfl)]; exact hFqm6_40
              have hFqm7_98 : F98 (qm 7) = cJ (cy 2) 128 Sl.2 := by rw [eF98, va_up_ne _ _ (pl_ne hFqm7_40 hFo_40 rfl)]; exact hFqm7_40
              have hFqm8_98 : F98 (qm 8) = cI (cy 1) 30 Pp.2.1 := by rw [eF98, va_up_ne _ _ (pl_ne hFqm8_40 hFo_40 rfl)]; exact hFqm8_40
              have hFqm9_98 : F98 (qm 9) = cI (cy 3) 30 Pp.2.2 := by rw [eF98, va_up_ne _ _ (pl_ne hFqm9_40 hFo_40 rfl)]; exact hFqm9_40
              have hFqm10_98 : F98 (qm 10) = cI (cy 1) 5 Kr.1 := by rw [eF98, va_up_ne _ _ (pl_ne hFqm10_40 hFo_40 rfl)]; exact hFqm10_40
              have hFqm11_98 : F98 (qm 11) = cI (cy 3) 5 Kr.2.1 := by rw [eF98, va_up_ne _ _ (pl_ne hFqm11_40 hFo_40 rfl)]; exact hFqm11_40
              have hFqm12_98 : F98 (qm 12) = cI (cy 1) 60 Kr.2.2 := by rw [eF98, va_up_ne _ _ (pl_ne hFqm12_40 hFo_40 rfl)]; exact hFqm12_40
              have hFqm13_98 : F98 (qm 13) = cI (cy 1) 4 Bk.1 := by rw [eF98, va_up_ne _ _ (pl_ne hFqm13_40 hFo_40 rfl)]; exact hFqm13_40
              have hFqm14_98 : F98 (qm 14) = cD (cy 0) 4 Bk.2 := by rw [eF98, va_up_ne _ _ (pl_ne hFqm14_40 hFo_40 rfl)]; exact hFqm14_40
              have hFqm15_98 : F98 (qm 15) = cI (cy 1) 6 Xx.2 := by rw [eF98, va_up_ne _ _ (pl_ne hFqm15_40 hFo_40 rfl)]; exact hFqm15_40
              refine lv_aload_n hx hb dX9_reckon_137 rfl (lv_at hl 3 rfl) ?_
              refine lv_iload hx hb dX9_reckon_138 (lv_at hl 2 rfl) ?_
              refine lv_if_ne (tgt := 152) hx hb dX9_reckon_140 (by decide) (fun c99 => ?_) (fun c99 => ?_)
              · refine lv_aload_n hx hb dX9_reckon_152 rfl (lv_at hl 3 rfl) ?_
                refine pg_get (ci := 8) (C := RX9) (T := TX9) (N := 20) hx hb hts hinX9 hown hK hP hmo hFo_98 rfl 19 (by decide) (hts (.fieldLink RX9 131 "RopeDrumsModel" "outcome" "J") (by decide +kernel)) (fun _ h9 => h9) rfl dX9_reckon_153 ?_
                refine pg_put (ci := 8) (v := .long (rkL 4 r44 r47)) (ty := .long) (C := RX9) (T := TX9) (N := 20) hx hb hts hinX9 tyX9 tyX9_ok nmX9 hown hK hP hD hS hmo hFo_98 rfl 19 (by decide) (hts (.fieldLink RX9 131 "RopeDrumsModel" "outcome" "J") (by decide +kernel)) (fun _ h9 => h9) rfl (by decide +kernel) (rfl) (rfl) (Nat.le_of_ble_eq_true rfl) dX9_reckon_156 (fun H locs F100 eF100 hP hS => ?_)
                have eF100 : F100 = va_up F98 o (.inr (8, [.int 0, .ref (qm 0), .ref (qm 1), .ref (qm 2), .ref (qm 3), .ref (qm 4), .ref (qm 5), .ref (qm 6), .ref (qm 7), .int Pp.1, .ref (qm 8), .ref (qm 9), .ref (qm 10), .ref (qm 11), .ref (qm 12), .ref (qm 13), .ref (qm 14), .int 0, .ref (qm 15), .long (rkL 4 r44 r47)])) := eF100
                have hFo_100 : F100 o = .inr (8, [.int 0, .ref (qm 0), .ref (qm 1), .ref (qm 2), .ref (qm 3), .ref (qm 4), .ref (qm 5), .ref (qm 6), .ref (qm 7), .int Pp.1, .ref (qm 8), .ref (qm 9), .ref (qm 10), .ref (qm 11), .ref (qm 12), .ref (qm 13), .ref (qm 14), .int 0, .ref (qm 15), .long (rkL 4 r44 r47)]) := by rw [eF100]; exact va_up_self _ _ _
                have hFqm0_100 : F100 (qm 0) = cI (cy 1) 10 Mm.1 := by rw [eF100, va_up_ne _ _ (pl_ne hFqm0_98 hFo_98 rfl)]; exact hFqm0_98
                have hFqm1_100 : F100 (qm 1) = cJ (cy 2) 10 Mm.2 := by rw [eF100, va_up_ne _ _ (pl_ne hFqm1_98 hFo_98 rfl)]; exact hFqm1_98
                have hFqm2_100 : F100 (qm 2) = cD (cy 0) 6 Dd.1 := by rw [eF100, va_up_ne _ _ (pl_ne hFqm2_98 hFo_98 rfl)]; exact hFqm2_98
                have hFqm3_100 : F100 (qm 3) = cD (cy 0) 6 Dd.2.1 := by rw [eF100, va_up_ne _ _ (pl_ne hFqm3_98 hFo_98 rfl)]; exact hFqm3_98
                have hFqm4_100 : F100 (qm 4) = cD (cy 0) 6 Dd.2.2.1 := by rw [eF100, va_up_ne _ _ (pl_ne hFqm4_98 hFo_98 rfl)]; exact hFqm4_98
                have hFqm5_100 : F100 (qm 5) = cJ (cy 2) 6 Dd.2.2.2 := by rw [eF100, va_up_ne _ _ (pl_ne hFqm5_98 hFo_98 rfl)]; exact hFqm5_98
                have hFqm6_100 : F100 (qm 6) = cI (cy 1) 8 Sl.1 := by rw [eF100, va_up_ne _ _ (pl_ne hFqm6_98 hFo_98 rfl)]; exact hFqm6_98
                have hFqm7_100 : F100 (qm 7) = cJ (cy 2) 128 Sl.2 := by rw [eF100, va_up_ne _ _ (pl_ne hFqm7_98 hFo_98 rfl)]; exact hFqm7_98
                have hFqm8_100 : F100 (qm 8) = cI (cy 1) 30 Pp.2.1 := by rw [eF100, va_up_ne _ _ (pl_ne hFqm8_98 hFo_98 rfl)]; exact hFqm8_98
                have hFqm9_100 : F100 (qm 9) = cI (cy 3) 30 Pp.2.2 := by rw [eF100, va_up_ne _ _ (pl_ne hFqm9_98 hFo_98 rfl)]; exact hFqm9_98
                have hFqm10_100 : F100 (qm 10) = cI (cy 1) 5 Kr.1 := by rw [eF100, va_up_ne _ _ (pl_ne hFqm10_98 hFo_98 rfl)]; exact hFqm10_98
                have hFqm11_100 : F100 (qm 11) = cI (cy 3) 5 Kr.2.1 := by rw [eF100, va_up_ne _ _ (pl_ne hFqm11_98 hFo_98 rfl)]; exact hFqm11_98
                have hFqm12_100 : F100 (qm 12) = cI (cy 1) 60 Kr.2.2 := by rw [eF100, va_up_ne _ _ (pl_ne hFqm12_98 hFo_98 rfl)]; exact hFqm12_98
                have hFqm13_100 : F100 (qm 13) = cI (cy 1) 4 Bk.1 := by rw [eF100, va_up_ne _ _ (pl_ne hFqm13_98 hFo_98 rfl)]; exact hFqm13_98
                have hFqm14_100 : F100 (qm 14) = cD (cy 0) 4 Bk.2 := by rw [eF100, va_up_ne _ _ (pl_ne hFqm14_98 hFo_98 rfl)]; exact hFqm14_98
                have hFqm15_100 : F100 (qm 15) = cI (cy 1) 6 Xx.2 := by rw [eF100, va_up_ne _ _ (pl_ne hFqm15_98 hFo_98 rfl)]; exact hFqm15_98
                refine lv_goto (tgt := 201) hx hb dX9_reckon_159 (by decide) ?_
                refine lv_aload_n hx hb dX9_reckon_201 rfl (lv_at hl 3 rfl) ?_
                refine pg_get (ci := 8) (C := RX9) (T := TX9) (N := 20) hx hb hts hinX9 hown hK hP hmo hFo_100 rfl 17 (by decide) (hts (.fieldLink RX9 65 "RopeDrumsModel" "failed" "I") (by decide +kernel)) (fun _ h9 => h9) rfl dX9_reckon_202 ?_
                refine lv_if_ne (tgt := 228) hx hb dX9_reckon_205 (by decide) (fun c101 => absurd (by decide) c101) (fun c101 => ?_)
                refine lv_aload_n hx hb dX9_reckon_208 rfl (lv_at hl 3 rfl) ?_
                refine pg_get (ci := 8) (C := RX9) (T := TX9) (N := 20) hx hb hts hinX9 hown hK hP hmo hFo_100 rfl 1 (by decide) (hts (.fieldLink RX9 7 "RopeDrumsModel" "laneOf" "[I") (by decide +kernel)) (fun _ h9 => h9) rfl dX9_reckon_209 ?_
                refine lv_iload hx hb dX9_reckon_212 (lv_at hl 7 rfl) ?_
                refine lv_iload hx hb dX9_reckon_214 (lv_at hl 2 rfl) ?_
                refine pg_iast hx hb hK hP hD hS 1 hm0 hFqm0_100 rfl (vp_in_nI (by omega) (by decide)) dX9_reckon_216 (fun H locs F102 eF102 hP hS => ?_)
                rw [nI_clamp (by omega)] at eF102
                have hFo_102 : F102 o = .inr (8, [.int 0, .ref (qm 0), .ref (qm 1), .ref (qm 2), .ref (qm 3), .ref (qm 4), .ref (qm 5), .ref (qm 6), .ref (qm 7), .int Pp.1, .ref (qm 8), .ref (qm 9), .ref (qm 10), .ref (qm 11), .ref (qm 12), .ref (qm 13), .ref (qm 14), .int 0, .ref (qm 15), .long (rkL 4 r44 r47)]) := by rw [eF102, va_up_ne _ _ (pl_ne hFo_100 hFqm0_100 rfl)]; exact hFo_100
                have hFqm0_102 : F102 (qm 0) = cI (cy 1) 10 (upd Mm.1 j_into (mx (Mm.1 j_x) (Mm.1 j_y))) := by rw [eF102]; exact va_up_self _ _ _
                have hFqm1_102 : F102 (qm 1) = cJ (cy 2) 10 Mm.2 := by rw [eF102, va_up_ne _ _ (pl_ne hFqm1_100 hFqm0_100 rfl)]; exact hFqm1_100
                have hFqm2_102 : F102 (qm 2) = cD (cy 0) 6 Dd.1 := by rw [eF102, va_up_ne _ _ (pl_ne hFqm2_100 hFqm0_100 rfl)]; exact hFqm2_100
                have hFqm3_102 : F102 (qm 3) = cD (cy 0) 6 Dd.2.1 := by rw [eF102, va_up_ne _ _ (pl_ne hFqm3_100 hFqm0_100 rfl)]; exact hFqm3_100
                have hFqm4_102 : F102 (qm 4) = cD (cy 0) 6 Dd.2.2.1 := by rw [eF102, va_up_ne _ _ (pl_ne hFqm4_100 hFqm0_100 rfl)]; exact hFqm4_100
                have hFqm5_102 : F102 (qm 5) = cJ (cy 2) 6 Dd.2.2.2 := by rw [eF102, va_up_ne _ _ (pl_ne hFqm5_100 hFqm0_100 rfl)]; exact hFqm5_100
                have hFqm6_102 : F102 (qm 6) = cI (cy 1) 8 Sl.1 := by rw [eF102, va_up_ne _ _ (pl_ne hFqm6_100 hFqm0_100 rfl)]; exact hFqm6_100
                have hFqm7_102 : F102 (qm 7) = cJ (cy 2) 128 Sl.2 := by rw [eF102, va_up_ne _ _ (pl_ne hFqm7_100 hFqm0_100 rfl)]; exact hFqm7_100
                have hFqm8_102 : F102 (qm 8) = cI (cy 1) 30 Pp.2.1 := by rw [eF102, va_up_ne _ _ (pl_ne hFqm8_100 hFqm0_100 rfl)]; exact hFqm8_100
                have hFqm9_102 : F102 (qm 9) = cI (cy 3) 30 Pp.2.2 := by rw [eF102, va_up_ne _ _ (pl_ne hFqm9_100 hFqm0_100 rfl)]; exact hFqm9_100
                have hFqm10_102 : F102 (qm 10) = cI (cy 1) 5 Kr.1 := by rw [eF102, va_up_ne _ _ (pl_ne hFqm10_100 hFqm0_100 rfl)]; exact hFqm10_100
                have hFqm11_102 : F102 (qm 11) = cI (cy 3) 5 Kr.2.1 := by rw [eF102, va_up_ne _ _ (pl_ne hFqm11_100 hFqm0_100 rfl)]; exact hFqm11_100
                have hFqm12_102 : F102 (qm 12) = cI (cy 1) 60 Kr.2.2 := by rw [eF102, va_up_ne _ _ (pl_ne hFqm12_100 hFqm0_100 rfl)]; exact hFqm12_100
                have hFqm13_102 : F102 (qm 13) = cI (cy 1) 4 Bk.1 := by rw [eF102, va_up_ne _ _ (pl_ne hFqm13_100 hFqm0_100 rfl)]; exact hFqm13_100
                have hFqm14_102 : F102 (qm 14) = cD (cy 0) 4 Bk.2 := by rw [eF102, va_up_ne _ _ (pl_ne hFqm14_100 hFqm0_100 rfl)]; exact hFqm14_100
                have hFqm15_102 : F102 (qm 15) = cI (cy 1) 6 Xx.2 := by rw [eF102, va_up_ne _ _ (pl_ne hFqm15_100 hFqm0_100 rfl)]; exact hFqm15_100
                refine lv_aload_n hx hb dX9_reckon_217 rfl (lv_at hl 3 rfl) ?_
                refine pg_get (ci := 8) (C := RX9) (T := TX9) (N := 20) hx hb hts hinX9 hown hK hP hmo hFo_102 rfl 2 (by decide) (hts (.fieldLink RX9 13 "RopeDrumsModel" "held" "[J") (by decide +kernel)) (fun _ h9 => h9) rfl dX9_reckon_218 ?_
                refine lv_iload hx hb dX9_reckon_221 (lv_at hl 7 rfl) ?_
                refine lv_aload_n hx hb dX9_reckon_223 rfl (lv_at hl 3 rfl) ?_
                refine pg_get (ci := 8) (C := RX9) (T := TX9) (N := 20) hx hb hts hinX9 hown hK hP hmo hFo_102 rfl 19 (by decide) (hts (.fieldLink RX9 131 "RopeDrumsModel" "outcome" "J") (by decide +kernel)) (fun _ h9 => h9) rfl dX9_reckon_224 ?_
                refine pg_last hx hb hK hP hD hS 2 hm1 hFqm1_102 rfl (vp_in_nI (by omega) (by decide)) dX9_reckon_227 (fun H locs F103 eF103 hP hS => ?_)
                rw [nI_clamp (by omega)] at eF103
                have hFo_103 : F103 o = .inr (8, [.int 0, .ref (qm 0), .ref (qm 1), .ref (qm 2), .ref (qm 3), .ref (qm 4), .ref (qm 5), .ref (qm 6), .ref (qm 7), .int Pp.1, .ref (qm 8), .ref (qm 9), .ref (qm 10), .ref (qm 11), .ref (qm 12), .ref (qm 13), .ref (qm 14), .int 0, .ref (qm 15), .long (rkL 4 r44 r47)]) := by rw [eF103, va_up_ne _ _ (pl_ne hFo_102 hFqm1_102 rfl)]; exact hFo_102
                have hFqm0_103 : F103 (qm 0) = cI (cy 1) 10 (upd Mm.1 j_into (mx (Mm.1 j_x) (Mm.1 j_y))) := by rw [eF103, va_up_ne _ _ (pl_ne hFqm0_102 hFqm1_102 rfl)]; exact hFqm0_102
                have hFqm1_103 : F103 (qm 1) = cJ (cy 2) 10 (vp_updL Mm.2 j_into (rkL 4 r44 r47)) := by rw [eF103]; exact va_up_self _ _ _
                have hFqm2_103 : F103 (qm 2) = cD (cy 0) 6 Dd.1 := by rw [eF103, va_up_ne _ _ (pl_ne hFqm2_102 hFqm1_102 rfl)]; exact hFqm2_102
                have hFqm3_103 : F103 (qm 3) = cD (cy 0) 6 Dd.2.1 := by rw [eF103, va_up_ne _ _ (pl_ne hFqm3_102 hFqm1_102 rfl)]; exact hFqm3_102
                have hFqm4_103 : F103 (qm 4) = cD (cy 0) 6 Dd.2.2.1 := by rw [eF103, va_up_ne _ _ (pl_ne hFqm4_102 hFqm1_102 rfl)]; exact hFqm4_102
                have hFqm5_103 : F103 (qm 5) = cJ (cy 2) 6 Dd.2.2.2 := by rw [eF103, va_up_ne _ _ (pl_ne hFqm5_102 hFqm1_102 rfl)]; exact hFqm5_102
                have hFqm6_103 : F103 (qm 6) = cI (cy 1) 8 Sl.1 := by rw [eF103, va_up_ne _ _ (pl_ne hFqm6_102 hFqm1_102 rfl)]; exact hFqm6_102
                have hFqm7_103 : F103 (qm 7) = cJ (cy 2) 128 Sl.2 := by rw [eF103, va_up_ne _ _ (pl_ne hFqm7_102 hFqm1_102 rfl)]; exact hFqm7_102
                have hFqm8_103 : F103 (qm 8) = cI (cy 1) 30 Pp.2.1 := by rw [eF103, va_up_ne _ _ (pl_ne hFqm8_102 hFqm1_102 rfl)]; exact hFqm8_102
                have hFqm9_103 : F103 (qm 9) = cI (cy 3) 30 Pp.2.2 := by rw [eF103, va_up_ne _ _ (pl_ne hFqm9_102 hFqm1_102 rfl)]; exact hFqm9_102
                have hFqm10_103 : F103 (qm 10) = cI (cy 1) 5 Kr.1 := by rw [eF103, va_up_ne _ _ (pl_ne hFqm10_102 hFqm1_102 rfl)]; exact hFqm10_102
                have hFqm11_103 : F103 (qm 11) = cI (cy 3) 5 Kr.2.1 := by rw [eF103, va_up_ne _ _ (pl_ne hFqm11_102 hFqm1_102 rfl)]; exact hFqm11_102
                have hFqm12_103 : F103 (qm 12) = cI (cy 1) 60 Kr.2.2 := by rw [eF103, va_up_ne _ _ (pl_ne hFqm12_102 hFqm1_102 rfl)]; exact hFqm12_102
                have hFqm13_103 : F103 (qm 13) = cI (cy 1) 4 Bk.1 := by rw [eF103, va_up_ne _ _ (pl_ne hFqm13_102 hFqm1_102 rfl)]; exact hFqm13_102
                have hFqm14_103 : F103 (qm 14) = cD (cy 0) 4 Bk.2 := by rw [eF103, va_up_ne _ _ (pl_ne hFqm14_102 hFqm1_102 rfl)]; exact hFqm14_102
                have hFqm15_103 : F103 (qm 15) = cI (cy 1) 6 Xx.2 := by rw [eF103, va_up_ne _ _ (pl_ne hFqm15_102 hFqm1_102 rfl)]; exact hFqm15_102
                refine lv_aload_n hx hb dX9_reckon_228 rfl (lv_at hl 3 rfl) ?_
                refine lv_iload hx hb dX9_reckon_229 (lv_at hl 2 rfl) ?_
                refine va_calli (va_runV (As := [.int (mx (Mm.1 j_x) (Mm.1 j_y))]) (rest := []) ⟨hx, hb, hml, hown, hts⟩ (c9_answers_0 l G cy L F103 H.size o qm 0 Pp.1 (rkL 4 r44 r47) hmo hFo_103 Xx.2 hm15 hFqm15_103 (mx (Mm.1 j_x) (Mm.1 j_y))) (cwV 1 hts gX9_reckon_X9_answers rfl rfl rfl (by decide +kernel) ⟨Nat.le_of_ble_eq_true rfl, Nat.le_of_ble_eq_true rfl⟩) (preV_of okQ (⟨rfl, hP, hK, hD.top⟩) (pl_recv hK hP (ci := 8) rfl hmo hFo_103)) rfl rfl hl.1 rfl (lv_room (Nat.le_of_ble_eq_true rfl)) dX9_reckon_231 ⟨Nat.le_of_ble_eq_true rfl, Nat.le_of_ble_eq_true rfl⟩) hS (fun q _ h => pl_free hD hS hA q h) (pl_free hD hS hA) (fun r105 F104 t H1 locs ht hvm hw hP1 hz1 hk1 hS => ?_)
                have hP1 : va_P G vwCl (va_pl L F104) t.heap := hP1
                rw [ht] at hP1
                have hP := hP1
                generalize H1 = H at hP hS ⊢
                obtain ⟨hqr105, eF104⟩ := hw
                have hFo_F104 : F104 o = .inr (8, [.int 0, .ref (qm 0), .ref (qm 1), .ref (qm 2), .ref (qm 3), .ref (qm 4), .ref (qm 5), .ref (qm 6), .ref (qm 7), .int Pp.1, .ref (qm 8), .ref (qm 9), .ref (qm 10), .ref (qm 11), .ref (qm 12), .ref (qm 13), .ref (qm 14), .int 0, .ref (qm 15), .long (rkL 4 r44 r47)]) := by rw [eF104]; exact hFo_103
                have hFqm0_F104 : F104 (qm 0) = cI (cy 1) 10 (upd Mm.1 j_into (mx (Mm.1 j_x) (Mm.1 j_y))) := by rw [eF104]; exact hFqm0_103
                have hFqm1_F104 : F104 (qm 1) = cJ (cy 2) 10 (vp_updL Mm.2 j_into (rkL 4 r44 r47)) := by rw [eF104]; exact hFqm1_103
                have hFqm2_F104 : F104 (qm 2) = cD (cy 0) 6 Dd.1 := by rw [eF104]; exact hFqm2_103
                have hFqm3_F104 : F104 (qm 3) = cD (cy 0) 6 Dd.2.1 := by rw [eF104]; exact hFqm3_103
                have hFqm4_F104 : F104 (qm 4) = cD (cy 0) 6 Dd.2.2.1 := by rw [eF104]; exact hFqm4_103
                have hFqm5_F104 : F104 (qm 5) = cJ (cy 2) 6 Dd.2.2.2 := by rw [eF104]; exact hFqm5_103
                have hFqm6_F104 : F104 (qm 6) = cI (cy 1) 8 Sl.1 := by rw [eF104]; exact hFqm6_103
                have hFqm7_F104 : F104 (qm 7) = cJ (cy 2) 128 Sl.2 := by rw [eF104]; exact hFqm7_103
                have hFqm8_F104 : F104 (qm 8) = cI (cy 1) 30 Pp.2.1 := by rw [eF104]; exact hFqm8_103
                have hFqm9_F104 : F104 (qm 9) = cI (cy 3) 30 Pp.2.2 := by rw [eF104]; exact hFqm9_103
                have hFqm10_F104 : F104 (qm 10) = cI (cy 1) 5 Kr.1 := by rw [eF104]; exact hFqm10_103
                have hFqm11_F104 : F104 (qm 11) = cI (cy 3) 5 Kr.2.1 := by rw [eF104]; exact hFqm11_103
                have hFqm12_F104 : F104 (qm 12) = cI (cy 1) 60 Kr.2.2 := by rw [eF104]; exact hFqm12_103
                have hFqm13_F104 : F104 (qm 13) = cI (cy 1) 4 Bk.1 := by rw [eF104]; exact hFqm13_103
                have hFqm14_F104 : F104 (qm 14) = cD (cy 0) 4 Bk.2 := by rw [eF104]; exact hFqm14_103
                have hFqm15_F104 : F104 (qm 15) = cI (cy 1) 6 Xx.2 := by rw [eF104]; exact hFqm15_103
                have hr105 := hqr105
                exact W.iret (v := r105) hx hb hr (fun t ht hW => ⟨⟨r105, F104, rfl, (by subst hr105 hr47 ev46 ev45 hr44 ev43 ev42 ev37; have hc140 := c99; have hsp : sp_reckon Mm Xx 4 (nI j_x) (nI j_y) (nI j_into) = (mx (Mm.1 j_x) (Mm.1 j_y), setM Mm j_into (mx (Mm.1 j_x) (Mm.1 j_y)) (rkL 4 (tn (Mm.1 j_x) (Mm.2 j_x) (mx (Mm.1 j_x) (Mm.1 j_y))) (tn (Mm.1 j_y) (Mm.2 j_y) (mx (Mm.1 j_x) (Mm.1 j_y)))), goodX Xx) := (by unfold sp_reckon; rw [hi_x, hi_y, hi_into, ixk.2.2.2.2]; show rk Mm Xx 4 j_x j_y j_into = _; unfold rk; rw [if_pos (hmx.1 h1l).2.1]; rw [if_neg (fun q => hz0 q.2), if_neg hc140]); rw [hsp]; exact ⟨rfl, (by exact ⟨⟨_, _, hmo, hFo_F104⟩, ⟨hm0, hFqm0_F104⟩, ⟨hm1, hFqm1_F104⟩, ⟨hm2, hFqm2_F104⟩, ⟨hm3, hFqm3_F104⟩, ⟨hm4, hFqm4_F104⟩, ⟨hm5, hFqm5_F104⟩, ⟨hm6, hFqm6_F104⟩, ⟨hm7, hFqm7_F104⟩, ⟨hm8, hFqm8_F104⟩, ⟨hm9, hFqm9_F104⟩, ⟨hm10, hFqm10_F104⟩, ⟨hm11, hFqm11_F104⟩, ⟨hm12, hFqm12_F104⟩, ⟨hm13, hFqm13_F104⟩, ⟨hm14, hFqm14_F104⟩, ⟨hm15, hFqm15_F104⟩, hne⟩)⟩), (by show va_P _ _ _ t.heap; rw [ht]; exact hP)⟩, hS.F ht⟩) hS.2.2 dX9_reckon_234
              · refine lv_aload_n hx hb dX9_reckon_143 rfl (lv_at hl 3 rfl) ?_
                refine pg_get (ci := 8) (C := RX9) (T := TX9) (N := 20) hx hb hts hinX9 hown hK hP hmo hFo_98 rfl 19 (by decide) (hts (.fieldLink RX9 131 "RopeDrumsModel" "outcome" "J") (by decide +kernel)) (fun _ h9 => h9) rfl dX9_reckon_144 ?_
                refine lv_l2i hx hb dX9_reckon_147 rfl ?_
                refine lv_topi (fun v106 ev106 => ?_)
                refine lv_i2l hx hb dX9_reckon_148 rfl ?_
                refine lv_topl (fun v107 ev107 => ?_)
                refine lv_goto (tgt := 156) hx hb dX9_reckon_149 (by decide) ?_
                refine pg_put (ci := 8) (v := .long v107) (ty := .long) (C := RX9) (T := TX9) (N := 20) hx hb hts hinX9 tyX9 tyX9_ok nmX9 hown hK hP hD hS hmo hFo_98 rfl 19 (by decide) (hts (.fieldLink RX9 131 "RopeDrumsModel" "outcome" "J") (by decide +kernel)) (fun _ h9 => h9) rfl (by decide +kernel) (rfl) (rfl) (Nat.le_of_ble_eq_true rfl) dX9_reckon_156 (fun H locs F108 eF108 hP hS => ?_)
                have eF108 : F108 = va_up F98 o (.inr (8, [.int 0, .ref (qm 0), .ref (qm 1), .ref (qm 2), .ref (qm 3), .ref (qm 4), .ref (qm 5), .ref (qm 6), .ref (qm 7), .int Pp.1, .ref (qm 8), .ref (qm 9), .ref (qm 10), .ref (qm 11), .ref (qm 12), .ref (qm 13), .ref (qm 14), .int 0, .ref (qm 15), .long v107])) := eF108
                have hFo_108 : F108 o = .inr (8, [.int 0, .ref (qm 0), .ref (qm 1), .ref (qm 2), .ref (qm 3), .ref (qm 4), .ref (qm 5), .ref (qm 6), .ref (qm 7), .int Pp.1, .ref (qm 8), .ref (qm 9), .ref (qm 10), .ref (qm 11), .ref (qm 12), .ref (qm 13), .ref (qm 14), .int 0, .ref (qm 15), .long v107]) := by rw [eF108]; exact va_up_self _ _ _
                have hFqm0_108 : F108 (qm 0) = cI (cy 1) 10 Mm.1 := by rw [eF108, va_up_ne _ _ (pl_ne hFqm0_98 hFo_98 rfl)]; exact hFqm0_98
                have hFqm1_108 : F108 (qm 1) = cJ (cy 2) 10 Mm.2 := by rw [eF108, va_up_ne _ _ (pl_ne hFqm1_98 hFo_98 rfl)]; exact hFqm1_98
                have hFqm2_108 : F108 (qm 2) = cD (cy 0) 6 Dd.1 := by rw [eF108, va_up_ne _ _ (pl_ne hFqm2_98 hFo_98 rfl)]; exact hFqm2_98
                have hFqm3_108 : F108 (qm 3) = cD (cy 0) 6 Dd.2.1 := by rw [eF108, va_up_ne _ _ (pl_ne hFqm3_98 hFo_98 rfl)]; exact hFqm3_98
                have hFqm4_108 : F108 (qm 4) = cD (cy 0) 6 Dd.2.2.1 := by rw [eF108, va_up_ne _ _ (pl_ne hFqm4_98 hFo_98 rfl)]; exact hFqm4_98
                have hFqm5_108 : F108 (qm 5) = cJ (cy 2) 6 Dd.2.2.2 := by rw [eF108, va_up_ne _ _ (pl_ne hFqm5_98 hFo_98 rfl)]; exact hFqm5_98
                have hFqm6_108 : F108 (qm 6) = cI (cy 1) 8 Sl.1 := by rw [eF108, va_up_ne _ _ (pl_ne hFqm6_98 hFo_98 rfl)]; exact hFqm6_98
                have hFqm7_108 : F108 (qm 7) = cJ (cy 2) 128 Sl.2 := by rw [eF108, va_up_ne _ _ (pl_ne hFqm7_98 hFo_98 rfl)]; exact hFqm7_98
                have hFqm8_108 : F108 (qm 8) = cI (cy 1) 30 Pp.2.1 := by rw [eF108, va_up_ne _ _ (pl_ne hFqm8_98 hFo_98 rfl)]; exact hFqm8_98
                have hFqm9_108 : F108 (qm 9) = cI (cy 3) 30 Pp.2.2 := by rw [eF108, va_up_ne _ _ (pl_ne hFqm9_98 hFo_98 rfl)]; exact hFqm9_98
                have hFqm10_108 : F108 (qm 10) = cI (cy 1) 5 Kr.1 := by rw [eF108, va_up_ne _ _ (pl_ne hFqm10_98 hFo_98 rfl)]; exact hFqm10_98
                have hFqm11_108 : F108 (qm 11) = cI (cy 3) 5 Kr.2.1 := by rw [eF108, va_up_ne _ _ (pl_ne hFqm11_98 hFo_98 rfl)]; exact hFqm11_98
                have hFqm12_108 : F108 (qm 12) = cI (cy 1) 60 Kr.2.2 := by rw [eF108, va_up_ne _ _ (pl_ne hFqm12_98 hFo_98 rfl)]; exact hFqm12_98
                have hFqm13_108 : F108 (qm 13) = cI (cy 1) 4 Bk.1 := by rw [eF108, va_up_ne _ _ (pl_ne hFqm13_98 hFo_98 rfl)]; exact hFqm13_98
                have hFqm14_108 : F108 (qm 14) = cD (cy 0) 4 Bk.2 := by rw [eF108, va_up_ne _ _ (pl_ne hFqm14_98 hFo_98 rfl)]; exact hFqm14_98
                have hFqm15_108 : F108 (qm 15) = cI (cy 1) 6 Xx.2 := by rw [eF108, va_up_ne _ _ (pl_ne hFqm15_98 hFo_98 rfl)]; exact hFqm15_98
                refine lv_goto (tgt := 201) hx hb dX9_reckon_159 (by decide) ?_
                refine lv_aload_n hx hb dX9_reckon_201 rfl (lv_at hl 3 rfl) ?_
                refine pg_get (ci := 8) (C := RX9) (T := TX9) (N := 20) hx hb hts hinX9 hown hK hP hmo hFo_108 rfl 17 (by decide) (hts (.fieldLink RX9 65 "RopeDrumsModel" "failed" "I") (by decide +kernel)) (fun _ h9 => h9) rfl dX9_reckon_202 ?_
                refine lv_if_ne (tgt := 228) hx hb dX9_reckon_205 (by decide) (fun c109 => absurd (by decide) c109) (fun c109 => ?_)
                refine lv_aload_n hx hb dX9_reckon_208 rfl (lv_at hl 3 rfl) ?_
                refine pg_get (ci := 8) (C := RX9) (T := TX9) (N := 20) hx hb hts hinX9 hown hK hP hmo hFo_108 rfl 1 (by decide) (hts (.fieldLink RX9 7 "RopeDrumsModel" "laneOf" "[I") (by decide +kernel)) (fun _ h9 => h9) rfl dX9_reckon_209 ?_
                refine lv_iload hx hb dX9_reckon_212 (lv_at hl 7 rfl) ?_
                refine lv_iload hx hb dX9_reckon_214 (lv_at hl 2 rfl) ?_
                refine pg_iast hx hb hK hP hD hS 1 hm0 hFqm0_108 rfl (vp_in_nI (by omega) (by decide)) dX9_reckon_216 (fun H locs F110 eF110 hP hS => ?_)
                rw [nI_clamp (by omega)] at eF110
                have hFo_110 : F110 o = .inr (8, [.int 0, .ref (qm 0), .ref (qm 1), .ref (qm 2), .ref (qm 3), .ref (qm 4), .ref (qm 5), .ref (qm 6), .ref (qm 7), .int Pp.1, .ref (qm 8), .ref (qm 9), .ref (qm 10), .ref (qm 11), .ref (qm 12), .ref (qm 13), .ref (qm 14), .int 0, .ref (qm 15), .long v107]) := by rw [eF110, va_up_ne _ _ (pl_ne hFo_108 hFqm0_108 rfl)]; exact hFo_108
                have hFqm0_110 : F110 (qm 0) = cI (cy 1) 10 (upd Mm.1 j_into (mx (Mm.1 j_x) (Mm.1 j_y))) := by rw [eF110]; exact va_up_self _ _ _
                have hFqm1_110 : F110 (qm 1) = cJ (cy 2) 10 Mm.2 := by rw [eF110, va_up_ne _ _ (pl_ne hFqm1_108 hFqm0_108 rfl)]; exact hFqm1_108
                have hFqm2_110 : F110 (qm 2) = cD (cy 0) 6 Dd.1 := by rw [eF110, va_up_ne _ _ (pl_ne hFqm2_108 hFqm0_108 rfl)]; exact hFqm2_108
                have hFqm3_110 : F110 (qm 3) = cD (cy 0) 6 Dd.2.1 := by rw [eF110, va_up_ne _ _ (pl_ne hFqm3_108 hFqm0_108 rfl)]; exact hFqm3_108
                have hFqm4_110 : F110 (qm 4) = cD (cy 0) 6 Dd.2.2.1 := by rw [eF110, va_up_ne _ _ (pl_ne hFqm4_108 hFqm0_108 rfl)]; exact hFqm4_108
                have hFqm5_110 : F110 (qm 5) = cJ (cy 2) 6 Dd.2.2.2 := by rw [eF110, va_up_ne _ _ (pl_ne hFqm5_108 hFqm0_108 rfl)]; exact hFqm5_108
                have hFqm6_110 : F110 (qm 6) = cI (cy 1) 8 Sl.1 := by rw [eF110, va_up_ne _ _ (pl_ne hFqm6_108 hFqm0_108 rfl)]; exact hFqm6_108
                have hFqm7_110 : F110 (qm 7) = cJ (cy 2) 128 Sl.2 := by rw [eF110, va_up_ne _ _ (pl_ne hFqm7_108 hFqm0_108 rfl)]; exact hFqm7_108
                have hFqm8_110 : F110 (qm 8) = cI (cy 1) 30 Pp.2.1 := by rw [eF110, va_up_ne _ _ (pl_ne hFqm8_108 hFqm0_108 rfl)]; exact hFqm8_108
                have hFqm9_110 : F110 (qm 9) = cI (cy 3) 30 Pp.2.2 := by rw [eF110, va_up_ne _ _ (pl_ne hFqm9_108 hFqm0_108 rfl)]; exact hFqm9_108
                have hFqm10_110 : F110 (qm 10) = cI (cy 1) 5 Kr.1 := by rw [eF110, va_up_ne _ _ (pl_ne hFqm10_108 hFqm0_108 rfl)]; exact hFqm10_108
                have hFqm11_110 : F110 (qm 11) = cI (cy 3) 5 Kr.2.1 := by rw [eF110, va_up_ne _ _ (pl_ne hFqm11_108 hFqm0_108 rfl)]; exact hFqm11_108
                have hFqm12_110 : F110 (qm 12) = cI (cy 1) 60 Kr.2.2 := by rw [eF110, va_up_ne _ _ (pl_ne hFqm12_108 hFqm0_108 rfl)]; exact hFqm12_108
                have hFqm13_110 : F110 (qm 13) = cI (cy 1) 4 Bk.1 := by rw [eF110, va_up_ne _ _ (pl_ne hFqm13_108 hFqm0_108 rfl)]; exact hFqm13_108
                have hFqm14_110 : F110 (qm 14) = cD (cy 0) 4 Bk.2 := by rw [eF110, va_up_ne _ _ (pl_ne hFqm14_108 hFqm0_108 rfl)]; exact hFqm14_108
                have hFqm15_110 : F110 (qm 15) = cI (cy 1) 6 Xx.2 := by rw [eF110, va_up_ne _ _ (pl_ne hFqm15_108 hFqm0_108 rfl)]; exact hFqm15_108
                refine lv_aload_n hx hb dX9_reckon_217 rfl (lv_at hl 3 rfl) ?_
                refine pg_get (ci := 8) (C := RX9) (T := TX9) (N := 20) hx hb hts hinX9 hown hK hP hmo hFo_110 rfl 2 (by decide) (hts (.fieldLink RX9 13 "RopeDrumsModel" "held" "[J") (by decide +kernel)) (fun _ h9 => h9) rfl dX9_reckon_218 ?_
                refine lv_iload hx hb dX9_reckon_221 (lv_at hl 7 rfl) ?_
                refine lv_aload_n hx hb dX9_reckon_223 rfl (lv_at hl 3 rfl) ?_
                refine pg_get (ci := 8) (C := RX9) (T := TX9) (N := 20) hx hb hts hinX9 hown hK hP hmo hFo_110 rfl 19 (by decide) (hts (.fieldLink RX9 131 "RopeDrumsModel" "outcome" "J") (by decide +kernel)) (fun _ h9 => h9) rfl dX9_reckon_224 ?_
                refine pg_last hx hb hK hP hD hS 2 hm1 hFqm1_110 rfl (vp_in_nI (by omega) (by decide)) dX9_reckon_227 (fun H locs F111 eF111 hP hS => ?_)
                rw [nI_clamp (by omega)] at eF111
                have hFo_111 : F111 o = .inr (8, [.int 0, .ref (qm 0), .ref (qm 1), .ref (qm 2), .ref (qm 3), .ref (qm 4), .ref (qm 5), .ref (qm 6), .ref (qm 7), .int Pp.1, .ref (qm 8), .ref (qm 9), .ref (qm 10), .ref (qm 11), .ref (qm 12), .ref (qm 13), .ref (qm 14), .int 0, .ref (qm 15), .long v107]) := by rw [eF111, va_up_ne _ _ (pl_ne hFo_110 hFqm1_110 rfl)]; exact hFo_110
                have hFqm0_111 : F111 (qm 0) = cI (cy 1) 10 (upd Mm.1 j_into (mx (Mm.1 j_x) (Mm.1 j_y))) := by rw [eF111, va_up_ne _ _ (pl_ne hFqm0_110 hFqm1_110 rfl)]; exact hFqm0_110
                have hFqm1_111 : F111 (qm 1) = cJ (cy 2) 10 (vp_updL Mm.2 j_into v107) := by rw [eF111]; exact va_up_self _ _ _
                have hFqm2_111 : F111 (qm 2) = cD (cy 0) 6 Dd.1 := by rw [eF111, va_up_ne _ _ (pl_ne hFqm2_110 hFqm1_110 rfl)]; exact hFqm2_110
                have hFqm3_111 : F111 (qm 3) = cD (cy 0) 6 Dd.2.1 := by rw [eF111, va_up_ne _ _ (pl_ne hFqm3_110 hFqm1_110 rfl)]; exact hFqm3_110
                have hFqm4_111 : F111 (qm 4) = cD (cy 0) 6 Dd.2.2.1 := by rw [eF111, va_up_ne _ _ (pl_ne hFqm4_110 hFqm1_110 rfl)]; exact hFqm4_110
                have hFqm5_111 : F111 (qm 5) = cJ (cy 2) 6 Dd.2.2.2 := by rw [eF111, va_up_ne _ _ (pl_ne hFqm5_110 hFqm1_110 rfl)]; exact hFqm5_110
                have hFqm6_111 : F111 (qm 6) = cI (cy 1) 8 Sl.1 := by rw [eF111, va_up_ne _ _ (pl_ne hFqm6_110 hFqm1_110 rfl)]; exact hFqm6_110
                have hFqm7_111 : F111 (qm 7) = cJ (cy 2) 128 Sl.2 := by rw [eF111, va_up_ne _ _ (pl_ne hFqm7_110 hFqm1_110 rfl)]; exact hFqm7_110
                have hFqm8_111 : F111 (qm 8) = cI (cy 1) 30 Pp.2.1 := by rw [eF111, va_up_ne _ _ (pl_ne hFqm8_110 hFqm1_110 rfl)]; exact hFqm8_110
                have hFqm9_111 : F111 (qm 9) = cI (cy 3) 30 Pp.2.2 := by rw [eF111, va_up_ne _ _ (pl_ne hFqm9_110 hFqm1_110 rfl)]; exact hFqm9_110
                have hFqm10_111 : F111 (qm 10) = cI (cy 1) 5 Kr.1 := by rw [eF111, va_up_ne _ _ (pl_ne hFqm10_110 hFqm1_110 rfl)]; exact hFqm10_110
                have hFqm11_111 : F111 (qm 11) = cI (cy 3) 5 Kr.2.1 := by rw [eF111, va_up_ne _ _ (pl_ne hFqm11_110 hFqm1_110 rfl)]; exact hFqm11_110
                have hFqm12_111 : F111 (qm 12) = cI (cy 1) 60 Kr.2.2 := by rw [eF111, va_up_ne _ _ (pl_ne hFqm12_110 hFqm1_110 rfl)]; exact hFqm12_110
                have hFqm13_111 : F111 (qm 13) = cI (cy 1) 4 Bk.1 := by rw [eF111, va_up_ne _ _ (pl_ne hFqm13_110 hFqm1_110 rfl)]; exact hFqm13_110
                have hFqm14_111 : F111 (qm 14) = cD (cy 0) 4 Bk.2 := by rw [eF111, va_up_ne _ _ (pl_ne hFqm14_110 hFqm1_110 rfl)]; exact hFqm14_110
                have hFqm15_111 : F111 (qm 15) = cI (cy 1) 6 Xx.2 := by rw [eF111, va_up_ne _ _ (pl_ne hFqm15_110 hFqm1_110 rfl)]; exact hFqm15_110
                refine lv_aload_n hx hb dX9_reckon_228 rfl (lv_at hl 3 rfl) ?_
                refine lv_iload hx hb dX9_reckon_229 (lv_at hl 2 rfl) ?_
                refine va_calli (va_runV (As := [.int (mx (Mm.1 j_x) (Mm.1 j_y))]) (rest := []) ⟨hx, hb, hml, hown, hts⟩ (c9_answers_0 l G cy L F111 H.size o qm 0 Pp.1 v107 hmo hFo_111 Xx.2 hm15 hFqm15_111 (mx (Mm.1 j_x) (Mm.1 j_y))) (cwV 1 hts gX9_reckon_X9_answers rfl rfl rfl (by decide +kernel) ⟨Nat.le_of_ble_eq_true rfl, Nat.le_of_ble_eq_true rfl⟩) (preV_of okQ (⟨rfl, hP, hK, hD.top⟩) (pl_recv hK hP (ci := 8) rfl hmo hFo_111)) rfl rfl hl.1 rfl (lv_room (Nat.le_of_ble_eq_true rfl)) dX9_reckon_231 ⟨Nat.le_of_ble_eq_true rfl, Nat.le_of_ble_eq_true rfl⟩) hS (fun q _ h => pl_free hD hS hA q h) (pl_free hD hS hA) (fun r113 F112 t H1 locs ht hvm hw hP1 hz1 hk1 hS => ?_)
                have hP1 : va_P G vwCl (va_pl L F112) t.heap := hP1
                rw [ht] at hP1
                have hP := hP1
                generalize H1 = H at hP hS ⊢
                obtain ⟨hqr113, eF112⟩ := hw
                have hFo_F112 : F112 o = .inr (8, [.int 0, .ref (qm 0), .ref (qm 1), .ref (qm 2), .ref (qm 3), .ref (qm 4), .ref (qm 5), .ref (qm 6), .ref (qm 7), .int Pp.1, .ref (qm 8), .ref (qm 9), .ref (qm 10), .ref (qm 11), .ref (qm 12), .ref (qm 13), .ref (qm 14), .int 0, .ref (qm 15), .long v107]) := by rw [eF112]; exact hFo_111
                have hFqm0_F112 : F112 (qm 0) = cI (cy 1) 10 (upd Mm.1 j_into (mx (Mm.1 j_x) (Mm.1 j_y))) := by rw [eF112]; exact hFqm0_111
                have hFqm1_F112 : F112 (qm 1) = cJ (cy 2) 10 (vp_updL Mm.2 j_into v107) := by rw [eF112]; exact hFqm1_111
                have hFqm2_F112 : F112 (qm 2) = cD (cy 0) 6 Dd.1 := by rw [eF112]; exact hFqm2_111
                have hFqm3_F112 : F112 (qm 3) = cD (cy 0) 6 Dd.2.1 := by rw [eF112]; exact hFqm3_111
                have hFqm4_F112 : F112 (qm 4) = cD (cy 0) 6 Dd.2.2.1 := by rw [eF112]; exact hFqm4_111
                have hFqm5_F112 : F112 (qm 5) = cJ (cy 2) 6 Dd.2.2.2 := by rw [eF112]; exact hFqm5_111
                have hFqm6_F112 : F112 (qm 6) = cI (cy 1) 8 Sl.1 := by rw [eF112]; exact hFqm6_111
                have hFqm7_F112 : F112 (qm 7) = cJ (cy 2) 128 Sl.2 := by rw [eF112]; exact hFqm7_111
                have hFqm8_F112 : F112 (qm 8) = cI (cy 1) 30 Pp.2.1 := by rw [eF112]; exact hFqm8_111
                have hFqm9_F112 : F112 (qm 9) = cI (cy 3) 30 Pp.2.2 := by rw [eF112]; exact hFqm9_111
                have hFqm10_F112 : F112 (qm 10) = cI (cy 1) 5 Kr.1 := by rw [eF112]; exact hFqm10_111
                have hFqm11_F112 : F112 (qm 11) = cI (cy 3) 5 Kr.2.1 := by rw [eF112]; exact hFqm11_111
                have hFqm12_F112 : F112 (qm 12) = cI (cy 1) 60 Kr.2.2 := by rw [eF112]; exact hFqm12_111
                have hFqm13_F112 : F112 (qm 13) = cI (cy 1) 4 Bk.1 := by rw [eF112]; exact hFqm13_111
                have hFqm14_F112 : F112 (qm 14) = cD (cy 0) 4 Bk.2 := by rw [eF112]; exact hFqm14_111
                have hFqm15_F112 : F112 (qm 15) = cI (cy 1) 6 Xx.2 := by rw [eF112]; exact hFqm15_111
                have hr113 := hqr113
                exact W.iret (v := r113) hx hb hr (fun t ht hW => ⟨⟨r113, F112, rfl, (by subst hr113 ev107 ev106 hr47 ev46 ev45 hr44 ev43 ev42 ev37; have hc140 := c99; have hsp : sp_reckon Mm Xx 4 (nI j_x) (nI j_y) (nI j_into) = (mx (Mm.1 j_x) (Mm.1 j_y), setM Mm j_into (mx (Mm.1 j_x) (Mm.1 j_y)) (rkL 4 (tn (Mm.1 j_x) (Mm.2 j_x) (mx (Mm.1 j_x) (Mm.1 j_y))) (tn (Mm.1 j_y) (Mm.2 j_y) (mx (Mm.1 j_x) (Mm.1 j_y)))).toInt32.toInt64, goodX Xx) := (by unfold sp_reckon; rw [hi_x, hi_y, hi_into, ixk.2.2.2.2]; show rk Mm Xx 4 j_x j_y j_into = _; unfold rk; rw [if_pos (hmx.1 h1l).2.1]; rw [if_neg (fun q => hz0 q.2), if_pos hc140]); rw [hsp]; exact ⟨rfl, (by exact ⟨⟨_, _, hmo, hFo_F112⟩, ⟨hm0, hFqm0_F112⟩, ⟨hm1, hFqm1_F112⟩, ⟨hm2, hFqm2_F112⟩, ⟨hm3, hFqm3_F112⟩, ⟨hm4, hFqm4_F112⟩, ⟨hm5, hFqm5_F112⟩, ⟨hm6, hFqm6_F112⟩, ⟨hm7, hFqm7_F112⟩, ⟨hm8, hFqm8_F112⟩, ⟨hm9, hFqm9_F112⟩, ⟨hm10, hFqm10_F112⟩, ⟨hm11, hFqm11_F112⟩, ⟨hm12, hFqm12_F112⟩, ⟨hm13, hFqm13_F112⟩, ⟨hm14, hFqm14_F112⟩, ⟨hm15, hFqm15_F112⟩, hne⟩)⟩), (by show va_P _ _ _ t.heap; rw [ht]; exact hP)⟩, hS.F ht⟩) hS.2.2 dX9_reckon_234
        · refine lv_aload_n hx hb dX9_reckon_52 rfl (lv_at hl 0 rfl) ?_
          refine pg_get (ci := 8) (C := RX9) (T := TX9) (N := 20) hx hb hts hinX9 hown hK hP hmo hFo_40 rfl 1 (by decide) (hts (.fieldLink RX9 7 "RopeDrumsModel" "laneOf" "[I") (by decide +kernel)) (fun _ h9 => h9) rfl dX9_reckon_53 ?_
          refine lv_iload_n hx hb dX9_reckon_56 rfl (lv_at hl 2 rfl) ?_
          refine pg_iald hx hb hK hP 1 hm0 hFqm0_40 rfl (vp_in_nI (by omega) (by decide)) dX9_reckon_57 ?_
          refine lv_topi (fun v114 ev114 => ?_)
          rw [nI_clamp (by omega)] at ev114
          refine lv_aload_n hx hb dX9_reckon_58 rfl (lv_at hl 0 rfl) ?_
          refine pg_get (ci := 8) (C := RX9) (T := TX9) (N := 20) hx hb hts hinX9 hown hK hP hmo hFo_40 rfl 1 (by decide) (hts (.fieldLink RX9 7 "RopeDrumsModel" "laneOf" "[I") (by decide +kernel)) (fun _ h9 => h9) rfl dX9_reckon_59 ?_
          refine lv_iload_n hx hb dX9_reckon_62 rfl (lv_at hl 3 rfl) ?_
          refine pg_iald hx hb hK hP 1 hm0 hFqm0_40 rfl (vp_in_nI (by omega) (by decide)) dX9_reckon_63 ?_
          refine lv_topi (fun v115 ev115 => ?_)
          rw [nI_clamp (by omega)] at ev115
          refine lv_icmp_le (tgt := 76) hx hb dX9_reckon_64 (by decide) (fun c116 => ?_) (fun c116 => ?_)
          · refine lv_aload_n hx hb dX9_reckon_76 rfl (lv_at hl 0 rfl) ?_
            refine pg_get (ci := 8) (C := RX9) (T := TX9) (N := 20) hx hb hts hinX9 hown hK hP hmo hFo_40 rfl 1 (by decide) (hts (.fieldLink RX9 7 "RopeDrumsModel" "laneOf" "[I") (by decide +kernel)) (fun _ h9 => h9) rfl dX9_reckon_77 ?_
            refine lv_iload_n hx hb dX9_reckon_80 rfl (lv_at hl 3 rfl) ?_
            refine pg_iald hx hb hK hP 1 hm0 hFqm0_40 rfl (vp_in_nI (by omega) (by decide)) dX9_reckon_81 ?_
            refine lv_topi (fun v117 ev117 => ?_)
            rw [nI_clamp (by omega)] at ev117
            exact K _ ((by have hc := c116; rw [ev114, ev115] at hc; rw [ev117]; exact (if_neg (Int32.not_lt.mpr hc)).symm))
          · refine lv_aload_n hx hb dX9_reckon_67 rfl (lv_at hl 0 rfl) ?_
            refine pg_get (ci := 8) (C := RX9) (T := TX9) (N := 20) hx hb hts hinX9 hown hK hP hmo hFo_40 rfl 1 (by decide) (hts (.fieldLink RX9 7 "RopeDrumsModel" "laneOf" "[I") (by decide +kernel)) (fun _ h9 => h9) rfl dX9_reckon_68 ?_
            refine lv_iload_n hx hb dX9_reckon_71 rfl (lv_at hl 2 rfl) ?_
            refine pg_iald hx hb hK hP 1 hm0 hFqm0_40 rfl (vp_in_nI (by omega) (by decide)) dX9_reckon_72 ?_
            refine lv_topi (fun v118 ev118 => ?_)
            rw [nI_clamp (by omega)] at ev118
            refine lv_goto (tgt := 82) hx hb dX9_reckon_73 (by decide) ?_
            exact K _ ((by have hc := c116; rw [ev114, ev115] at hc; rw [ev118]; exact (if_pos (Int32.not_le.mp hc)).symm))
