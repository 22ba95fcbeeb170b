theorem zI0 (f : Nat → Int32) (b : Nat) : zI f b 0 = f := by
  funext i
  unfold zI
  exact if_neg (by omega)
theorem zIs (f : Nat → Int32) (b k : Nat) : upd (zI f b k) (b + k) (-1) = zI f b (k + 1) := by
  funext i
  unfold upd zI
  by_cases h1 : i = b + k
  · rw [if_pos h1, if_pos (by omega)]
  · rw [if_neg h1]
    by_cases h2 : b ≤ i ∧ i < b + k
    · rw [if_pos h2, if_pos (by omega)]
    · rw [if_neg h2, if_neg (by omega)]
theorem tn23 (u : UInt64) : tn 2 (tn 3 u.toInt64 2) 3 = (FP.f2d (FP.d2f u)).toInt64 := by
  have h1 : tn 3 u.toInt64 2 = (FP.d2f u).toInt32.toInt64 := by
    show (FP.d2f (db u.toInt64)).toInt32.toInt64 = _
    rw [db_u]
  rw [h1]
  show (FP.f2d (fl (FP.d2f u).toInt32.toInt64)).toInt64 = _
  rw [fl_sx.2]
theorem okV_3 {u : UInt64} (h : FP.Core.val64 u ≠ .nan) : okV 3 u.toInt64 := Or.inr (Or.inr (Or.inr ⟨rfl, by rw [db_u]; exact h⟩))

set_option maxHeartbeats 8000000 in
set_option maxRecDepth 100000 in
theorem n_spool (l : Launch) (G : va_G) (cy : Nat → ClassId) (L : List Nat) (F : Nat → va_E) (sz : Nat) (o : Nat) (qm : Nat → Nat) (Mm : SM) (Dd : SD) (Sl : SL) (Pp : SP) (Kr : SR) (Bk : SB) (Xx : SX) (hR : RepM cy L o qm Mm Dd Sl Pp Kr Bk Xx F) (hV : Val Mm Dd Sl Pp Kr Bk) (wt re : Int32) (hre : re = 0 ∨ re = 1)  : Met l yX9_spool wsX9_spool ({ frames := 1, cells := 0, slots := 0, locals := 25 }) (va_Pc [.ref o, .int wt, .int re] (fun U => bQ G cy L F sz U U.heap)) (va_Qi (fun (r : Int32) (F' : Nat → va_E) => r = (sp_spool Pp wt re).1 ∧ RepM cy L o qm Mm Dd Sl (sp_spool Pp wt re).2 Kr Bk Xx F') (fun F' t => va_P G vwCl (va_pl L F') t.heap) (va_A (va_pl L F) sz)) 0 0 (va_A (va_pl L F) sz) := by
  refine Met.ofW (cc := cX9_spool) (maxL := 3) (ret := (some .int)) (by decide) rfl ?_
  intro p e s m args below meth c s₁ B hml hv
  obtain ⟨rfl, hsz, hP, hK, hD0⟩ := hv
  have hx := B.exec
  have hb := B.bytes
  have hr := B.returns
  have hts := atoms_spec (ws := wsX9_spool) B.pre
  have hown : s.vm.findClass RX9 = some m.cls := findClass_of_methodNamed B.named
  have hlocks := B.notSynchronized
  have hinX9 : ∀ w ∈ wsX90, w ∈ wsX9_spool := by decide +kernel
  subst hsz
  have hD := hD0.self F s.heap.size
  generalize hAe : va_A (va_pl L F) s.heap.size = A at hD ⊢
  have hA : ∀ q : Nat, s.heap.size ≤ q → A q := fun q h => by rw [← hAe]; exact Or.inr h
  have hS : va_S A s.heap s.heap [] := va_S.rf
  obtain ⟨⟨th, oc, hmo, hFo⟩, ⟨hm0, hF0⟩, ⟨hm1, hF1⟩, ⟨hm2, hF2⟩, ⟨hm3, hF3⟩, ⟨hm4, hF4⟩, ⟨hm5, hF5⟩, ⟨hm6, hF6⟩, ⟨hm7, hF7⟩, ⟨hm8, hF8⟩, ⟨hm9, hF9⟩, ⟨hm10, hF10⟩, ⟨hm11, hF11⟩, ⟨hm12, hF12⟩, ⟨hm13, hF13⟩, ⟨hm14, hF14⟩, ⟨hm15, hF15⟩, hne⟩ := id hR
  obtain ⟨hVM, hVD, hVS, hVP, hVK, hVB⟩ := hV
  have hp30 := hVP.1
  have hl := lv_entry ([.ref o, .int wt, .int re]) (n := 3) (Nat.le_of_ble_eq_true rfl)
  rw [lg_entry_eq]
  generalize (lg_sl ([.ref o, .int wt, .int re]) ++ List.replicate (3 - (lg_sl ([.ref o, .int wt, .int re])).length) Slot.unset).toArray = ls at hl ⊢
  have hl : lv_has ls 3 [(0, .ref o), (1, .int wt), (2, .int re)] := hl
  by_cases hwr : 0 ≤ wt.toInt ∧ wt.toInt ≤ 100000
  · by_cases hfull : Pp.1 = 30
    · refine lv_aload_n hx hb dX9_spool_0 rfl (lv_at hl 0 rfl) ?_
      refine lv_iconst (v := 0) hx hb dX9_spool_1 (by decide) ?_
      refine pg_put (ci := 8) (v := .int 0) (ty := .int) (C := RX9) (T := TX9) (N := 20) hx hb hts hinX9 tyX9 tyX9_ok nmX9 hown hK hP hD hS hmo hFo rfl 0 (by decide) (hts (.fieldLink RX9 61 "RopeDrumsModel" "thrown" "I") (by decide +kernel)) (fun _ h9 => h9) rfl (by decide +kernel) (rfl) (rfl) (Nat.le_of_ble_eq_true rfl) dX9_spool_2 (fun H locs F1 eF1 hP hS => ?_)
      have eF1 : F1 = va_up F o (.inr (8, [.int 0, .ref (qm 0), .ref (qm 1), .ref (qm 2), .ref (qm 3), .ref (qm 4), .ref (qm 5), .ref (qm 6), .ref (qm 7), .int Pp.1, .ref (qm 8), .ref (qm 9), .ref (qm 10), .ref (qm 11), .ref (qm 12), .ref (qm 13), .ref (qm 14), .int Xx.1, .ref (qm 15), .long oc])) := eF1
      have hFo_1 : F1 o = .inr (8, [.int 0, .ref (qm 0), .ref (qm 1), .ref (qm 2), .ref (qm 3), .ref (qm 4), .ref (qm 5), .ref (qm 6), .ref (qm 7), .int Pp.1, .ref (qm 8), .ref (qm 9), .ref (qm 10), .ref (qm 11), .ref (qm 12), .ref (qm 13), .ref (qm 14), .int Xx.1, .ref (qm 15), .long oc]) := by rw [eF1]; exact va_up_self _ _ _
      have hFqm0_1 : F1 (qm 0) = cI (cy 1) 10 Mm.1 := by rw [eF1, va_up_ne _ _ (pl_ne hF0 hFo rfl)]; exact hF0
      have hFqm1_1 : F1 (qm 1) = cJ (cy 2) 10 Mm.2 := by rw [eF1, va_up_ne _ _ (pl_ne hF1 hFo rfl)]; exact hF1
      have hFqm2_1 : F1 (qm 2) = cD (cy 0) 6 Dd.1 := by rw [eF1, va_up_ne _ _ (pl_ne hF2 hFo rfl)]; exact hF2
      have hFqm3_1 : F1 (qm 3) = cD (cy 0) 6 Dd.2.1 := by rw [eF1, va_up_ne _ _ (pl_ne hF3 hFo rfl)]; exact hF3
      have hFqm4_1 : F1 (qm 4) = cD (cy 0) 6 Dd.2.2.1 := by rw [eF1, va_up_ne _ _ (pl_ne hF4 hFo rfl)]; exact hF4
      have hFqm5_1 : F1 (qm 5) = cJ (cy 2) 6 Dd.2.2.2 := by rw [eF1, va_up_ne _ _ (pl_ne hF5 hFo rfl)]; exact hF5
      have hFqm6_1 : F1 (qm 6) = cI (cy 1) 8 Sl.1 := by rw [eF1, va_up_ne _ _ (pl_ne hF6 hFo rfl)]; exact hF6
      have hFqm7_1 : F1 (qm 7) = cJ (cy 2) 128 Sl.2 := by rw [eF1, va_up_ne _ _ (pl_ne hF7 hFo rfl)]; exact hF7
      have hFqm8_1 : F1 (qm 8) = cI (cy 1) 30 Pp.2.1 := by rw [eF1, va_up_ne _ _ (pl_ne hF8 hFo rfl)]; exact hF8
      have hFqm9_1 : F1 (qm 9) = cI (cy 3) 30 Pp.2.2 := by rw [eF1, va_up_ne _ _ (pl_ne hF9 hFo rfl)]; exact hF9
      have hFqm10_1 : F1 (qm 10) = cI (cy 1) 5 Kr.1 := by rw [eF1, va_up_ne _ _ (pl_ne hF10 hFo rfl)]; exact hF10
      have hFqm11_1 : F1 (qm 11) = cI (cy 3) 5 Kr.2.1 := by rw [eF1, va_up_ne _ _ (pl_ne hF11 hFo rfl)]; exact hF11
      have hFqm12_1 : F1 (qm 12) = cI (cy 1) 60 Kr.2.2 := by rw [eF1, va_up_ne _ _ (pl_ne hF12 hFo rfl)]; exact hF12
      have hFqm13_1 : F1 (qm 13) = cI (cy 1) 4 Bk.1 := by rw [eF1, va_up_ne _ _ (pl_ne hF13 hFo rfl)]; exact hF13
      have hFqm14_1 : F1 (qm 14) = cD (cy 0) 4 Bk.2 := by rw [eF1, va_up_ne _ _ (pl_ne hF14 hFo rfl)]; exact hF14
      have hFqm15_1 : F1 (qm 15) = cI (cy 1) 6 Xx.2 := by rw [eF1, va_up_ne _ _ (pl_ne hF15 hFo rfl)]; exact hF15
      refine lv_iload_n hx hb dX9_spool_5 rfl (lv_at hl 1 rfl) ?_
      refine lv_i2l hx hb dX9_spool_6 rfl ?_
      refine lv_topl (fun v2 ev2 => ?_)
      refine lv_lconst (v := 0) hx hb dX9_spool_7 (by decide) ?_
      refine lv_ldc2 hx hb hown (hts (.constantLong RX9 195 (100000)) (by decide +kernel)) dX9_spool_8 ?_
      refine vp_callSi (W.runS (As := [.long v2, .long 0, .long 100000]) (rest := []) ⟨hx, hb, hml, hown, hts⟩ (c9_in l v2 0 100000) (va_cwS 3 hts gX9_spool_X9_in rfl rfl rfl (by decide +kernel) ⟨Nat.le_of_ble_eq_true rfl, Nat.le_of_ble_eq_true rfl⟩) (preS_of okT (trivial)) rfl rfl hl.1 rfl (lv_room (Nat.le_of_ble_eq_true rfl)) dX9_spool_11 ⟨Nat.le_of_ble_eq_true rfl, Nat.le_of_ble_eq_true rfl⟩) (fun r3 hr3 => ?_)
      have hzr3 : r3 = 1 := by rw [hr3, ev2, inq_i (y := 0) (z := 100000) (by decide) (by decide)]; exact if_pos (hwr)
      subst hzr3
      refine lv_if_ne (tgt := 21) hx hb dX9_spool_14 (by decide) (fun c4 => ?_) (fun c4 => absurd c4 (by decide))
      refine lv_aload_n hx hb dX9_spool_21 rfl (lv_at hl 0 rfl) ?_
      refine pg_get (ci := 8) (C := RX9) (T := TX9) (N := 20) hx hb hts hinX9 hown hK hP hmo hFo_1 rfl 9 (by decide) (hts (.fieldLink RX9 192 "RopeDrumsModel" "spools" "I") (by decide +kernel)) (fun _ h9 => h9) rfl dX9_spool_22 ?_
      refine lv_bipush (v := 30) hx hb dX9_spool_25 (by decide) ?_
      refine lv_icmp_ne (tgt := 34) hx hb dX9_spool_27 (by decide) (fun c5 => absurd (hfull) c5) (fun c5 => ?_)
      refine lv_sipush (v := -1003) hx hb dX9_spool_30 (by decide) ?_
      exact W.iret (v := -1003) hx hb hr (fun t ht hW => ⟨⟨-1003, F1, rfl, (by subst ev2; have hsp : sp_spool Pp wt re = (-1003, Pp) := (by unfold sp_spool; rw [if_pos hwr]; exact if_pos hfull); rw [hsp]; exact ⟨rfl, (by exact ⟨⟨_, _, hmo, hFo_1⟩, ⟨hm0, hFqm0_1⟩, ⟨hm1, hFqm1_1⟩, ⟨hm2, hFqm2_1⟩, ⟨hm3, hFqm3_1⟩, ⟨hm4, hFqm4_1⟩, ⟨hm5, hFqm5_1⟩, ⟨hm6, hFqm6_1⟩, ⟨hm7, hFqm7_1⟩, ⟨hm8, hFqm8_1⟩, ⟨hm9, hFqm9_1⟩, ⟨hm10, hFqm10_1⟩, ⟨hm11, hFqm11_1⟩, ⟨hm12, hFqm12_1⟩, ⟨hm13, hFqm13_1⟩, ⟨hm14, hFqm14_1⟩, ⟨hm15, hFqm15_1⟩, hne⟩)⟩), (by show va_P _ _ _ t.heap; rw [ht]; exact hP)⟩, hS.F ht⟩) hS.2.2 dX9_spool_33
    · refine lv_aload_n hx hb dX9_spool_0 rfl (lv_at hl 0 rfl) ?_
      refine lv_iconst (v := 0) hx hb dX9_spool_1 (by decide) ?_
      refine pg_put (ci := 8) (v := .int 0) (ty := .int) (C := RX9) (T := TX9) (N := 20) hx hb hts hinX9 tyX9 tyX9_ok nmX9 hown hK hP hD hS hmo hFo rfl 0 (by decide) (hts (.fieldLink RX9 61 "RopeDrumsModel" "thrown" "I") (by decide +kernel)) (fun _ h9 => h9) rfl (by decide +kernel) (rfl) (rfl) (Nat.le_of_ble_eq_true rfl) dX9_spool_2 (fun H locs F6 eF6 hP hS => ?_)
      have eF6 : F6 = va_up F o (.inr (8, [.int 0, .ref (qm 0), .ref (qm 1), .ref (qm 2), .ref (qm 3), .ref (qm 4), .ref (qm 5), .ref (qm 6), .ref (qm 7), .int Pp.1, .ref (qm 8), .ref (qm 9), .ref (qm 10), .ref (qm 11), .ref (qm 12), .ref (qm 13), .ref (qm 14), .int Xx.1, .ref (qm 15), .long oc])) := eF6
      have hFo_6 : F6 o = .inr (8, [.int 0, .ref (qm 0), .ref (qm 1), .ref (qm 2), .ref (qm 3), .ref (qm 4), .ref (qm 5), .ref (qm 6), .ref (qm 7), .int Pp.1, .ref (qm 8), .ref (qm 9), .ref (qm 10), .ref (qm 11), .ref (qm 12), .ref (qm 13), .ref (qm 14), .int Xx.1, .ref (qm 15), .long oc]) := by rw [eF6]; exact va_up_self _ _ _
      have hFqm0_6 : F6 (qm 0) = cI (cy 1) 10 Mm.1 := by rw [eF6, va_up_ne _ _ (pl_ne hF0 hFo rfl)]; exact hF0
      have hFqm1_6 : F6 (qm 1) = cJ (cy 2) 10 Mm.2 := by rw [eF6, va_up_ne _ _ (pl_ne hF1 hFo rfl)]; exact hF1
      have hFqm2_6 : F6 (qm 2) = cD (cy 0) 6 Dd.1 := by rw [eF6, va_up_ne _ _ (pl_ne hF2 hFo rfl)]; exact hF2
      have hFqm3_6 : F6 (qm 3) = cD (cy 0) 6 Dd.2.1 := by rw [eF6, va_up_ne _ _ (pl_ne hF3 hFo rfl)]; exact hF3
      have hFqm4_6 : F6 (qm 4) = cD (cy 0) 6 Dd.2.2.1 := by rw [eF6, va_up_ne _ _ (pl_ne hF4 hFo rfl)]; exact hF4
      have hFqm5_6 : F6 (qm 5) = cJ (cy 2) 6 Dd.2.2.2 := by rw [eF6, va_up_ne _ _ (pl_ne hF5 hFo rfl)]; exact hF5
      have hFqm6_6 : F6 (qm 6) = cI (cy 1) 8 Sl.1 := by rw [eF6, va_up_ne _ _ (pl_ne hF6 hFo rfl)]; exact hF6
      have hFqm7_6 : F6 (qm 7) = cJ (cy 2) 128 Sl.2 := by rw [eF6, va_up_ne _ _ (pl_ne hF7 hFo rfl)]; exact hF7
      have hFqm8_6 : F6 (qm 8) = cI (cy 1) 30 Pp.2.1 := by rw [eF6, va_up_ne _ _ (pl_ne hF8 hFo rfl)]; exact hF8
      have hFqm9_6 : F6 (qm 9) = cI (cy 3) 30 Pp.2.2 := by rw [eF6, va_up_ne _ _ (pl_ne hF9 hFo rfl)]; exact hF9
      have hFqm10_6 : F6 (qm 10) = cI (cy 1) 5 Kr.1 := by rw [eF6, va_up_ne _ _ (pl_ne hF10 hFo rfl)]; exact hF10
      have hFqm11_6 : F6 (qm 11) = cI (cy 3) 5 Kr.2.1 := by rw [eF6, va_up_ne _ _ (pl_ne hF11 hFo rfl)]; exact hF11
      have hFqm12_6 : F6 (qm 12) = cI (cy 1) 60 Kr.2.2 := by rw [eF6, va_up_ne _ _ (pl_ne hF12 hFo rfl)]; exact hF12
      have hFqm13_6 : F6 (qm 13) = cI (cy 1) 4 Bk.1 := by rw [eF6, va_up_ne _ _ (pl_ne hF13 hFo rfl)]; exact hF13
      have hFqm14_6 : F6 (qm 14) = cD (cy 0) 4 Bk.2 := by rw [eF6, va_up_ne _ _ (pl_ne hF14 hFo rfl)]; exact hF14
      have hFqm15_6 : F6 (qm 15) = cI (cy 1) 6 Xx.2 := by rw [eF6, va_up_ne _ _ (pl_ne hF15 hFo rfl)]; exact hF15
      refine lv_iload_n hx hb dX9_spool_5 rfl (lv_at hl 1 rfl) ?_
      refine lv_i2l hx hb dX9_spool_6 rfl ?_
      refine lv_topl (fun v7 ev7 => ?_)
      refine lv_lconst (v := 0) hx hb dX9_spool_7 (by decide) ?_
      refine lv_ldc2 hx hb hown (hts (.constantLong RX9 195 (100000)) (by decide +kernel)) dX9_spool_8 ?_
      refine vp_callSi (W.runS (As := [.long v7, .long 0, .long 100000]) (rest := []) ⟨hx, hb, hml, hown, hts⟩ (c9_in l v7 0 100000) (va_cwS 3 hts gX9_spool_X9_in rfl rfl rfl (by decide +kernel) ⟨Nat.le_of_ble_eq_true rfl, Nat.le_of_ble_eq_true rfl⟩) (preS_of okT (trivial)) rfl rfl hl.1 rfl (lv_room (Nat.le_of_ble_eq_true rfl)) dX9_spool_11 ⟨Nat.le_of_ble_eq_true rfl, Nat.le_of_ble_eq_true rfl⟩) (fun r8 hr8 => ?_)
      have hzr8 : r8 = 1 := by rw [hr8, ev7, inq_i (y := 0) (z := 100000) (by decide) (by decide)]; exact if_pos (hwr)
      subst hzr8
      refine lv_if_ne (tgt := 21) hx hb dX9_spool_14 (by decide) (fun c9 => ?_) (fun c9 => absurd c9 (by decide))
      refine lv_aload_n hx hb dX9_spool_21 rfl (lv_at hl 0 rfl) ?_
      refine pg_get (ci := 8) (C := RX9) (T := TX9) (N := 20) hx hb hts hinX9 hown hK hP hmo hFo_6 rfl 9 (by decide) (hts (.fieldLink RX9 192 "RopeDrumsModel" "spools" "I") (by decide +kernel)) (fun _ h9 => h9) rfl dX9_spool_22 ?_
      refine lv_bipush (v := 30) hx hb dX9_spool_25 (by decide) ?_
      refine lv_icmp_ne (tgt := 34) hx hb dX9_spool_27 (by decide) (fun c10 => ?_) (fun c10 => absurd c10 (hfull))
      refine lv_aload_n hx hb dX9_spool_34 rfl (lv_at hl 0 rfl) ?_
      refine pg_get (ci := 8) (C := RX9) (T := TX9) (N := 20) hx hb hts hinX9 hown hK hP hmo hFo_6 rfl 10 (by decide) (hts (.fieldLink RX9 36 "RopeDrumsModel" "weightOf" "[I") (by decide +kernel)) (fun _ h9 => h9) rfl dX9_spool_35 ?_
      refine lv_aload_n hx hb dX9_spool_38 rfl (lv_at hl 0 rfl) ?_
      refine pg_get (ci := 8) (C := RX9) (T := TX9) (N := 20) hx hb hts hinX9 hown hK hP hmo hFo_6 rfl 9 (by decide) (hts (.fieldLink RX9 192 "RopeDrumsModel" "spools" "I") (by decide +kernel)) (fun _ h9 => h9) rfl dX9_spool_39 ?_
      refine lv_iload_n hx hb dX9_spool_42 rfl (lv_at hl 1 rfl) ?_
      refine pg_iast hx hb hK hP hD hS 1 hm8 hFqm8_6 rfl (vp_in_iff.mpr ⟨hp30.1, by have hf := hfull; rw [fa_eq] at hf; have h30 : (30 : Int32).toInt = 30 := (by decide); omega⟩) dX9_spool_43 (fun H locs F11 eF11 hP hS => ?_)
      have hFo_11 : F11 o = .inr (8, [.int 0, .ref (qm 0), .ref (qm 1), .ref (qm 2), .ref (qm 3), .ref (qm 4), .ref (qm 5), .ref (qm 6), .ref (qm 7), .int Pp.1, .ref (qm 8), .ref (qm 9), .ref (qm 10), .ref (qm 11), .ref (qm 12), .ref (qm 13), .ref (qm 14), .int Xx.1, .ref (qm 15), .long oc]) := by rw [eF11, va_up_ne _ _ (pl_ne hFo_6 hFqm8_6 rfl)]; exact hFo_6
      have hFqm0_11 : F11 (qm 0) = cI (cy 1) 10 Mm.1 := by rw [eF11, va_up_ne _ _ (pl_ne hFqm0_6 hFqm8_6 rfl)]; exact hFqm0_6
      have hFqm1_11 : F11 (qm 1) = cJ (cy 2) 10 Mm.2 := by rw [eF11, va_up_ne _ _ (pl_ne hFqm1_6 hFqm8_6 rfl)]; exact hFqm1_6
      have hFqm2_11 : F11 (qm 2) = cD (cy 0) 6 Dd.1 := by rw [eF11, va_up_ne _ _ (pl_ne hFqm2_6 hFqm8_6 rfl)]; exact hFqm2_6
      have hFqm3_11 : F11 (qm 3) = cD (cy 0) 6 Dd.2.1 := by rw [eF11, va_up_ne _ _ (pl_ne hFqm3_6 hFqm8_6 rfl)]; exact hFqm3_6
      have hFqm4_11 : F11 (qm 4) = cD (cy 0) 6 Dd.2.2.1 := by rw [eF11, va_up_ne _ _ (pl_ne hFqm4_6 hFqm8_6 rfl)]; exact hFqm4_6
      have hFqm5_11 : F11 (qm 5) = cJ (cy 2) 6 Dd.2.2.2 := by rw [eF11, va_up_ne _ _ (pl_ne hFqm5_6 hFqm8_6 rfl)]; exact hFqm5_6
      have hFqm6_11 : F11 (qm 6) = cI (cy 1) 8 Sl.1 := by rw [eF11, va_up_ne _ _ (pl_ne hFqm6_6 hFqm8_6 rfl)]; exact hFqm6_6
      have hFqm7_11 : F11 (qm 7) = cJ (cy 2) 128 Sl.2 := by rw [eF11, va_up_ne _ _ (pl_ne hFqm7_6 hFqm8_6 rfl)]; exact hFqm7_6
      have hFqm8_11 : F11 (qm 8) = cI (cy 1) 30 (upd Pp.2.1 (Pp.1 : Int32).toNatClampNeg wt) := by rw [eF11]; exact va_up_self _ _ _
      have hFqm9_11 : F11 (qm 9) = cI (cy 3) 30 Pp.2.2 := by rw [eF11, va_up_ne _ _ ((Ne.symm hne.2.2.2.1))]; exact hFqm9_6
      have hFqm10_11 : F11 (qm 10) = cI (cy 1) 5 Kr.1 := by rw [eF11, va_up_ne _ _ (pl_ne hFqm10_6 hFqm8_6 rfl)]; exact hFqm10_6
      have hFqm11_11 : F11 (qm 11) = cI (cy 3) 5 Kr.2.1 := by rw [eF11, va_up_ne _ _ (pl_ne hFqm11_6 hFqm8_6 rfl)]; exact hFqm11_6
      have hFqm12_11 : F11 (qm 12) = cI (cy 1) 60 Kr.2.2 := by rw [eF11, va_up_ne _ _ (pl_ne hFqm12_6 hFqm8_6 rfl)]; exact hFqm12_6
      have hFqm13_11 : F11 (qm 13) = cI (cy 1) 4 Bk.1 := by rw [eF11, va_up_ne _ _ (pl_ne hFqm13_6 hFqm8_6 rfl)]; exact hFqm13_6
      have hFqm14_11 : F11 (qm 14) = cD (cy 0) 4 Bk.2 := by rw [eF11, va_up_ne _ _ (pl_ne hFqm14_6 hFqm8_6 rfl)]; exact hFqm14_6
      have hFqm15_11 : F11 (qm 15) = cI (cy 1) 6 Xx.2 := by rw [eF11, va_up_ne _ _ (pl_ne hFqm15_6 hFqm8_6 rfl)]; exact hFqm15_6
      refine lv_aload_n hx hb dX9_spool_44 rfl (lv_at hl 0 rfl) ?_
      refine pg_get (ci := 8) (C := RX9) (T := TX9) (N := 20) hx hb hts hinX9 hown hK hP hmo hFo_11 rfl 11 (by decide) (hts (.fieldLink RX9 39 "RopeDrumsModel" "isReel" "[Z") (by decide +kernel)) (fun _ h9 => h9) rfl dX9_spool_45 ?_
      refine lv_aload_n hx hb dX9_spool_48 rfl (lv_at hl 0 rfl) ?_
      refine pg_get (ci := 8) (C := RX9) (T := TX9) (N := 20) hx hb hts hinX9 hown hK hP hmo hFo_11 rfl 9 (by decide) (hts (.fieldLink RX9 192 "RopeDrumsModel" "spools" "I") (by decide +kernel)) (fun _ h9 => h9) rfl dX9_spool_49 ?_
      refine lv_iload_n hx hb dX9_spool_52 rfl (lv_at hl 2 rfl) ?_
      refine pg_zast hx hb hK hP hD hS 3 hm9 hFqm9_11 rfl (hre) (vp_in_iff.mpr ⟨hp30.1, by have hf := hfull; rw [fa_eq] at hf; have h30 : (30 : Int32).toInt = 30 := (by decide); omega⟩) dX9_spool_53 (fun H locs F12 eF12 hP hS => ?_)
      have hFo_12 : F12 o = .inr (8, [.int 0, .ref (qm 0), .ref (qm 1), .ref (qm 2), .ref (qm 3), .ref (qm 4), .ref (qm 5), .ref (qm 6), .ref (qm 7), .int Pp.1, .ref (qm 8), .ref (qm 9), .ref (qm 10), .ref (qm 11), .ref (qm 12), .ref (qm 13), .ref (qm 14), .int Xx.1, .ref (qm 15), .long oc]) := by rw [eF12, va_up_ne _ _ (pl_ne hFo_11 hFqm9_11 rfl)]; exact hFo_11
      have hFqm0_12 : F12 (qm 0) = cI (cy 1) 10 Mm.1 := by rw [eF12, va_up_ne _ _ (pl_ne hFqm0_11 hFqm9_11 rfl)]; exact hFqm0_11
      have hFqm1_12 : F12 (qm 1) = cJ (cy 2) 10 Mm.2 := by rw [eF12, va_up_ne _ _ (pl_ne hFqm1_11 hFqm9_11 rfl)]; exact hFqm1_11
      have hFqm2_12 : F12 (qm 2) = cD (cy 0) 6 Dd.1 := by rw [eF12, va_up_ne _ _ (pl_ne hFqm2_11 hFqm9_11 rfl)]; exact hFqm2_11
      have hFqm3_12 : F12 (qm 3) = cD (cy 0) 6 Dd.2.1 := by rw [eF12, va_up_ne _ _ (pl_ne hFqm3_11 hFqm9_11 rfl)]; exact hFqm3_11
      have hFqm4_12 : F12 (qm 4) = cD (cy 0) 6 Dd.2.2.1 := by rw [eF12, va_up_ne _ _ (pl_ne hFqm4_11 hFqm9_11 rfl)]; exact hFqm4_11
      have hFqm5_12 : F12 (qm 5) = cJ (cy 2) 6 Dd.2.2.2 := by rw [eF12, va_up_ne _ _ (pl_ne hFqm5_11 hFqm9_11 rfl)]; exact hFqm5_11
      have hFqm6_12 : F12 (qm 6) = cI (cy 1) 8 Sl.1 := by rw [eF12, va_up_ne _ _ (pl_ne hFqm6_11 hFqm9_11 rfl)]; exact hFqm6_11
      have hFqm7_12 : F12 (qm 7) = cJ (cy 2) 128 Sl.2 := by rw [eF12, va_up_ne _ _ (pl_ne hFqm7_11 hFqm9_11 rfl)]; exact hFqm7_11
      have hFqm8_12 : F12 (qm 8) = cI (cy 1) 30 (upd Pp.2.1 (Pp.1 : Int32).toNatClampNeg wt) := by rw [eF12, va_up_ne _ _ (hne.2.2.2.1)]; exact hFqm8_11
      have hFqm9_12 : F12 (qm 9) = cI (cy 3) 30 (upd Pp.2.2 (Pp.1 : Int32).toNatClampNeg re) := by rw [eF12]; exact va_up_self _ _ _
      have hFqm10_12 : F12 (qm 10) = cI (cy 1) 5 Kr.1 := by rw [eF12, va_up_ne _ _ (pl_ne hFqm10_11 hFqm9_11 rfl)]; exact hFqm10_11
      have hFqm11_12 : F12 (qm 11) = cI (cy 3) 5 Kr.2.1 := by rw [eF12, va_up_ne _ _ (pl_ne hFqm11_11 hFqm9_11 rfl)]; exact hFqm11_11
      have hFqm12_12 : F12 (qm 12) = cI (cy 1) 60 Kr.2.2 := by rw [eF12, va_up_ne _ _ (pl_ne hFqm12_11 hFqm9_11 rfl)]; exact hFqm12_11
      have hFqm13_12 : F12 (qm 13) = cI (cy 1) 4 Bk.1 := by rw [eF12, va_up_ne _ _ (pl_ne hFqm13_11 hFqm9_11 rfl)]; exact hFqm13_11
      have hFqm14_12 : F12 (qm 14) = cD (cy 0) 4 Bk.2 := by rw [eF12, va_up_ne _ _ (pl_ne hFqm14_11 hFqm9_11 rfl)]; exact hFqm14_11
      have hFqm15_12 : F12 (qm 15) = cI (cy 1) 6 Xx.2 := by rw [eF12, va_up_ne _ _ (pl_ne hFqm15_11 hFqm9_11 rfl)]; exact hFqm15_11
      refine lv_aload_n hx hb dX9_spool_54 rfl (lv_at hl 0 rfl) ?_
      refine lv_dup hx hb dX9_spool_55 rfl ?_
      refine pg_get (ci := 8) (C := RX9) (T := TX9) (N := 20) hx hb hts hinX9 hown hK hP hmo hFo_12 rfl 9 (by decide) (hts (.fieldLink RX9 192 "RopeDrumsModel" "spools" "I") (by decide +kernel)) (fun _ h9 => h9) rfl dX9_spool_56 ?_
      refine lv_iconst (v := 1) hx hb dX9_spool_59 (by decide) ?_
      refine lv_iadd hx hb dX9_spool_60 ?_
      refine lv_topi (fun v13 ev13 => ?_)
      refine pg_put (ci := 8) (v := .int v13) (ty := .int) (C := RX9) (T := TX9) (N := 20) hx hb hts hinX9 tyX9 tyX9_ok nmX9 hown hK hP hD hS hmo hFo_12 rfl 9 (by decide) (hts (.fieldLink RX9 192 "RopeDrumsModel" "spools" "I") (by decide +kernel)) (fun _ h9 => h9) rfl (by decide +kernel) (rfl) (rfl) (Nat.le_of_ble_eq_true rfl) dX9_spool_61 (fun H locs F14 eF14 hP hS => ?_)
      have eF14 : F14 = va_up F12 o (.inr (8, [.int 0, .ref (qm 0), .ref (qm 1), .ref (qm 2), .ref (qm 3), .ref (qm 4), .ref (qm 5), .ref (qm 6), .ref (qm 7), .int v13, .ref (qm 8), .ref (qm 9), .ref (qm 10), .ref (qm 11), .ref (qm 12), .ref (qm 13), .ref (qm 14), .int Xx.1, .ref (qm 15), .long oc])) := eF14
      have hFo_14 : F14 o = .inr (8, [.int 0, .ref (qm 0), .ref (qm 1), .ref (qm 2), .ref (qm 3), .ref (qm 4), .ref (qm 5), .ref (qm 6), .ref (qm 7), .int v13, .ref (qm 8), .ref (qm 9), .ref (qm 10), .ref (qm 11), .ref (qm 12), .ref (qm 13), .ref (qm 14), .int Xx.1, .ref (qm 15), .long oc]) := by rw [eF14]; exact va_up_self _ _ _
      have hFqm0_14 : F14 (qm 0) = cI (cy 1) 10 Mm.1 := by rw [eF14, va_up_ne _ _ (pl_ne hFqm0_12 hFo_12 rfl)]; exact hFqm0_12
      have hFqm1_14 : F14 (qm 1) = cJ (cy 2) 10 Mm.2 := by rw [eF14, va_up_ne _ _ (pl_ne hFqm1_12 hFo_12 rfl)]; exact hFqm1_12
      have hFqm2_14 : F14 (qm 2) = cD (cy 0) 6 Dd.1 := by rw [eF14, va_up_ne _ _ (pl_ne hFqm2_12 hFo_12 rfl)]; exact hFqm2_12
      have hFqm3_14 : F14 (qm 3) = cD (cy 0) 6 Dd.2.1 := by rw [eF14, va_up_ne _ _ (pl_ne hFqm3_12 hFo_12 rfl)]; exact hFqm3_12
      have hFqm4_14 : F14 (qm 4) = cD (cy 0) 6 Dd.2.2.1 := by rw [eF14, va_up_ne _ _ (pl_ne hFqm4_12 hFo_12 rfl)]; exact hFqm4_12
      have hFqm5_14 : F14 (qm 5) = cJ (cy 2) 6 Dd.2.2.2 := by rw [eF14, va_up_ne _ _ (pl_ne hFqm5_12 hFo_12 rfl)]; exact hFqm5_12
      have hFqm6_14 : F14 (qm 6) = cI (cy 1) 8 Sl.1 := by rw [eF14, va_up_ne _ _ (pl_ne hFqm6_12 hFo_12 rfl)]; exact hFqm6_12
      have hFqm7_14 : F14 (qm 7) = cJ (cy 2) 128 Sl.2 := by rw [eF14, va_up_ne _ _ (pl_ne hFqm7_12 hFo_12 rfl)]; exact hFqm7_12
      have hFqm8_14 : F14 (qm 8) = cI (cy 1) 30 (upd Pp.2.1 (Pp.1 : Int32).toNatClampNeg wt) := by rw [eF14, va_up_ne _ _ (pl_ne hFqm8_12 hFo_12 rfl)]; exact hFqm8_12
      have hFqm9_14 : F14 (qm 9) = cI (cy 3) 30 (upd Pp.2.2 (Pp.1 : Int32).toNatClampNeg re) := by rw [eF14, va_up_ne _ _ (pl_ne hFqm9_12 hFo_12 rfl)]; exact hFqm9_12
      have hFqm10_14 : F14 (qm 10) = cI (cy 1) 5 Kr.1 := by rw [eF14, va_up_ne _ _ (pl_ne hFqm10_12 hFo_12 rfl)]; exact hFqm10_12
      have hFqm11_14 : F14 (qm 11) = cI (cy 3) 5 Kr.2.1 := by rw [eF14, va_up_ne _ _ (pl_ne hFqm11_12 hFo_12 rfl)]; exact hFqm11_12
      have hFqm12_14 : F14 (qm 12) = cI (cy 1) 60 Kr.2.2 := by rw [eF14, va_up_ne _ _ (pl_ne hFqm12_12 hFo_12 rfl)]; exact hFqm12_12
      have hFqm13_14 : F14 (qm 13) = cI (cy 1) 4 Bk.1 := by rw [eF14, va_up_ne _ _ (pl_ne hFqm13_12 hFo_12 rfl)]; exact hFqm13_12
      have hFqm14_14 : F14 (qm 14) = cD (cy 0) 4 Bk.2 := by rw [eF14, va_up_ne _ _ (pl_ne hFqm14_12 hFo_12 rfl)]; exact hFqm14_12
      have hFqm15_14 : F14 (qm 15) = cI (cy 1) 6 Xx.2 := by rw [eF14, va_up_ne _ _ (pl_ne hFqm15_12 hFo_12 rfl)]; exact hFqm15_12
      refine lv_aload_n hx hb dX9_spool_64 rfl (lv_at hl 0 rfl) ?_
      refine pg_get (ci := 8) (C := RX9) (T := TX9) (N := 20) hx hb hts hinX9 hown hK hP hmo hFo_14 rfl 9 (by decide) (hts (.fieldLink RX9 192 "RopeDrumsModel" "spools" "I") (by decide +kernel)) (fun _ h9 => h9) rfl dX9_spool_65 ?_
      refine lv_iconst (v := 1) hx hb dX9_spool_68 (by decide) ?_
      refine lv_isub hx hb dX9_spool_69 ?_
      refine lv_topi (fun v15 ev15 => ?_)
      exact W.iret (v := v15) hx hb hr (fun t ht hW => ⟨⟨v15, F14, rfl, (by subst ev15 ev13 ev7; have hsp : sp_spool Pp wt re = (Pp.1, Pp.1 + 1, upd Pp.2.1 Pp.1.toInt.toNat wt, upd Pp.2.2 Pp.1.toInt.toNat re) := (by unfold sp_spool; rw [if_pos hwr]; exact if_neg hfull); rw [hsp]; exact ⟨(Int32.add_sub_cancel _ _), (by exact ⟨⟨_, _, hmo, hFo_14⟩, ⟨hm0, hFqm0_14⟩, ⟨hm1, hFqm1_14⟩, ⟨hm2, hFqm2_14⟩, ⟨hm3, hFqm3_14⟩, ⟨hm4, hFqm4_14⟩, ⟨hm5, hFqm5_14⟩, ⟨hm6, hFqm6_14⟩, ⟨hm7, hFqm7_14⟩, ⟨hm8, hFqm8_14⟩, ⟨hm9, hFqm9_14⟩, ⟨hm10, hFqm10_14⟩, ⟨hm11, hFqm11_14⟩, ⟨hm12, hFqm12_14⟩, ⟨hm13, hFqm13_14⟩, ⟨hm14, hFqm14_14⟩, ⟨hm15, hFqm15_14⟩, hne⟩)⟩), (by show va_P _ _ _ t.heap; rw [ht]; exact hP)⟩, hS.F ht⟩) hS.2.2 dX9_spool_70
  · refine lv_aload_n hx hb dX9_spool_0 rfl (lv_at hl 0 rfl) ?_
    refine lv_iconst (v := 0) hx hb dX9_spool_1 (by decide) ?_
    refine pg_put (ci := 8) (v := .int 0) (ty := .int) (C := RX9) (T := TX9) (N := 20) hx hb hts hinX9 tyX9 tyX9_ok nmX9 hown hK hP hD hS hmo hFo rfl 0 (by decide) (hts (.fieldLink RX9 61 "RopeDrumsModel" "thrown" "I") (by decide +kernel)) (fun _ h9 => h9) rfl (by decide +kernel) (rfl) (rfl) (Nat.le_of_ble_eq_true rfl) dX9_spool_2 (fun H locs F16 eF16 hP hS => ?_)
    have eF16 : F16 = va_up F o (.inr (8, [.int 0, .ref (qm 0), .ref (qm 1), .ref (qm 2), .ref (qm 3), .ref (qm 4), .ref (qm 5), .ref (qm 6), .ref (qm 7), .int Pp.1, .ref (qm 8), .ref (qm 9), .ref (qm 10), .ref (qm 11), .ref (qm 12), .ref (qm 13), .ref (qm 14), .int Xx.1, .ref (qm 15), .long oc])) := eF16
    have hFo_16 : F16 o = .inr (8, [.int 0, .ref (qm 0), .ref (qm 1), .ref (qm 2), .ref (qm 3), .ref (qm 4), .ref (qm 5), .ref (qm 6), .ref (qm 7), .int Pp.1, .ref (qm 8), .ref (qm 9), .ref (qm 10), .ref (qm 11), .ref (qm 12), .ref (qm 13), .ref (qm 14), .int Xx.1, .ref (qm 15), .long oc]) := by rw [eF16]; exact va_up_self _ _ _
    have hFqm0_16 : F16 (qm 0) = cI (cy 1) 10 Mm.1 := by rw [eF16, va_up_ne _ _ (pl_ne hF0 hFo rfl)]; exact hF0
    have hFqm1_16 : F16 (qm 1) = cJ (cy 2) 10 Mm.2 := by rw [eF16, va_up_ne _ _ (pl_ne hF1 hFo rfl)]; exact hF1
    have hFqm2_16 : F16 (qm 2) = cD (cy 0) 6 Dd.1 := by rw [eF16, va_up_ne _ _ (pl_ne hF2 hFo rfl)]; exact hF2
    have hFqm3_16 : F16 (qm 3) = cD (cy 0) 6 Dd.2.1 := by rw [eF16, va_up_ne _ _ (pl_ne hF3 hFo rfl)]; exact hF3
    have hFqm4_16 : F16 (qm 4) = cD (cy 0) 6 Dd.2.2.1 := by rw [eF16, va_up_ne _ _ (pl_ne hF4 hFo rfl)]; exact hF4
    have hFqm5_16 : F16 (qm 5) = cJ (cy 2) 6 Dd.2.2.2 := by rw [eF16, va_up_ne _ _ (pl_ne hF5 hFo rfl)]; exact hF5
    have hFqm6_16 : F16 (qm 6) = cI (cy 1) 8 Sl.1 := by rw [eF16, va_up_ne _ _ (pl_ne hF6 hFo rfl)]; exact hF6
    have hFqm7_16 : F16 (qm 7) = cJ (cy 2) 128 Sl.2 := by rw [eF16, va_up_ne _ _ (pl_ne hF7 hFo rfl)]; exact hF7
    have hFqm8_16 : F16 (qm 8) = cI (cy 1) 30 Pp.2.1 := by rw [eF16, va_up_ne _ _ (pl_ne hF8 hFo rfl)]; exact hF8
    have hFqm9_16 : F16 (qm 9) = cI (cy 3) 30 Pp.2.2 := by rw [eF16, va_up_ne _ _ (pl_ne hF9 hFo rfl)]; exact hF9
    have hFqm10_16 : F16 (qm 10) = cI (cy 1) 5 Kr.1 := by rw [eF16, va_up_ne _ _ (pl_ne hF10 hFo rfl)]; exact hF10
    have hFqm11_16 : F16 (qm 11) = cI (cy 3) 5 Kr.2.1 := by rw [eF16, va_up_ne _ _ (pl_ne hF11 hFo rfl)]; exact hF11
    have hFqm12_16 : F16 (qm 12) = cI (cy 1) 60 Kr.2.2 := by rw [eF16, va_up_ne _ _ (pl_ne hF12 hFo rfl)]; exact hF12
    have hFqm13_16 : F16 (qm 13) = cI (cy 1) 4 Bk.1 := by rw [eF16, va_up_ne _ _ (pl_ne hF13 hFo rfl)]; exact hF13
    have hFqm14_16 : F16 (qm 14) = cD (cy 0) 4 Bk.2 := by rw [eF16, va_up_ne _ _ (pl_ne hF14 hFo rfl)]; exact hF14
    have hFqm15_16 : F16 (qm 15) = cI (cy 1) 6 Xx.2 := by rw [eF16, va_up_ne _ _ (pl_ne hF15 hFo rfl)]; exact hF15
    refine lv_iload_n hx hb dX9_spool_5 rfl (lv_at hl 1 rfl) ?_
    refine lv_i2l hx hb dX9_spool_6 rfl ?_
    refine lv_topl (fun v17 ev17 => ?_)
    refine lv_lconst (v := 0) hx hb dX9_spool_7 (by decide) ?_
    refine lv_ldc2 hx hb hown (hts (.constantLong RX9 195 (100000)) (by decide +kernel)) dX9_spool_8 ?_
    refine vp_callSi (W.runS (As := [.long v17, .long 0, .long 100000]) (rest := []) ⟨hx, hb, hml, hown, hts⟩ (c9_in l v17 0 100000) (va_cwS 3 hts gX9_spool_X9_in rfl rfl rfl (by decide +kernel) ⟨Nat.le_of_ble_eq_true rfl, Nat.le_of_ble_eq_true rfl⟩) (preS_of okT (trivial)) rfl rfl hl.1 rfl (lv_room (Nat.le_of_ble_eq_true rfl)) dX9_spool_11 ⟨Nat.le_of_ble_eq_true rfl, Nat.le_of_ble_eq_true rfl⟩) (fun r18 hr18 => ?_)
    have hzr18 : r18 = 0 := by rw [hr18, ev17, inq_i (y := 0) (z := 100000) (by decide) (by decide)]; exact if_neg (hwr)
    subst hzr18
    refine lv_if_ne (tgt := 21) hx hb dX9_spool_14 (by decide) (fun c19 => absurd (by decide) c19) (fun c19 => ?_)
    refine lv_sipush (v := -1002) hx hb dX9_spool_17 (by decide) ?_
    exact W.iret (v := -1002) hx hb hr (fun t ht hW => ⟨⟨-1002, F16, rfl, (by subst ev17; have hsp : sp_spool Pp wt re = (-1002, Pp) := (by unfold sp_spool; exact if_neg hwr); rw [hsp]; exact ⟨rfl, (by exact ⟨⟨_, _, hmo, hFo_16⟩, ⟨hm0, hFqm0_16⟩, ⟨hm1, hFqm1_16⟩, ⟨hm2, hFqm2_16⟩, ⟨hm3, hFqm3_16⟩, ⟨hm4, hFqm4_16⟩, ⟨hm5, hFqm5_16⟩, ⟨hm6, hFqm6_16⟩, ⟨hm7, hFqm7_16⟩, ⟨hm8, hFqm8_16⟩, ⟨hm9, hFqm9_16⟩, ⟨hm10, hFqm10_16⟩, ⟨hm11, hFqm11_16⟩, ⟨hm12, hFqm12_16⟩, ⟨hm13, hFqm13_16⟩, ⟨hm14, hFqm14_16⟩, ⟨hm15, hFqm15_16⟩, hne⟩)⟩), (by show va_P _ _ _ t.heap; rw [ht]; exact hP)⟩, hS.F ht⟩) hS.2.2 dX9_spool_20

set_option maxHeartbeats 8000000 in
set_option maxRecDepth 100000 in
theorem n_rack (l : Launch) (G : va_G) (cy : Nat → ClassId) (L : List Nat) (F : Nat → va_E) (sz : Nat) (o : Nat) (qm : Nat → Nat) (Mm : SM) (Dd : SD) (Sl : SL) (Pp : SP) (Kr : SR) (Bk : SB) (Xx : SX) (hR : RepM cy L o qm Mm Dd Sl Pp Kr Bk Xx F) (hV : Val Mm Dd Sl Pp Kr Bk) (rk al n : Int32) (hal : al = 0 ∨ al = 1)  : Met l yX9_rack wsX9_rack ({ frames := 2, cells := 0, slots := 0, locals := 45 }) (va_Pc [.ref o, .int rk, .int al, .int n] (fun U => bQ G cy L F sz U U.heap)) (va_Qi (fun (r : Int32) (F' : Nat → va_E) => r = (sp_rack Kr rk al n).1 ∧ RepM cy L o qm Mm Dd Sl Pp (sp_rack Kr rk al n).2 Bk Xx F') (fun F' t => va_P G vwCl (va_pl L F') t.heap) (va_A (va_pl L F) sz)) 0 0 (va_A (va_pl L F) sz) := by
  refine Met.ofW (cc := cX9_rack) (maxL := 5) (ret := (some .int)) (by decide) rfl ?_
  intro p e s m args below meth c s₁ B hml hv
  obtain ⟨rfl, hsz, hP, hK, hD0⟩ := hv
  have hx := B.exec
  have hb := B.bytes
  have hr := B.returns
  have hts := atoms_spec (ws := wsX9_rack) B.pre
  have hown : s.vm.findClass RX9 = some m.cls := findClass_of_methodNamed B.named
  have hlocks := B.notSynchronized
  have hinX9 : ∀ w ∈ wsX90, w ∈ wsX9_rack := by decide +kernel
  subst hsz
  have hD := hD0.self F s.heap.size
  generalize hAe : va_A (va_pl L F) s.heap.size = A at hD ⊢
  have hA : ∀ q : Nat, s.heap.size ≤ q → A q := fun q h => by rw [← hAe]; exact Or.inr h
  have hS : va_S A s.heap s.heap [] := va_S.rf
  obtain ⟨⟨th, oc, hmo, hFo⟩, ⟨hm0, hF0⟩, ⟨hm1, hF1⟩, ⟨hm2, hF2⟩, ⟨hm3, hF3⟩, ⟨hm4, hF4⟩, ⟨hm5, hF5⟩, ⟨hm6, hF6⟩, ⟨hm7, hF7⟩, ⟨hm8, hF8⟩, ⟨hm9, hF9⟩, ⟨hm10, hF10⟩, ⟨hm11, hF11⟩, ⟨hm12, hF12⟩, ⟨hm13, hF13⟩, ⟨hm14, hF14⟩, ⟨hm15, hF15⟩, hne⟩ := id hR
  obtain ⟨hVM, hVD, hVS, hVP, hVK, hVB⟩ := hV
  have hl := lv_entry ([.ref o, .int rk, .int al, .int n]) (n := 5) (Nat.le_of_ble_eq_true rfl)
  rw [lg_entry_eq]
  generalize (lg_sl ([.ref o, .int rk, .int al, .int n]) ++ List.replicate (5 - (lg_sl ([.ref o, .int rk, .int al, .int n])).length) Slot.unset).toArray = ls at hl ⊢
  have hl : lv_has ls 5 [(0, .ref o), (1, .int rk), (2, .int al), (3, .int n)] := hl
  rcases ixc 5 rk with hi_rk | ⟨j_rk, hj_rk, hi_rk, ei_rk⟩
  · refine lv_aload_n hx hb dX9_rack_0 rfl (lv_at hl 0 rfl) ?_
    refine lv_iconst (v := 0) hx hb dX9_rack_1 (by decide) ?_
    refine pg_put (ci := 8) (v := .int 0) (ty := .int) (C := RX9) (T := TX9) (N := 20) hx hb hts hinX9 tyX9 tyX9_ok nmX9 hown hK hP hD hS hmo hFo rfl 0 (by decide) (hts (.fieldLink RX9 61 "RopeDrumsModel" "thrown" "I") (by decide +kernel)) (fun _ h9 => h9) rfl (by decide +kernel) (rfl) (rfl) (Nat.le_of_ble_eq_true rfl) dX9_rack_2 (fun H locs F1 eF1 hP hS => ?_)
    have eF1 : F1 = va_up F o (.inr (8, [.int 0, .ref (qm 0), .ref (qm 1), .ref (qm 2), .ref (qm 3), .ref (qm 4), .ref (qm 5), .ref (qm 6), .ref (qm 7), .int Pp.1, .ref (qm 8), .ref (qm 9), .ref (qm 10), .ref (qm 11), .ref (qm 12), .ref (qm 13), .ref (qm 14), .int Xx.1, .ref (qm 15), .long oc])) := eF1
    have hFo_1 : F1 o = .inr (8, [.int 0, .ref (qm 0), .ref (qm 1), .ref (qm 2), .ref (qm 3), .ref (qm 4), .ref (qm 5), .ref (qm 6), .ref (qm 7), .int Pp.1, .ref (qm 8), .ref (qm 9), .ref (qm 10), .ref (qm 11), .ref (qm 12), .ref (qm 13), .ref (qm 14), .int Xx.1, .ref (qm 15), .long oc]) := by rw [eF1]; exact va_up_self _ _ _
    have hFqm0_1 : F1 (qm 0) = cI (cy 1) 10 Mm.1 := by rw [eF1, va_up_ne _ _ (pl_ne hF0 hFo rfl)]; exact hF0
    have hFqm1_1 : F1 (qm 1) = cJ (cy 2) 10 Mm.2 := by rw [eF1, va_up_ne _ _ (pl_ne hF1 hFo rfl)]; exact hF1
    have hFqm2_1 : F1 (qm 2) = cD (cy 0) 6 Dd.1 := by rw [eF1, va_up_ne _ _ (pl_ne hF2 hFo rfl)]; exact hF2
    have hFqm3_1 : F1 (qm 3) = cD (cy 0) 6 Dd.2.1 := by rw [eF1, va_up_ne _ _ (pl_ne hF3 hFo rfl)]; exact hF3
    have hFqm4_1 : F1 (qm 4) = cD (cy 0) 6 Dd.2.2.1 := by rw [eF1, va_up_ne _ _ (pl_ne hF4 hFo rfl)]; exact hF4
    have hFqm5_1 : F1 (qm 5) = cJ (cy 2) 6 Dd.2.2.2 := by rw [eF1, va_up_ne _ _ (pl_ne hF5 hFo rfl)]; exact hF5
    have hFqm6_1 : F1 (qm 6) = cI (cy 1) 8 Sl.1 := by rw [eF1, va_up_ne _ _ (pl_ne hF6 hFo rfl)]; exact hF6
    have hFqm7_1 : F1 (qm 7) = cJ (cy 2) 128 Sl.2 := by rw [eF1, va_up_ne _ _ (pl_ne hF7 hFo rfl)]; exact hF7
    have hFqm8_1 : F1 (qm 8) = cI (cy 1) 30 Pp.2.1 := by rw [eF1, va_up_ne _ _ (pl_ne hF8 hFo rfl)]; exact hF8
    have hFqm9_1 : F1 (qm 9) = cI (cy 3) 30 Pp.2.2 := by rw [eF1, va_up_ne _ _ (pl_ne hF9 hFo rfl)]; exact hF9
    have hFqm10_1 : F1 (qm 10) = cI (cy 1) 5 Kr.1 := by rw [eF1, va_up_ne _ _ (pl_ne hF10 hFo rfl)]; exact hF10
    have hFqm11_1 : F1 (qm 11) = cI (cy 3) 5 Kr.2.1 := by rw [eF1, va_up_ne _ _ (pl_ne hF11 hFo rfl)]; exact hF11
    have hFqm12_1 : F1 (qm 12) = cI (cy 1) 60 Kr.2.2 := by rw [eF1, va_up_ne _ _ (pl_ne hF12 hFo rfl)]; exact hF12
    have hFqm13_1 : F1 (qm 13) = cI (cy 1) 4 Bk.1 := by rw [eF1, va_up_ne _ _ (pl_ne hF13 hFo rfl)]; exact hF13
    have hFqm14_1 : F1 (qm 14) = cD (cy 0) 4 Bk.2 := by rw [eF1, va_up_ne _ _ (pl_ne hF14 hFo rfl)]; exact hF14
    have hFqm15_1 : F1 (qm 15) = cI (cy 1) 6 Xx.2 := by rw [eF1, va_up_ne _ _ (pl_ne hF15 hFo rfl)]; exact hF15
    refine lv_iload_n hx hb dX9_rack_5 rfl (lv_at hl 1 rfl) ?_
    refine vp_callSi (W.runS (As := [.int rk]) (rest := []) ⟨hx, hb, hml, hown, hts⟩ (c9_isRack l rk) (va_cwS 1 hts gX9_rack_X9_isRack rfl rfl rfl (by decide +kernel) ⟨Nat.le_of_ble_eq_true rfl, Nat.le_of_ble_eq_true rfl⟩) (preS_of okT (trivial)) rfl rfl hl.1 rfl (lv_room (Nat.le_of_ble_eq_true rfl)) dX9_rack_6 ⟨Nat.le_of_ble_eq_true rfl, Nat.le_of_ble_eq_true rfl⟩) (fun r2 hr2 => ?_)
    rw [isx0 hi_rk] at hr2
    subst hr2
    refine lv_if_ne (tgt := 16) hx hb dX9_rack_9 (by decide) (fun c3 => absurd (by decide) c3) (fun c3 => ?_)
    refine lv_sipush (v := -1001) hx hb dX9_rack_12 (by decide) ?_
    exact W.iret (v := -1001) hx hb hr (fun t ht hW => ⟨⟨-1001, F1, rfl, (by have hsp : sp_rack Kr rk al n = (-1001, Kr) := (by unfold sp_rack; rw [hi_rk]); rw [hsp]; exact ⟨rfl, (by exact ⟨⟨_, _, hmo, hFo_1⟩, ⟨hm0, hFqm0_1⟩, ⟨hm1, hFqm1_1⟩, ⟨hm2, hFqm2_1⟩, ⟨hm3, hFqm3_1⟩, ⟨hm4, hFqm4_1⟩, ⟨hm5, hFqm5_1⟩, ⟨hm6, hFqm6_1⟩, ⟨hm7, hFqm7_1⟩, ⟨hm8, hFqm8_1⟩, ⟨hm9, hFqm9_1⟩, ⟨hm10, hFqm10_1⟩, ⟨hm11, hFqm11_1⟩, ⟨hm12, hFqm12_1⟩, ⟨hm13, hFqm13_1⟩, ⟨hm14, hFqm14_1⟩, ⟨hm15, hFqm15_1⟩, hne⟩)⟩), (by show va_P _ _ _ t.heap; rw [ht]; exact hP)⟩, hS.F ht⟩) hS.2.2 dX9_rack_15
  · subst ei_rk
    by_cases hnr : -1 ≤ n.toInt ∧ n.toInt ≤ 12
    · refine lv_aload_n hx hb dX9_rack_0 rfl (lv_at hl 0 rfl) ?_
      refine lv_iconst (v := 0) hx hb dX9_rack_1 (by decide) ?_
      refine pg_put (ci := 8) (v := .int 0) (ty := .int) (C := RX9) (T := TX9) (N := 20) hx hb hts hinX9 tyX9 tyX9_ok nmX9 hown hK hP hD hS hmo hFo rfl 0 (by decide) (hts (.fieldLink RX9 61 "RopeDrumsModel" "thrown" "I") (by decide +kernel)) (fun _ h9 => h9) rfl (by decide +kernel) (rfl) (rfl) (Nat.le_of_ble_eq_true rfl) dX9_rack_2 (fun H locs F4 eF4 hP hS => ?_)
      have eF4 : F4 = va_up F o (.inr (8, [.int 0, .ref (qm 0), .ref (qm 1), .ref (qm 2), .ref (qm 3), .ref (qm 4), .ref (qm 5), .ref (qm 6), .ref (qm 7), .int Pp.1, .ref (qm 8), .ref (qm 9), .ref (qm 10), .ref (qm 11), .ref (qm 12), .ref (qm 13), .ref (qm 14), .int Xx.1, .ref (qm 15), .long oc])) := eF4
      have hFo_4 : F4 o = .inr (8, [.int 0, .ref (qm 0), .ref (qm 1), .ref (qm 2), .ref (qm 3), .ref (qm 4), .ref (qm 5), .ref (qm 6), .ref (qm 7), .int Pp.1, .ref (qm 8), .ref (qm 9), .ref (qm 10), .ref (qm 11), .ref (qm 12), .ref (qm 13), .ref (qm 14), .int Xx.1, .ref (qm 15), .long oc]) := by rw [eF4]; exact va_up_self _ _ _
      have hFqm0_4 : F4 (qm 0) = cI (cy 1) 10 Mm.1 := by rw [eF4, va_up_ne _ _ (pl_ne hF0 hFo rfl)]; exact hF0
      have hFqm1_4 : F4 (qm 1) = cJ (cy 2) 10 Mm.2 := by rw [eF4, va_up_ne _ _ (pl_ne hF1 hFo rfl)]; exact hF1
      have hFqm2_4 : F4 (qm 2) = cD (cy 0) 6 Dd.1 := by rw [eF4, va_up_ne _ _ (pl_ne hF2 hFo rfl)]; exact hF2
      have hFqm3_4 : F4 (qm 3) = cD (cy 0) 6 Dd.2.1 := by rw [eF4, va_up_ne _ _ (pl_ne hF3 hFo rfl)]; exact hF3
      have hFqm4_4 : F4 (qm 4) = cD (cy 0) 6 Dd.2.2.1 := by rw [eF4, va_up_ne _ _ (pl_ne hF4 hFo rfl)]; exact hF4
      have hFqm5_4 : F4 (qm 5) = cJ (cy 2) 6 Dd.2.2.2 := by rw [eF4, va_up_ne _ _ (pl_ne hF5 hFo rfl)]; exact hF5
      have hFqm6_4 : F4 (qm 6) = cI (cy 1) 8 Sl.1 := by rw [eF4, va_up_ne _ _ (pl_ne hF6 hFo rfl)]; exact hF6
      have hFqm7_4 : F4 (qm 7) = cJ (cy 2) 128 Sl.2 := by rw [eF4, va_up_ne _ _ (pl_ne hF7 hFo rfl)]; exact hF7
      have hFqm8_4 : F4 (qm 8) = cI (cy 1) 30 Pp.2.1 := by rw [eF4, va_up_ne _ _ (pl_ne hF8 hFo rfl)]; exact hF8
      have hFqm9_4 : F4 (qm 9) = cI (cy 3) 30 Pp.2.2 := by rw [eF4, va_up_ne _ _ (pl_ne hF9 hFo rfl)]; exact hF9
      have hFqm10_4 : F4 (qm 10) = cI (cy 1) 5 Kr.1 := by rw [eF4, va_up_ne _ _ (pl_ne hF10 hFo rfl)]; exact hF10
      have hFqm11_4 : F4 (qm 11) = cI (cy 3) 5 Kr.2.1 := by rw [eF4, va_up_ne _ _ (pl_ne hF11 hFo rfl)]; exact hF11
      have hFqm12_4 : F4 (qm 12) = cI (cy 1) 60 Kr.2.2 := by rw [eF4, va_up_ne _ _ (pl_ne hF12 hFo rfl)]; exact hF12
      have hFqm13_4 : F4 (qm 13) = cI (cy 1) 4 Bk.1 := by rw [eF4, va_up_ne _ _ (pl_ne hF13 hFo rfl)]; exact hF13
      have hFqm14_4 : F4 (qm 14) = cD (cy 0) 4 Bk.2 := by rw [eF4, va_up_ne _ _ (pl_ne hF14 hFo rfl)]; exact hF14
      have hFqm15_4 : F4 (qm 15) = cI (cy 1) 6 Xx.2 := by rw [eF4, va_up_ne _ _ (pl_ne hF15 hFo rfl)]; exact hF15
      refine lv_iload_n hx hb dX9_rack_5 rfl (lv_at hl 1 rfl) ?_
      refine vp_callSi (W.runS (As := [.int (nI j_rk)]) (rest := []) ⟨hx, hb, hml, hown, hts⟩ (c9_isRack l (nI j_rk)) (va_cwS 1 hts gX9_rack_X9_isRack rfl rfl rfl (by decide +kernel) ⟨Nat.le_of_ble_eq_true rfl, Nat.le_of_ble_eq_true rfl⟩) (preS_of okT (trivial)) rfl rfl hl.1 rfl (lv_room (Nat.le_of_ble_eq_true rfl)) dX9_rack_6 ⟨Nat.le_of_ble_eq_true rfl, Nat.le_of_ble_eq_true rfl⟩) (fun r5 hr5 => ?_)
      rw [isx1 hi_rk] at hr5
      subst hr5
      refine lv_if_ne (tgt := 16) hx hb dX9_rack_9 (by decide) (fun c6 => ?_) (fun c6 => absurd c6 (by decide))
      refine lv_iload_n hx hb dX9_rack_16 rfl (lv_at hl 3 rfl) ?_
      refine lv_i2l hx hb dX9_rack_17 rfl ?_
      refine lv_topl (fun v7 ev7 => ?_)
      refine lv_ldc2 hx hb hown (hts (.constantLong RX9 181 (-1)) (by decide +kernel)) dX9_rack_18 ?_
      refine lv_ldc2 hx hb hown (hts (.constantLong RX9 200 (12)) (by decide +kernel)) dX9_rack_21 ?_
      refine vp_callSi (W.runS (As := [.long v7, .long (-1), .long 12]) (rest := []) ⟨hx, hb, hml, hown, hts⟩ (c9_in l v7 (-1) 12) (va_cwS 3 hts gX9_rack_X9_in rfl rfl rfl (by decide +kernel) ⟨Nat.le_of_ble_eq_true rfl, Nat.le_of_ble_eq_true rfl⟩) (preS_of okT (trivial)) rfl rfl hl.1 rfl (lv_room (Nat.le_of_ble_eq_true rfl)) dX9_rack_24 ⟨Nat.le_of_ble_eq_true rfl, Nat.le_of_ble_eq_true rfl⟩) (fun r8 hr8 => ?_)
      have hzr8 : r8 = 1 := by rw [hr8, ev7, inq_i (y := -1) (z := 12) (by decide) (by decide)]; exact if_pos (hnr)
      subst hzr8
      refine lv_if_ne (tgt := 34) hx hb dX9_rack_27 (by decide) (fun c9 => ?_) (fun c9 => absurd c9 (by decide))
      refine lv_aload_n hx hb dX9_rack_34 rfl (lv_at hl 0 rfl) ?_
      refine pg_get (ci := 8) (C := RX9) (T := TX9) (N := 20) hx hb hts hinX9 hown hK hP hmo hFo_4 rfl 12 (by decide) (hts (.fieldLink RX9 43 "RopeDrumsModel" "rackSize" "[I") (by decide +kernel)) (fun _ h9 => h9) rfl dX9_rack_35 ?_
      refine lv_iload_n hx hb dX9_rack_38 rfl (lv_at hl 1 rfl) ?_
      refine lv_iload_n hx hb dX9_rack_39 rfl (lv_at hl 3 rfl) ?_
      refine pg_iast hx hb hK hP hD hS 1 hm10 hFqm10_4 rfl (vp_in_nI (by omega) (by decide)) dX9_rack_40 (fun H locs F10 eF10 hP hS => ?_)
      rw [nI_clamp (by omega)] at eF10
      have hFo_10 : F10 o = .inr (8, [.int 0, .ref (qm 0), .ref (qm 1), .ref (qm 2), .ref (qm 3), .ref (qm 4), .ref (qm 5), .ref (qm 6), .ref (qm 7), .int Pp.1, .ref (qm 8), .ref (qm 9), .ref (qm 10), .ref (qm 11), .ref (qm 12), .ref (qm 13), .ref (qm 14), .int Xx.1, .ref (qm 15), .long oc]) := by rw [eF10, va_up_ne _ _ (pl_ne hFo_4 hFqm10_4 rfl)]; exact hFo_4
      have hFqm0_10 : F10 (qm 0) = cI (cy 1) 10 Mm.1 := by rw [eF10, va_up_ne _ _ (pl_ne hFqm0_4 hFqm10_4 rfl)]; exact hFqm0_4
      have hFqm1_10 : F10 (qm 1) = cJ (cy 2) 10 Mm.2 := by rw [eF10, va_up_ne _ _ (pl_ne hFqm1_4 hFqm10_4 rfl)]; exact hFqm1_4
      have hFqm2_10 : F10 (qm 2) = cD (cy 0) 6 Dd.1 := by rw [eF10, va_up_ne _ _ (pl_ne hFqm2_4 hFqm10_4 rfl)]; exact hFqm2_4
      have hFqm3_10 : F10 (qm 3) = cD (cy 0) 6 Dd.2.1 := by rw [eF10, va_up_ne _ _ (pl_ne hFqm3_4 hFqm10_4 rfl)]; exact hFqm3_4
      have hFqm4_10 : F10 (qm 4) = cD (cy 0) 6 Dd.2.2.1 := by rw [eF10, va_up_ne _ _ (pl_ne hFqm4_4 hFqm10_4 rfl)]; exact hFqm4_4
      have hFqm5_10 : F10 (qm 5) = cJ (cy 2) 6 Dd.2.2.2 := by rw [eF10, va_up_ne _ _ (pl_ne hFqm5_4 hFqm10_4 rfl)]; exact hFqm5_4
      have hFqm6_10 : F10 (qm 6) = cI (cy 1) 8 Sl.1 := by rw [eF10, va_up_ne _ _ (pl_ne hFqm6_4 hFqm10_4 rfl)]; exact hFqm6_4
      have hFqm7_10 : F10 (qm 7) = cJ (cy 2) 128 Sl.2 := by rw [eF10, va_up_ne _ _ (pl_ne hFqm7_4 hFqm10_4 rfl)]; exact hFqm7_4
      have hFqm8_10 : F10 (qm 8) = cI (cy 1) 30 Pp.2.1 := by rw [eF10, va_up_ne _ _ (pl_ne hFqm8_4 hFqm10_4 rfl)]; exact hFqm8_4
      have hFqm9_10 : F10 (qm 9) = cI (cy 3) 30 Pp.2.2 := by rw [eF10, va_up_ne _ _ (pl_ne hFqm9_4 hFqm10_4 rfl)]; exact hFqm9_4
      have hFqm10_10 : F10 (qm 10) = cI (cy 1) 5 (upd Kr.1 j_rk n) := by rw [eF10]; exact va_up_self _ _ _
      have hFqm11_10 : F10 (qm 11) = cI (cy 3) 5 Kr.2.1 := by rw [eF10, va_up_ne _ _ ((Ne.symm hne.2.2.2.2))]; exact hFqm11_4
      have hFqm12_10 : F10 (qm 12) = cI (cy 1) 60 Kr.2.2 := by rw [eF10, va_up_ne _ _ (pl_ne hFqm12_4 hFqm10_4 rfl)]; exact hFqm12_4
      have hFqm13_10 : F10 (qm 13) = cI (cy 1) 4 Bk.1 := by rw [eF10, va_up_ne _ _ (pl_ne hFqm13_4 hFqm10_4 rfl)]; exact hFqm13_4
      have hFqm14_10 : F10 (qm 14) = cD (cy 0) 4 Bk.2 := by rw [eF10, va_up_ne _ _ (pl_ne hFqm14_4 hFqm10_4 rfl)]; exact hFqm14_4
      have hFqm15_10 : F10 (qm 15) = cI (cy 1) 6 Xx.2 := by rw [eF10, va_up_ne _ _ (pl_ne hFqm15_4 hFqm10_4 rfl)]; exact hFqm15_4
      refine lv_aload_n hx hb dX9_rack_41 rfl (lv_at hl 0 rfl) ?_
      refine pg_get (ci := 8) (C := RX9) (T := TX9) (N := 20) hx hb hts hinX9 hown hK hP hmo hFo_10 rfl 13 (by decide) (hts (.fieldLink RX9 46 "RopeDrumsModel" "isForReels" "[Z") (by decide +kernel)) (fun _ h9 => h9) rfl dX9_rack_42 ?_
      refine lv_iload_n hx hb dX9_rack_45 rfl (lv_at hl 1 rfl) ?_
      refine lv_iload_n hx hb dX9_rack_46 rfl (lv_at hl 2 rfl) ?_
      refine pg_zast hx hb hK hP hD hS 3 hm11 hFqm11_10 rfl (hal) (vp_in_nI (by omega) (by decide)) dX9_rack_47 (fun H locs F11 eF11 hP hS => ?_)
      rw [nI_clamp (by omega)] at eF11
      have hFo_11 : F11 o = .inr (8, [.int 0, .ref (qm 0), .ref (qm 1), .ref (qm 2), .ref (qm 3), .ref (qm 4), .ref (qm 5), .ref (qm 6), .ref (qm 7), .int Pp.1, .ref (qm 8), .ref (qm 9), .ref (qm 10), .ref (qm 11), .ref (qm 12), .ref (qm 13), .ref (qm 14), .int Xx.1, .ref (qm 15), .long oc]) := by rw [eF11, va_up_ne _ _ (pl_ne hFo_10 hFqm11_10 rfl)]; exact hFo_10
      have hFqm0_11 : F11 (qm 0) = cI (cy 1) 10 Mm.1 := by rw [eF11, va_up_ne _ _ (pl_ne hFqm0_10 hFqm11_10 rfl)]; exact hFqm0_10
      have hFqm1_11 : F11 (qm 1) = cJ (cy 2) 10 Mm.2 := by rw [eF11, va_up_ne _ _ (pl_ne hFqm1_10 hFqm11_10 rfl)]; exact hFqm1_10
      have hFqm2_11 : F11 (qm 2) = cD (cy 0) 6 Dd.1 := by rw [eF11, va_up_ne _ _ (pl_ne hFqm2_10 hFqm11_10 rfl)]; exact hFqm2_10
      have hFqm3_11 : F11 (qm 3) = cD (cy 0) 6 Dd.2.1 := by rw [eF11, va_up_ne _ _ (pl_ne hFqm3_10 hFqm11_10 rfl)]; exact hFqm3_10
      have hFqm4_11 : F11 (qm 4) = cD (cy 0) 6 Dd.2.2.1 := by rw [eF11, va_up_ne _ _ (pl_ne hFqm4_10 hFqm11_10 rfl)]; exact hFqm4_10
      have hFqm5_11 : F11 (qm 5) = cJ (cy 2) 6 Dd.2.2.2 := by rw [eF11, va_up_ne _ _ (pl_ne hFqm5_10 hFqm11_10 rfl)]; exact hFqm5_10
      have hFqm6_11 : F11 (qm 6) = cI (cy 1) 8 Sl.1 := by rw [eF11, va_up_ne _ _ (pl_ne hFqm6_10 hFqm11_10 rfl)]; exact hFqm6_10
      have hFqm7_11 : F11 (qm 7) = cJ (cy 2) 128 Sl.2 := by rw [eF11, va_up_ne _ _ (pl_ne hFqm7_10 hFqm11_10 rfl)]; exact hFqm7_10
      have hFqm8_11 : F11 (qm 8) = cI (cy 1) 30 Pp.2.1 := by rw [eF11, va_up_ne _ _ (pl_ne hFqm8_10 hFqm11_10 rfl)]; exact hFqm8_10
      have hFqm9_11 : F11 (qm 9) = cI (cy 3) 30 Pp.2.2 := by rw [eF11, va_up_ne _ _ (pl_ne hFqm9_10 hFqm11_10 rfl)]; exact hFqm9_10
      have hFqm10_11 : F11 (qm 10) = cI (cy 1) 5 (upd Kr.1 j_rk n) := by rw [eF11, va_up_ne _ _ (hne.2.2.2.2)]; exact hFqm10_10
      have hFqm11_11 : F11 (qm 11) = cI (cy 3) 5 (upd Kr.2.1 j_rk al) := by rw [eF11]; exact va_up_self _ _ _
      have hFqm12_11 : F11 (qm 12) = cI (cy 1) 60 Kr.2.2 := by rw [eF11, va_up_ne _ _ (pl_ne hFqm12_10 hFqm11_10 rfl)]; exact hFqm12_10
      have hFqm13_11 : F11 (qm 13) = cI (cy 1) 4 Bk.1 := by rw [eF11, va_up_ne _ _ (pl_ne hFqm13_10 hFqm11_10 rfl)]; exact hFqm13_10
      have hFqm14_11 : F11 (qm 14) = cD (cy 0) 4 Bk.2 := by rw [eF11, va_up_ne _ _ (pl_ne hFqm14_10 hFqm11_10 rfl)]; exact hFqm14_10
      have hFqm15_11 : F11 (qm 15) = cI (cy 1) 6 Xx.2 := by rw [eF11, va_up_ne _ _ (pl_ne hFqm15_10 hFqm11_10 rfl)]; exact hFqm15_10
      refine lv_iconst (v := 0) hx hb dX9_rack_48 (by decide) ?_
      refine lv_istore (lv' := [(4, .int 0), (0, .ref o), (1, .int (nI j_rk)), (2, .int al), (3, .int n)]) hx hb dX9_rack_49 hl (by decide) rfl (fun ls hl => ?_)
      refine lp_w (pc := 51) (nL := 5) (α := Nat) (fun xx => xx ≤ n.toInt.toNat) (fun xx => [(4, .int (nI xx)), (3, .int n), (0, .ref o), (1, .int (nI j_rk)), (2, .int al)]) (fun xx => va_pl L (va_up F11 (qm 12) (cI (cy 1) 60 (zI Kr.2.2 (12 * j_rk) xx)))) (fun xx => n.toInt.toNat - xx) (fun kk ls H locs hI hP hS hl K => ?_) 0 ls (Nat.zero_le _) (by rw [show va_up F11 (qm 12) (cI (cy 1) 60 (zI Kr.2.2 (12 * j_rk) 0)) = F11 from (by rw [zI0]; exact upid hFqm12_11)]; exact hP) hS (lv_sub hl [0, 4, 1, 2, 3] rfl)
      obtain ⟨F12, eF12⟩ : ∃ y : Nat → va_E, y = va_up F11 (qm 12) (cI (cy 1) 60 (zI Kr.2.2 (12 * j_rk) kk)) := ⟨_, rfl⟩
      rw [← eF12] at hP
      have hFo_12 : F12 o = .inr (8, [.int 0, .ref (qm 0), .ref (qm 1), .ref (qm 2), .ref (qm 3), .ref (qm 4), .ref (qm 5), .ref (qm 6), .ref (qm 7), .int Pp.1, .ref (qm 8), .ref (qm 9), .ref (qm 10), .ref (qm 11), .ref (qm 12), .ref (qm 13), .ref (qm 14), .int Xx.1, .ref (qm 15), .long oc]) := by rw [eF12, va_up_ne _ _ (pl_ne hFo_11 hFqm12_11 rfl)]; exact hFo_11
      have hFqm0_12 : F12 (qm 0) = cI (cy 1) 10 Mm.1 := by rw [eF12, va_up_ne _ _ (pl_ne hFqm0_11 hFqm12_11 rfl)]; exact hFqm0_11
      have hFqm1_12 : F12 (qm 1) = cJ (cy 2) 10 Mm.2 := by rw [eF12, va_up_ne _ _ (pl_ne hFqm1_11 hFqm12_11 rfl)]; exact hFqm1_11
      have hFqm2_12 : F12 (qm 2) = cD (cy 0) 6 Dd.1 := by rw [eF12, va_up_ne _ _ (pl_ne hFqm2_11 hFqm12_11 rfl)]; exact hFqm2_11
      have hFqm3_12 : F12 (qm 3) = cD (cy 0) 6 Dd.2.1 := by rw [eF12, va_up_ne _ _ (pl_ne hFqm3_11 hFqm12_11 rfl)]; exact hFqm3_11
      have hFqm4_12 : F12 (qm 4) = cD (cy 0) 6 Dd.2.2.1 := by rw [eF12, va_up_ne _ _ (pl_ne hFqm4_11 hFqm12_11 rfl)]; exact hFqm4_11
      have hFqm5_12 : F12 (qm 5) = cJ (cy 2) 6 Dd.2.2.2 := by rw [eF12, va_up_ne _ _ (pl_ne hFqm5_11 hFqm12_11 rfl)]; exact hFqm5_11
      have hFqm6_12 : F12 (qm 6) = cI (cy 1) 8 Sl.1 := by rw [eF12, va_up_ne _ _ (pl_ne hFqm6_11 hFqm12_11 rfl)]; exact hFqm6_11
      have hFqm7_12 : F12 (qm 7) = cJ (cy 2) 128 Sl.2 := by rw [eF12, va_up_ne _ _ (pl_ne hFqm7_11 hFqm12_11 rfl)]; exact hFqm7_11
      have hFqm8_12 : F12 (qm 8) = cI (cy 1) 30 Pp.2.1 := by rw [eF12, va_up_ne _ _ (pl_ne hFqm8_11 hFqm12_11 rfl)]; exact hFqm8_11
      have hFqm9_12 : F12 (qm 9) = cI (cy 3) 30 Pp.2.2 := by rw [eF12, va_up_ne _ _ (pl_ne hFqm9_11 hFqm12_11 rfl)]; exact hFqm9_11
      have hFqm10_12 : F12 (qm 10) = cI (cy 1) 5 (upd Kr.1 j_rk n) := by rw [eF12, va_up_ne _ _ (pl_ne hFqm10_11 hFqm12_11 rfl)]; exact hFqm10_11
      have hFqm11_12 : F12 (qm 11) = cI (cy 3) 5 (upd Kr.2.1 j_rk al) := by rw [eF12, va_up_ne _ _ (pl_ne hFqm11_11 hFqm12_11 rfl)]; exact hFqm11_11
      have hFqm12_12 : F12 (qm 12) = cI (cy 1) 60 (zI Kr.2.2 (12 * j_rk) kk) := by rw [eF12]; exact va_up_self _ _ _
      have hFqm13_12 : F12 (qm 13) = cI (cy 1) 4 Bk.1 := by rw [eF12, va_up_ne _ _ (pl_ne hFqm13_11 hFqm12_11 rfl)]; exact hFqm13_11
      have hFqm14_12 : F12 (qm 14) = cD (cy 0) 4 Bk.2 := by rw [eF12, va_up_ne _ _ (pl_ne hFqm14_11 hFqm12_11 rfl)]; exact hFqm14_11
      have hFqm15_12 : F12 (qm 15) = cI (cy 1) 6 Xx.2 := by rw [eF12, va_up_ne _ _ (pl_ne hFqm15_11 hFqm12_11 rfl)]; exact hFqm15_11
      have hl : lv_has ls 5 [(4, .int (nI kk)), (3, .int n), (0, .ref o), (1, .int (nI j_rk)), (2, .int al)] := hl
      refine lv_iload hx hb dX9_rack_51 (lv_at hl 0 rfl) ?_
      refine lv_iload_n hx hb dX9_rack_53 rfl (lv_at hl 1 rfl) ?_
      refine lv_icmp_ge (tgt := 76) hx hb dX9_rack_54 (by decide) (fun c13 => ?_) (fun c13 => ?_)
      · refine lv_iconst (v := 1) hx hb dX9_rack_76 (by decide) ?_
        exact W.iret (v := 1) hx hb hr (fun t ht hW => ⟨⟨1, F12, rfl, (by have hge : kk = n.toInt.toNat := (by have hc := c13; rw [fa_le, nI_toInt (by omega)] at hc; omega); subst hge; have hsp : sp_rack Kr (nI j_rk) al n = (1, upd Kr.1 j_rk n, upd Kr.2.1 j_rk al, zI Kr.2.2 (12 * j_rk) n.toInt.toNat) := (by unfold sp_rack; rw [hi_rk]; exact if_pos hnr); rw [hsp]; exact ⟨rfl, (by exact ⟨⟨_, _, hmo, hFo_12⟩, ⟨hm0, hFqm0_12⟩, ⟨hm1, hFqm1_12⟩, ⟨hm2, hFqm2_12⟩, ⟨hm3, hFqm3_12⟩, ⟨hm4, hFqm4_12⟩, ⟨hm5, hFqm5_12⟩, ⟨hm6, hFqm6_12⟩, ⟨hm7, hFqm7_12⟩, ⟨hm8, hFqm8_12⟩, ⟨hm9, hFqm9_12⟩, ⟨hm10, hFqm10_12⟩, ⟨hm11, hFqm11_12⟩, ⟨hm12, hFqm12_12⟩, ⟨hm13, hFqm13_12⟩, ⟨hm14, hFqm14_12⟩, ⟨hm15, hFqm15_12⟩, hne⟩)⟩), (by show va_P _ _ _ t.heap; rw [ht]; exact hP)⟩, hS.F ht⟩) hS.2.2 dX9_rack_77
      · have hlt : (kk : Int) < n.toInt := by have hc := c13; rw [fa_le, nI_toInt (by omega)] at hc; omega
        refine lv_aload_n hx hb dX9_rack_57 rfl (lv_at hl 2 rfl) ?_
        refine pg_get (ci := 8) (C := RX9) (T := TX9) (N := 20) hx hb hts hinX9 hown hK hP hmo hFo_12 rfl 14 (by decide) (hts (.fieldLink RX9 49 "RopeDrumsModel" "standing" "[I") (by decide +kernel)) (fun _ h9 => h9) rfl dX9_rack_58 ?_
        refine lv_bipush (v := 12) hx hb dX9_rack_61 (by decide) ?_
        refine lv_iload_n hx hb dX9_rack_63 rfl (lv_at hl 3 rfl) ?_
        refine lv_imul hx hb dX9_rack_64 ?_
        refine lv_topi (fun v14 ev14 => ?_)
        refine lv_iload hx hb dX9_rack_65 (lv_at hl 0 rfl) ?_
        refine lv_iadd hx hb dX9_rack_67 ?_
        refine lv_topi (fun v15 ev15 => ?_)
        rw [ev14, nI12] at ev15
        subst ev15
        refine lv_iconst (v := -1) hx hb dX9_rack_68 (by decide) ?_
        refine pg_iast hx hb hK hP hD hS 1 hm12 hFqm12_12 rfl (vp_in_nI (by omega) (by decide)) dX9_rack_69 (fun H locs F16 eF16 hP hS => ?_)
        rw [nI_clamp (by omega)] at eF16
        have hFo_16 : F16 o = .inr (8, [.int 0, .ref (qm 0), .ref (qm 1), .ref (qm 2), .ref (qm 3), .ref (qm 4), .ref (qm 5), .ref (qm 6), .ref (qm 7), .int Pp.1, .ref (qm 8), .ref (qm 9), .ref (qm 10), .ref (qm 11), .ref (qm 12), .ref (qm 13), .ref (qm 14), .int Xx.1, .ref (qm 15), .long oc]) := by rw [eF16, va_up_ne _ _ (pl_ne hFo_12 hFqm12_12 rfl)]; exact hFo_12
        have hFqm0_16 : F16 (qm 0) = cI (cy 1) 10 Mm.1 := by rw [eF16, va_up_ne _ _ (pl_ne hFqm0_12 hFqm12_12 rfl)]; exact hFqm0_12
        have hFqm1_16 : F16 (qm 1) = cJ (cy 2) 10 Mm.2 := by rw [eF16, va_up_ne _ _ (pl_ne hFqm1_12 hFqm12_12 rfl)]; exact hFqm1_12
        have hFqm2_16 : F16 (qm 2) = cD (cy 0) 6 Dd.1 := by rw [eF16, va_up_ne _ _ (pl_ne hFqm2_12 hFqm12_12 rfl)]; exact hFqm2_12
        have hFqm3_16 : F16 (qm 3) = cD (cy 0) 6 Dd.2.1 := by rw [eF16, va_up_ne _ _ (pl_ne hFqm3_12 hFqm12_12 rfl)]; exact hFqm3_12
        have hFqm4_16 : F16 (qm 4) = cD (cy 0) 6 Dd.2.2.1 := by rw [eF16, va_up_ne _ _ (pl_ne hFqm4_12 hFqm12_12 rfl)]; exact hFqm4_12
        have hFqm5_16 : F16 (qm 5) = cJ (cy 2) 6 Dd.2.2.2 := by rw [eF16, va_up_ne _ _ (pl_ne hFqm5_12 hFqm12_12 rfl)]; exact hFqm5_12
        have hFqm6_16 : F16 (qm 6) = cI (cy 1) 8 Sl.1 := by rw [eF16, va_up_ne _ _ (pl_ne hFqm6_12 hFqm12_12 rfl)]; exact hFqm6_12
        have hFqm7_16 : F16 (qm 7) = cJ (cy 2) 128 Sl.2 := by rw [eF16, va_up_ne _ _ (pl_ne hFqm7_12 hFqm12_12 rfl)]; exact hFqm7_12
        have hFqm8_16 : F16 (qm 8) = cI (cy 1) 30 Pp.2.1 := by rw [eF16, va_up_ne _ _ (pl_ne hFqm8_12 hFqm12_12 rfl)]; exact hFqm8_12
        have hFqm9_16 : F16 (qm 9) = cI (cy 3) 30 Pp.2.2 := by rw [eF16, va_up_ne _ _ (pl_ne hFqm9_12 hFqm12_12 rfl)]; exact hFqm9_12
        have hFqm10_16 : F16 (qm 10) = cI (cy 1) 5 (upd Kr.1 j_rk n) := by rw [eF16, va_up_ne _ _ (pl_ne hFqm10_12 hFqm12_12 rfl)]; exact hFqm10_12
        have hFqm11_16 : F16 (qm 11) = cI (cy 3) 5 (upd Kr.2.1 j_rk al) := by rw [eF16, va_up_ne _ _ (pl_ne hFqm11_12 hFqm12_12 rfl)]; exact hFqm11_12
        have hFqm12_16 : F16 (qm 12) = cI (cy 1) 60 (upd (zI Kr.2.2 (12 * j_rk) kk) (12 * j_rk + kk) (-1)) := by rw [eF16]; exact va_up_self _ _ _
        have hFqm13_16 : F16 (qm 13) = cI (cy 1) 4 Bk.1 := by rw [eF16, va_up_ne _ _ (pl_ne hFqm13_12 hFqm12_12 rfl)]; exact hFqm13_12
        have hFqm14_16 : F16 (qm 14) = cD (cy 0) 4 Bk.2 := by rw [eF16, va_up_ne _ _ (pl_ne hFqm14_12 hFqm12_12 rfl)]; exact hFqm14_12
        have hFqm15_16 : F16 (qm 15) = cI (cy 1) 6 Xx.2 := by rw [eF16, va_up_ne _ _ (pl_ne hFqm15_12 hFqm12_12 rfl)]; exact hFqm15_12
        obtain ⟨v17, ev17⟩ : ∃ y : Int32, y = (nI kk) + (1) := ⟨_, rfl⟩
        refine lv_iinc (v := v17) (lv' := [(4, .int v17), (3, .int n), (0, .ref o), (1, .int (nI j_rk)), (2, .int al)]) hx hb dX9_rack_70 hl (k := 0) rfl (by rw [ev17]; rfl) (by decide) rfl (fun ls hl => ?_)
        refine lv_goto (tgt := 51) hx hb dX9_rack_73 (by decide) ?_
        have hv : v17 = nI (kk + 1) := by rw [ev17, nI_succ]
        rw [hv] at hl
        exact K (kk + 1) ls H locs (by omega) (by omega) (by rw [← show F16 = va_up F11 (qm 12) (cI (cy 1) 60 (zI Kr.2.2 (12 * j_rk) (kk + 1))) from (by rw [eF16, eF12, upup]; exact congrArg (fun x => va_up F11 (qm 12) (cI (cy 1) 60 x)) (zIs Kr.2.2 (12 * j_rk) kk))]; exact hP) hS (lv_sub hl [0, 1, 2, 3, 4] rfl)
    · refine lv_aload_n hx hb dX9_rack_0 rfl (lv_at hl 0 rfl) ?_
      refine lv_iconst (v := 0) hx hb dX9_rack_1 (by decide) ?_
      refine pg_put (ci := 8) (v := .int 0) (ty := .int) (C := RX9) (T := TX9) (N := 20) hx hb hts hinX9 tyX9 tyX9_ok nmX9 hown hK hP hD hS hmo hFo rfl 0 (by decide) (hts (.fieldLink RX9 61 "RopeDrumsModel" "thrown" "I") (by decide +kernel)) (fun _ h9 => h9) rfl (by decide +kernel) (rfl) (rfl) (Nat.le_of_ble_eq_true rfl) dX9_rack_2 (fun H locs F18 eF18 hP hS => ?_)
      have eF18 : F18 = va_up F o (.inr (8, [.int 0, .ref (qm 0), .ref (qm 1), .ref (qm 2), .ref (qm 3), .ref (qm 4), .ref (qm 5), .ref (qm 6), .ref (qm 7), .int Pp.1, .ref (qm 8), .ref (qm 9), .ref (qm 10), .ref (qm 11), .ref (qm 12), .ref (qm 13), .ref (qm 14), .int Xx.1, .ref (qm 15), .long oc])) := eF18
      have hFo_18 : F18 o = .inr (8, [.int 0, .ref (qm 0), .ref (qm 1), .ref (qm 2), .ref (qm 3), .ref (qm 4), .ref (qm 5), .ref (qm 6), .ref (qm 7), .int Pp.1, .ref (qm 8), .ref (qm 9), .ref (qm 10), .ref (qm 11), .ref (qm 12), .ref (qm 13), .ref (qm 14), .int Xx.1, .ref (qm 15), .long oc]) := by rw [eF18]; exact va_up_self _ _ _
      have hFqm0_18 : F18 (qm 0) = cI (cy 1) 10 Mm.1 := by rw [eF18, va_up_ne _ _ (pl_ne hF0 hFo rfl)]; exact hF0
      have hFqm1_18 : F18 (qm 1) = cJ (cy 2) 10 Mm.2 := by rw [eF18, va_up_ne _ _ (pl_ne hF1 hFo rfl)]; exact hF1
      have hFqm2_18 : F18 (qm 2) = cD (cy 0) 6 Dd.1 := by rw [eF18, va_up_ne _ _ (pl_ne hF2 hFo rfl)]; exact hF2
      have hFqm3_18 : F18 (qm 3) = cD (cy 0) 6 Dd.2.1 := by rw [eF18, va_up_ne _ _ (pl_ne hF3 hFo rfl)]; exact hF3
      have hFqm4_18 : F18 (qm 4) = cD (cy 0) 6 Dd.2.2.1 := by rw [eF18, va_up_ne _ _ (pl_ne hF4 hFo rfl)]; exact hF4
      have hFqm5_18 : F18 (qm 5) = cJ (cy 2) 6 Dd.2.2.2 := by rw [eF18, va_up_ne _ _ (pl_ne hF5 hFo rfl)]; exact hF5
      have hFqm6_18 : F18 (qm 6) = cI (cy 1) 8 Sl.1 := by rw [eF18, va_up_ne _ _ (pl_ne hF6 hFo rfl)]; exact hF6
      have hFqm7_18 : F18 (qm 7) = cJ (cy 2) 128 Sl.2 := by rw [eF18, va_up_ne _ _ (pl_ne hF7 hFo rfl)]; exact hF7
      have hFqm8_18 : F18 (qm 8) = cI (cy 1) 30 Pp.2.1 := by rw [eF18, va_up_ne _ _ (pl_ne hF8 hFo rfl)]; exact hF8
      have hFqm9_18 : F18 (qm 9) = cI (cy 3) 30 Pp.2.2 := by rw [eF18, va_up_ne _ _ (pl_ne hF9 hFo rfl)]; exact hF9
      have hFqm10_18 : F18 (qm 10) = cI (cy 1) 5 Kr.1 := by rw [eF18, va_up_ne _ _ (pl_ne hF10 hFo rfl)]; exact hF10
      have hFqm11_18 : F18 (qm 11) = cI (cy 3) 5 Kr.2.1 := by rw [eF18, va_up_ne _ _ (pl_ne hF11 hFo rfl)]; exact hF11
      have hFqm12_18 : F18 (qm 12) = cI (cy 1) 60 Kr.2.2 := by rw [eF18, va_up_ne _ _ (pl_ne hF12 hFo rfl)]; exact hF12
      have hFqm13_18 : F18 (qm 13) = cI (cy 1) 4 Bk.1 := by rw [eF18, va_up_ne _ _ (pl_ne hF13 hFo rfl)]; exact hF13
      have hFqm14_18 : F18 (qm 14) = cD (cy 0) 4 Bk.2 := by rw [eF18, va_up_ne _ _ (pl_ne hF14 hFo rfl)]; exact hF14
      have hFqm15_18 : F18 (qm 15) = cI (cy 1) 6 Xx.2 := by rw [eF18, va_up_ne _ _ (pl_ne hF15 hFo rfl)]; exact hF15
      refine lv_iload_n hx hb dX9_rack_5 rfl (lv_at hl 1 rfl) ?_
      refine vp_callSi (W.runS (As := [.int (nI j_rk)]) (rest := []) ⟨hx, hb, hml, hown, hts⟩ (c9_isRack l (nI j_rk)) (va_cwS 1 hts gX9_rack_X9_isRack rfl rfl rfl (by decide +kernel) ⟨Nat.le_of_ble_eq_true rfl, Nat.le_of_ble_eq_true rfl⟩) (preS_of okT (trivial)) rfl rfl hl.1 rfl (lv_room (Nat.le_of_ble_eq_true rfl)) dX9_rack_6 ⟨Nat.le_of_ble_eq_true rfl, Nat.le_of_ble_eq_true rfl⟩) (fun r19 hr19 => ?_)
      rw [isx1 hi_rk] at hr19
      subst hr19
      refine lv_if_ne (tgt := 16) hx hb dX9_rack_9 (by decide) (fun c20 => ?_) (fun c20 => absurd c20 (by decide))
      refine lv_iload_n hx hb dX9_rack_16 rfl (lv_at hl 3 rfl) ?_
      refine lv_i2l hx hb dX9_rack_17 rfl ?_
      refine lv_topl (fun v21 ev21 => ?_)
      refine lv_ldc2 hx hb hown (hts (.constantLong RX9 181 (-1)) (by decide +kernel)) dX9_rack_18 ?_
      refine lv_ldc2 hx hb hown (hts (.constantLong RX9 200 (12)) (by decide +kernel)) dX9_rack_21 ?_
      refine vp_callSi (W.runS (As := [.long v21, .long (-1), .long 12]) (rest := []) ⟨hx, hb, hml, hown, hts⟩ (c9_in l v21 (-1) 12) (va_cwS 3 hts gX9_rack_X9_in rfl rfl rfl (by decide +kernel) ⟨Nat.le_of_ble_eq_true rfl, Nat.le_of_ble_eq_true rfl⟩) (preS_of okT (trivial)) rfl rfl hl.1 rfl (lv_room (Nat.le_of_ble_eq_true rfl)) dX9_rack_24 ⟨Nat.le_of_ble_eq_true rfl, Nat.le_of_ble_eq_true rfl⟩) (fun r22 hr22 => ?_)
      have hzr22 : r22 = 0 := by rw [hr22, ev21, inq_i (y := -1) (z := 12) (by decide) (by decide)]; exact if_neg (hnr)
      subst hzr22
      refine lv_if_ne (tgt := 34) hx hb dX9_rack_27 (by decide) (fun c23 => absurd (by decide) c23) (fun c23 => ?_)
      refine lv_sipush (v := -1002) hx hb dX9_rack_30 (by decide) ?_
      exact W.iret (v := -1002) hx hb hr (fun t ht hW => ⟨⟨-1002, F18, rfl, (by subst ev21; have hsp : sp_rack Kr (nI j_rk) al n = (-1002, Kr) := (by unfold sp_rack; rw [hi_rk]; exact if_neg hnr); rw [hsp]; exact ⟨rfl, (by exact ⟨⟨_, _, hmo, hFo_18⟩, ⟨hm0, hFqm0_18⟩, ⟨hm1, hFqm1_18⟩, ⟨hm2, hFqm2_18⟩, ⟨hm3, hFqm3_18⟩, ⟨hm4, hFqm4_18⟩, ⟨hm5, hFqm5_18⟩, ⟨hm6, hFqm6_18⟩, ⟨hm7, hFqm7_18⟩, ⟨hm8, hFqm8_18⟩, ⟨hm9, hFqm9_18⟩, ⟨hm10, hFqm10_18⟩, ⟨hm11, hFqm11_18⟩, ⟨hm12, hFqm12_18⟩, ⟨hm13, hFqm13_18⟩, ⟨hm14, hFqm14_18⟩, ⟨hm15, hFqm15_18⟩, hne⟩)⟩), (by show va_P _ _ _ t.heap; rw [ht]; exact hP)⟩, hS.F ht⟩) hS.2.2 dX9_rack_33

set_option maxHeartbeats 8000000 in
set_option maxRecDepth 100000 in
theorem n_put (l : Launch) (G : va_G) (cy : Nat → ClassId) (L : List Nat) (F : Nat → va_E) (sz : Nat) (o : Nat) (qm : Nat → Nat) (Mm : SM) (Dd : SD) (Sl : SL) (Pp : SP) (Kr : SR) (Bk : SB) (Xx : SX) (hR : RepM cy L o qm Mm Dd Sl Pp Kr Bk Xx F) (hV : Val Mm Dd Sl Pp Kr Bk) (rk i sp : Int32)  : Met l yX9_put wsX9_put ({ frames := 2, cells := 0, slots := 0, locals := 47 }) (va_Pc [.ref o, .int rk, .int i, .int sp] (fun U => bQ G cy L F sz U U.heap)) (va_Qi (fun (r : Int32) (F' : Nat → va_E) => r = (sp_put Pp Kr Xx rk i sp).1 ∧ RepM cy L o qm Mm Dd Sl Pp (sp_put Pp Kr Xx rk i sp).2.1 Bk (sp_put Pp Kr Xx rk i sp).2.2 F') (fun F' t => va_P G vwCl (va_pl L F') t.heap) (va_A (va_pl L F) sz)) 0 0 (va_A (va_pl L F) sz) := by
  refine Met.ofW (cc := cX9_put) (maxL := 4) (ret := (some .int)) (by decide) rfl ?_
  intro p e s m args below meth c s₁ B hml hv
  obtain ⟨rfl, hsz, hP, hK, hD0⟩ := hv
  have hx := B.exec
  have hb := B.bytes
  have hr := B.returns
  have hts := atoms_spec (ws := wsX9_put) B.pre
  have hown : s.vm.findClass RX9 = some m.cls := findClass_of_methodNamed B.named
  have hlocks := B.notSynchronized
  have hinX9 : ∀ w ∈ wsX90, w ∈ wsX9_put := by decide +kernel
  subst hsz
  have hD := hD0.self F s.heap.size
  generalize hAe : va_A (va_pl L F) s.heap.size = A at hD ⊢
  have hA : ∀ q : Nat, s.heap.size ≤ q → A q := fun q h => by rw [← hAe]; exact Or.inr h
  have hS : va_S A s.heap s.heap [] := va_S.rf
  obtain ⟨⟨th, oc, hmo, hFo⟩, ⟨hm0, hF0⟩, ⟨hm1, hF1⟩, ⟨hm2, hF2⟩, ⟨hm3, hF3⟩, ⟨hm4, hF4⟩, ⟨hm5, hF5⟩, ⟨hm6, hF6⟩, ⟨hm7, hF7⟩, ⟨hm8, hF8⟩, ⟨hm9, hF9⟩, ⟨hm10, hF10⟩, ⟨hm11, hF11⟩, ⟨hm12, hF12⟩, ⟨hm13, hF13⟩, ⟨hm14, hF14⟩, ⟨hm15, hF15⟩, hne⟩ := id hR
  obtain ⟨hVM, hVD, hVS, hVP, hVK, hVB⟩ := hV
  have hp30 := hVP.1
  have hl := lv_entry ([.ref o, .int rk, .int i, .int sp]) (n := 4) (Nat.le_of_ble_eq_true rfl)
  rw [lg_entry_eq]
  generalize (lg_sl ([.ref o, .int rk, .int i, .int sp]) ++ List.replicate (4 - (lg_sl ([.ref o, .int rk, .int i, .int sp])).length) Slot.unset).toArray = ls at hl ⊢
  have hl : lv_has ls 4 [(0, .ref o), (1, .int rk), (2, .int i), (3, .int sp)] := hl
  rcases ixc 5 rk with hi_rk | ⟨j_rk, hj_rk, hi_rk, ei_rk⟩
  · rcases spc Pp.1 sp with hsp | ⟨ks, hks, hsp⟩ | ⟨hsp1, hsp2⟩
    · subst hsp
      refine lv_aload_n hx hb dX9_put_0 rfl (lv_at hl 0 rfl) ?_
      refine lv_iconst (v := 0) hx hb dX9_put_1 (by decide) ?_
      refine pg_put (ci := 8) (v := .int 0) (ty := .int) (C := RX9) (T := TX9) (N := 20) hx hb hts hinX9 tyX9 tyX9_ok nmX9 hown hK hP hD hS hmo hFo rfl 0 (by decide) (hts (.fieldLink RX9 61 "RopeDrumsModel" "thrown" "I") (by decide +kernel)) (fun _ h9 => h9) rfl (by decide +kernel) (rfl) (rfl) (Nat.le_of_ble_eq_true rfl) dX9_put_2 (fun H locs F1 eF1 hP hS => ?_)
      have eF1 : F1 = va_up F o (.inr (8, [.int 0, .ref (qm 0), .ref (qm 1), .ref (qm 2), .ref (qm 3), .ref (qm 4), .ref (qm 5), .ref (qm 6), .ref (qm 7), .int Pp.1, .ref (qm 8), .ref (qm 9), .ref (qm 10), .ref (qm 11), .ref (qm 12), .ref (qm 13), .ref (qm 14), .int Xx.1, .ref (qm 15), .long oc])) := eF1
      have hFo_1 : F1 o = .inr (8, [.int 0, .ref (qm 0), .ref (qm 1), .ref (qm 2), .ref (qm 3), .ref (qm 4), .ref (qm 5), .ref (qm 6), .ref (qm 7), .int Pp.1, .ref (qm 8), .ref (qm 9), .ref (qm 10), .ref (qm 11), .ref (qm 12), .ref (qm 13), .ref (qm 14), .int Xx.1, .ref (qm 15), .long oc]) := by rw [eF1]; exact va_up_self _ _ _
      have hFqm0_1 : F1 (qm 0) = cI (cy 1) 10 Mm.1 := by rw [eF1, va_up_ne _ _ (pl_ne hF0 hFo rfl)]; exact hF0
      have hFqm1_1 : F1 (qm 1) = cJ (cy 2) 10 Mm.2 := by rw [eF1, va_up_ne _ _ (pl_ne hF1 hFo rfl)]; exact hF1
      have hFqm2_1 : F1 (qm 2) = cD (cy 0) 6 Dd.1 := by rw [eF1, va_up_ne _ _ (pl_ne hF2 hFo rfl)]; exact hF2
      have hFqm3_1 : F1 (qm 3) = cD (cy 0) 6 Dd.2.1 := by rw [eF1, va_up_ne _ _ (pl_ne hF3 hFo rfl)]; exact hF3
      have hFqm4_1 : F1 (qm 4) = cD (cy 0) 6 Dd.2.2.1 := by rw [eF1, va_up_ne _ _ (pl_ne hF4 hFo rfl)]; exact hF4
      have hFqm5_1 : F1 (qm 5) = cJ (cy 2) 6 Dd.2.2.2 := by rw [eF1, va_up_ne _ _ (pl_ne hF5 hFo rfl)]; exact hF5
      have hFqm6_1 : F1 (qm 6) = cI (cy 1) 8 Sl.1 := by rw [eF1, va_up_ne _ _ (pl_ne hF6 hFo rfl)]; exact hF6
      have hFqm7_1 : F1 (qm 7) = cJ (cy 2) 128 Sl.2 := by rw [eF1, va_up_ne _ _ (pl_ne hF7 hFo rfl)]; exact hF7
      have hFqm8_1 : F1 (qm 8) = cI (cy 1) 30 Pp.2.1 := by rw [eF1, va_up_ne _ _ (pl_ne hF8 hFo rfl)]; exact hF8
      have hFqm9_1 : F1 (qm 9) = cI (cy 3) 30 Pp.2.2 := by rw [eF1, va_up_ne _ _ (pl_ne hF9 hFo rfl)]; exact hF9
      have hFqm10_1 : F1 (qm 10) = cI (cy 1) 5 Kr.1 := by rw [eF1, va_up_ne _ _ (pl_ne hF10 hFo rfl)]; exact hF10
      have hFqm11_1 : F1 (qm 11) = cI (cy 3) 5 Kr.2.1 := by rw [eF1, va_up_ne _ _ (pl_ne hF11 hFo rfl)]; exact hF11
      have hFqm12_1 : F1 (qm 12) = cI (cy 1) 60 Kr.2.2 := by rw [eF1, va_up_ne _ _ (pl_ne hF12 hFo rfl)]; exact hF12
      have hFqm13_1 : F1 (qm 13) = cI (cy 1) 4 Bk.1 := by rw [eF1, va_up_ne _ _ (pl_ne hF13 hFo rfl)]; exact hF13
      have hFqm14_1 : F1 (qm 14) = cD (cy 0) 4 Bk.2 := by rw [eF1, va_up_ne _ _ (pl_ne hF14 hFo rfl)]; exact hF14
      have hFqm15_1 : F1 (qm 15) = cI (cy 1) 6 Xx.2 := by rw [eF1, va_up_ne _ _ (pl_ne hF15 hFo rfl)]; exact hF15
      refine lv_iload_n hx hb dX9_put_5 rfl (lv_at hl 1 rfl) ?_
      refine vp_callSi (W.runS (As := [.int rk]) (rest := []) ⟨hx, hb, hml, hown, hts⟩ (c9_isRack l rk) (va_cwS 1 hts gX9_put_X9_isRack rfl rfl rfl (by decide +kernel) ⟨Nat.le_of_ble_eq_true rfl, Nat.le_of_ble_eq_true rfl⟩) (preS_of okT (trivial)) rfl rfl hl.1 rfl (lv_room (Nat.le_of_ble_eq_true rfl)) dX9_put_6 ⟨Nat.le_of_ble_eq_true rfl, Nat.le_of_ble_eq_true rfl⟩) (fun r2 hr2 => ?_)
      rw [isx0 hi_rk] at hr2
      subst hr2
      refine lv_if_eq (tgt := 25) hx hb dX9_put_9 (by decide) (fun c3 => ?_) (fun c3 => absurd (by decide) c3)
      refine lv_sipush (v := -1001) hx hb dX9_put_25 (by decide) ?_
      exact W.iret (v := -1001) hx hb hr (fun t ht hW => ⟨⟨-1001, F1, rfl, (by have hsp : sp_put Pp Kr Xx rk i (-1) = (-1001, Kr, Xx) := (by unfold sp_put; rw [hi_rk]); rw [hsp]; exact ⟨rfl, (by exact ⟨⟨_, _, hmo, hFo_1⟩, ⟨hm0, hFqm0_1⟩, ⟨hm1, hFqm1_1⟩, ⟨hm2, hFqm2_1⟩, ⟨hm3, hFqm3_1⟩, ⟨hm4, hFqm4_1⟩, ⟨hm5, hFqm5_1⟩, ⟨hm6, hFqm6_1⟩, ⟨hm7, hFqm7_1⟩, ⟨hm8, hFqm8_1⟩, ⟨hm9, hFqm9_1⟩, ⟨hm10, hFqm10_1⟩, ⟨hm11, hFqm11_1⟩, ⟨hm12, hFqm12_1⟩, ⟨hm13, hFqm13_1⟩, ⟨hm14, hFqm14_1⟩, ⟨hm15, hFqm15_1⟩, hne⟩)⟩), (by show va_P _ _ _ t.heap; rw [ht]; exact hP)⟩, hS.F ht⟩) hS.2.2 dX9_put_28
    · subst hsp
      refine lv_aload_n hx hb dX9_put_0 rfl (lv_at hl 0 rfl) ?_
      refine lv_iconst (v := 0) hx hb dX9_put_1 (by decide) ?_
      refine pg_put (ci := 8) (v := .int 0) (ty := .int) (C := RX9) (T := TX9) (N := 20) hx hb hts hinX9 tyX9 tyX9_ok nmX9 hown hK hP hD hS hmo hFo rfl 0 (by decide) (hts (.fieldLink RX9 61 "RopeDrumsModel" "thrown" "I") (by decide +kernel)) (fun _ h9 => h9) rfl (by decide +kernel) (rfl) (rfl) (Nat.le_of_ble_eq_true rfl) dX9_put_2 (fun H locs F4 eF4 hP hS => ?_)
      have eF4 : F4 = va_up F o (.inr (8, [.int 0, .ref (qm 0), .ref (qm 1), .ref (qm 2), .ref (qm 3), .ref (qm 4), .ref (qm 5), .ref (qm 6), .ref (qm 7), .int Pp.1, .ref (qm 8), .ref (qm 9), .ref (qm 10), .ref (qm 11), .ref (qm 12), .ref (qm 13), .ref (qm 14), .int Xx.1, .ref (qm 15), .long oc])) := eF4
      have hFo_4 : F4 o = .inr (8, [.int 0, .ref (qm 0), .ref (qm 1), .ref (qm 2), .ref (qm 3), .ref (qm 4), .ref (qm 5), .ref (qm 6), .ref (qm 7), .int Pp.1, .ref (qm 8), .ref (qm 9), .ref (qm 10), .ref (qm 11), .ref (qm 12), .ref (qm 13), .ref (qm 14), .int Xx.1, .ref (qm 15), .long oc]) := by rw [eF4]; exact va_up_self _ _ _
      have hFqm0_4 : F4 (qm 0) = cI (cy 1) 10 Mm.1 := by rw [eF4, va_up_ne _ _ (pl_ne hF0 hFo rfl)]; exact hF0
      have hFqm1_4 : F4 (qm 1) = cJ (cy 2) 10 Mm.2 := by rw [eF4, va_up_ne _ _ (pl_ne hF1 hFo rfl)]; exact hF1
      have hFqm2_4 : F4 (qm 2) = cD (cy 0) 6 Dd.1 := by rw [eF4, va_up_ne _ _ (pl_ne hF2 hFo rfl)]; exact hF2
      have hFqm3_4 : F4 (qm 3) = cD (cy 0) 6 Dd.2.1 := by rw [eF4, va_up_ne _ _ (pl_ne hF3 hFo rfl)]; exact hF3
      have hFqm4_4 : F4 (qm 4) = cD (cy 0) 6 Dd.2.2.1 := by rw [eF4, va_up_ne _ _ (pl_ne hF4 hFo rfl)]; exact hF4
      have hFqm5_4 : F4 (qm 5) = cJ (cy 2) 6 Dd.2.2.2 := by rw [eF4, va_up_ne _ _ (pl_ne hF5 hFo rfl)]; exact hF5
      have hFqm6_4 : F4 (qm 6) = cI (cy 1) 8 Sl.1 := by rw [eF4, va_up_ne _ _ (pl_ne hF6 hFo rfl)]; exact hF6
      have hFqm7_4 : F4 (qm 7) = cJ (cy 2) 128 Sl.2 := by rw [eF4, va_up_ne _ _ (pl_ne hF7 hFo rfl)]; exact hF7
      have hFqm8_4 : F4 (qm 8) = cI (cy 1) 30 Pp.2.1 := by rw [eF4, va_up_ne _ _ (pl_ne hF8 hFo rfl)]; exact hF8
      have hFqm9_4 : F4 (qm 9) = cI (cy 3) 30 Pp.2.2 := by rw [eF4, va_up_ne _ _ (pl_ne hF9 hFo rfl)]; exact hF9
      have hFqm10_4 : F4 (qm 10) = cI (cy 1) 5 Kr.1 := by rw [eF4, va_up_ne _ _ (pl_ne hF10 hFo rfl)]; exact hF10
      have hFqm11_4 : F4 (qm 11) = cI (cy 3) 5 Kr.2.1 := by rw [eF4, va_up_ne _ _ (pl_ne hF11 hFo rfl)]; exact hF11
      have hFqm12_4 : F4 (qm 12) = cI (cy 1) 60 Kr.2.2 := by rw [eF4, va_up_ne _ _ (pl_ne hF12 hFo rfl)]; exact hF12
      have hFqm13_4 : F4 (qm 13) = cI (cy 1) 4 Bk.1 := by rw [eF4, va_up_ne _ _ (pl_ne hF13 hFo rfl)]; exact hF13
      have hFqm14_4 : F4 (qm 14) = cD (cy 0) 4 Bk.2 := by rw [eF4, va_up_ne _ _ (pl_ne hF14 hFo rfl)]; exact hF14
      have hFqm15_4 : F4 (qm 15) = cI (cy 1) 6 Xx.2 := by rw [eF4, va_up_ne _ _ (pl_ne hF15 hFo rfl)]; exact hF15
      refine lv_iload_n hx hb dX9_put_5 rfl (lv_at hl 1 rfl) ?_
      refine vp_callSi (W.runS (As := [.int rk]) (rest := []) ⟨hx, hb, hml, hown, hts⟩ (c9_isRack l rk) (va_cwS 1 hts gX9_put_X9_isRack rfl rfl rfl (by decide +kernel) ⟨Nat.le_of_ble_eq_true rfl, Nat.le_of_ble_eq_true rfl⟩) (preS_of okT (trivial)) rfl rfl hl.1 rfl (lv_room (Nat.le_of_ble_eq_true rfl)) dX9_put_6 ⟨Nat.le_of_ble_eq_true rfl, Nat.le_of_ble_eq_true rfl⟩) (fun r5 hr5 => ?_)
      rw [isx0 hi_rk] at hr5
      subst hr5
      refine lv_if_eq (tgt := 25) hx hb dX9_put_9 (by decide) (fun c6 => ?_) (fun c6 => absurd (by decide) c6)
      refine lv_sipush (v := -1001) hx hb dX9_put_25 (by decide) ?_
      exact W.iret (v := -1001) hx hb hr (fun t ht hW => ⟨⟨-1001, F4, rfl, (by have hsp : sp_put Pp Kr Xx rk i (nI ks) = (-1001, Kr, Xx) := (by unfold sp_put; rw [hi_rk]); rw [hsp]; exact ⟨rfl, (by exact ⟨⟨_, _, hmo, hFo_4⟩, ⟨hm0, hFqm0_4⟩, ⟨hm1, hFqm1_4⟩, ⟨hm2, hFqm2_4⟩, ⟨hm3, hFqm3_4⟩, ⟨hm4, hFqm4_4⟩, ⟨hm5, hFqm5_4⟩, ⟨hm6, hFqm6_4⟩, ⟨hm7, hFqm7_4⟩, ⟨hm8, hFqm8_4⟩, ⟨hm9, hFqm9_4⟩, ⟨hm10, hFqm10_4⟩, ⟨hm11, hFqm11_4⟩, ⟨hm12, hFqm12_4⟩, ⟨hm13, hFqm13_4⟩, ⟨hm14, hFqm14_4⟩, ⟨hm15, hFqm15_4⟩, hne⟩)⟩), (by show va_P _ _ _ t.heap; rw [ht]; exact hP)⟩, hS.F ht⟩) hS.2.2 dX9_put_28
    · skip
      refine lv_aload_n hx hb dX9_put_0 rfl (lv_at hl 0 rfl) ?_
      refine lv_iconst (v := 0) hx hb dX9_put_1 (by decide) ?_
      refine pg_put (ci := 8) (v := .int 0) (ty := .int) (C := RX9) (T := TX9) (N := 20) hx hb hts hinX9 tyX9 tyX9_ok nmX9 hown hK hP hD hS hmo hFo rfl 0 (by decide) (hts (.fieldLink RX9 61 "RopeDrumsModel" "thrown" "I") (by decide +kernel)) (fun _ h9 => h9) rfl (by decide +kernel) (rfl) (rfl) (Nat.le_of_ble_eq_true rfl) dX9_put_2 (fun H locs F7 eF7 hP hS => ?_)
      have eF7 : F7 = va_up F o (.inr (8, [.int 0, .ref (qm 0), .ref (qm 1), .ref (qm 2), .ref (qm 3), .ref (qm 4), .ref (qm 5), .ref (qm 6), .ref (qm 7), .int Pp.1, .ref (qm 8), .ref (qm 9), .ref (qm 10), .ref (qm 11), .ref (qm 12), .ref (qm 13), .ref (qm 14), .int Xx.1, .ref (qm 15), .long oc])) := eF7
      have hFo_7 : F7 o = .inr (8, [.int 0, .ref (qm 0), .ref (qm 1), .ref (qm 2), .ref (qm 3), .ref (qm 4), .ref (qm 5), .ref (qm 6), .ref (qm 7), .int Pp.1, .ref (qm 8), .ref (qm 9), .ref (qm 10), .ref (qm 11), .ref (qm 12), .ref (qm 13), .ref (qm 14), .int Xx.1, .ref (qm 15), .long oc]) := by rw [eF7]; exact va_up_self _ _ _
      have hFqm0_7 : F7 (qm 0) = cI (cy 1) 10 Mm.1 := by rw [eF7, va_up_ne _ _ (pl_ne hF0 hFo rfl)]; exact hF0
      have hFqm1_7 : F7 (qm 1) = cJ (cy 2) 10 Mm.2 := by rw [eF7, va_up_ne _ _ (pl_ne hF1 hFo rfl)]; exact hF1
      have hFqm2_7 : F7 (qm 2) = cD (cy 0) 6 Dd.1 := by rw [eF7, va_up_ne _ _ (pl_ne hF2 hFo rfl)]; exact hF2
      have hFqm3_7 : F7 (qm 3) = cD (cy 0) 6 Dd.2.1 := by rw [eF7, va_up_ne _ _ (pl_ne hF3 hFo rfl)]; exact hF3
      have hFqm4_7 : F7 (qm 4) = cD (cy 0) 6 Dd.2.2.1 := by rw [eF7, va_up_ne _ _ (pl_ne hF4 hFo rfl)]; exact hF4
      have hFqm5_7 : F7 (qm 5) = cJ (cy 2) 6 Dd.2.2.2 := by rw [eF7, va_up_ne _ _ (pl_ne hF5 hFo rfl)]; exact hF5
      have hFqm6_7 : F7 (qm 6) = cI (cy 1) 8 Sl.1 := by rw [eF7, va_up_ne _ _ (pl_ne hF6 hFo rfl)]; exact hF6
      have hFqm7_7 : F7 (qm 7) = cJ (cy 2) 128 Sl.2 := by rw [eF7, va_up_ne _ _ (pl_ne hF7 hFo rfl)]; exact hF7
      have hFqm8_7 : F7 (qm 8) = cI (cy 1) 30 Pp.2.1 := by rw [eF7, va_up_ne _ _ (pl_ne hF8 hFo rfl)]; exact hF8
      have hFqm9_7 : F7 (qm 9) = cI (cy 3) 30 Pp.2.2 := by rw [eF7, va_up_ne _ _ (pl_ne hF9 hFo rfl)]; exact hF9
      have hFqm10_7 : F7 (qm 10) = cI (cy 1) 5 Kr.1 := by rw [eF7, va_up_ne _ _ (pl_ne hF10 hFo rfl)]; exact hF10
      have hFqm11_7 : F7 (qm 11) = cI (cy 3) 5 Kr.2.1 := by rw [eF7, va_up_ne _ _ (pl_ne hF11 hFo rfl)]; exact hF11
      have hFqm12_7 : F7 (qm 12) = cI (cy 1) 60 Kr.2.2 := by rw [eF7, va_up_ne _ _ (pl_ne hF12 hFo rfl)]; exact hF12
      have hFqm13_7 : F7 (qm 13) = cI (cy 1) 4 Bk.1 := by rw [eF7, va_up_ne _ _ (pl_ne hF13 hFo rfl)]; exact hF13
      have hFqm14_7 : F7 (qm 14) = cD (cy 0) 4 Bk.2 := by rw [eF7, va_up_ne _ _ (pl_ne hF14 hFo rfl)]; exact hF14
      have hFqm15_7 : F7 (qm 15) = cI (cy 1) 6 Xx.2 := by rw [eF7, va_up_ne _ _ (pl_ne hF15 hFo rfl)]; exact hF15
      refine lv_iload_n hx hb dX9_put_5 rfl (lv_at hl 1 rfl) ?_
      refine vp_callSi (W.runS (As := [.int rk]) (rest := []) ⟨hx, hb, hml, hown, hts⟩ (c9_isRack l rk) (va_cwS 1 hts gX9_put_X9_isRack rfl rfl rfl (by decide +kernel) ⟨Nat.le_of_ble_eq_true rfl, Nat.le_of_ble_eq_true rfl⟩) (preS_of okT (trivial)) rfl rfl hl.1 rfl (lv_room (Nat.le_of_ble_eq_true rfl)) dX9_put_6 ⟨Nat.le_of_ble_eq_true rfl, Nat.le_of_ble_eq_true rfl⟩) (fun r8 hr8 => ?_)
      rw [isx0 hi_rk] at hr8
      subst hr8
      refine lv_if_eq (tgt := 25) hx hb dX9_put_9 (by decide) (fun c9 => ?_) (fun c9 => absurd (by decide) c9)
      refine lv_sipush (v := -1001) hx hb dX9_put_25 (by decide) ?_
      exact W.iret (v := -1001) hx hb hr (fun t ht hW => ⟨⟨-1001, F7, rfl, (by have hsp : sp_put Pp Kr Xx rk i sp = (-1001, Kr, Xx) := (by unfold sp_put; rw [hi_rk]); rw [hsp]; exact ⟨rfl, (by exact ⟨⟨_, _, hmo, hFo_7⟩, ⟨hm0, hFqm0_7⟩, ⟨hm1, hFqm1_7⟩, ⟨hm2, hFqm2_7⟩, ⟨hm3, hFqm3_7⟩, ⟨hm4, hFqm4_7⟩, ⟨hm5, hFqm5_7⟩, ⟨hm6, hFqm6_7⟩, ⟨hm7, hFqm7_7⟩, ⟨hm8, hFqm8_7⟩, ⟨hm9, hFqm9_7⟩, ⟨hm10, hFqm10_7⟩, ⟨hm11, hFqm11_7⟩, ⟨hm12, hFqm12_7⟩, ⟨hm13, hFqm13_7⟩, ⟨hm14, hFqm14_7⟩, ⟨hm15, hFqm15_7⟩, hne⟩)⟩), (by show va_P _ _ _ t.heap; rw [ht]; exact hP)⟩, hS.F ht⟩) hS.2.2 dX9_put_28
  · subst ei_rk
    rcases spc Pp.1 sp with hsp | ⟨ks, hks, hsp⟩ | ⟨hsp1, hsp2⟩
    · subst hsp
      rcases lackc (i := i) (by decide) ((hVK j_rk hj_rk).2.1) with ⟨hp_i, hk_i⟩ | ⟨hp_i, hk_i⟩ | ⟨q_i, hq_i, hs_i, hp_i, hk_i, ei_i⟩
      · have hp0_i : ¬ pl0 (Kr.1 j_rk) i = 0 := by rw [hp_i]; decide
        refine lv_aload_n hx hb dX9_put_0 rfl (lv_at hl 0 rfl) ?_
        refine lv_iconst (v := 0) hx hb dX9_put_1 (by decide) ?_
        refine pg_put (ci := 8) (v := .int 0) (ty := .int) (C := RX9) (T := TX9) (N := 20) hx hb hts hinX9 tyX9 tyX9_ok nmX9 hown hK hP hD hS hmo hFo rfl 0 (by decide) (hts (.fieldLink RX9 61 "RopeDrumsModel" "thrown" "I") (by decide +kernel)) (fun _ h9 => h9) rfl (by decide +kernel) (rfl) (rfl) (Nat.le_of_ble_eq_true rfl) dX9_put_2 (fun H locs F10 eF10 hP hS => ?_)
        have eF10 : F10 = va_up F o (.inr (8, [.int 0, .ref (qm 0), .ref (qm 1), .ref (qm 2), .ref (qm 3), .ref (qm 4), .ref (qm 5), .ref (qm 6), .ref (qm 7), .int Pp.1, .ref (qm 8), .ref (qm 9), .ref (qm 10), .ref (qm 11), .ref (qm 12), .ref (qm 13), .ref (qm 14), .int Xx.1, .ref (qm 15), .long oc])) := eF10
        have hFo_10 : F10 o = .inr (8, [.int 0, .ref (qm 0), .ref (qm 1), .ref (qm 2), .ref (qm 3), .ref (qm 4), .ref (qm 5), .ref (qm 6), .ref (qm 7), .int Pp.1, .ref (qm 8), .ref (qm 9), .ref (qm 10), .ref (qm 11), .ref (qm 12), .ref (qm 13), .ref (qm 14), .int Xx.1, .ref (qm 15), .long oc]) := by rw [eF10]; exact va_up_self _ _ _
        have hFqm0_10 : F10 (qm 0) = cI (cy 1) 10 Mm.1 := by rw [eF10, va_up_ne _ _ (pl_ne hF0 hFo rfl)]; exact hF0
        have hFqm1_10 : F10 (qm 1) = cJ (cy 2) 10 Mm.2 := by rw [eF10, va_up_ne _ _ (pl_ne hF1 hFo rfl)]; exact hF1
        have hFqm2_10 : F10 (qm 2) = cD (cy 0) 6 Dd.1 := by rw [eF10, va_up_ne _ _ (pl_ne hF2 hFo rfl)]; exact hF2
        have hFqm3_10 : F10 (qm 3) = cD (cy 0) 6 Dd.2.1 := by rw [eF10, va_up_ne _ _ (pl_ne hF3 hFo rfl)]; exact hF3
        have hFqm4_10 : F10 (qm 4) = cD (cy 0) 6 Dd.2.2.1 := by rw [eF10, va_up_ne _ _ (pl_ne hF4 hFo rfl)]; exact hF4
        have hFqm5_10 : F10 (qm 5) = cJ (cy 2) 6 Dd.2.2.2 := by rw [eF10, va_up_ne _ _ (pl_ne hF5 hFo rfl)]; exact hF5
        have hFqm6_10 : F10 (qm 6) = cI (cy 1) 8 Sl.1 := by rw [eF10, va_up_ne _ _ (pl_ne hF6 hFo rfl)]; exact hF6
        have hFqm7_10 : F10 (qm 7) = cJ (cy 2) 128 Sl.2 := by rw [eF10, va_up_ne _ _ (pl_ne hF7 hFo rfl)]; exact hF7
        have hFqm8_10 : F10 (qm 8) = cI (cy 1) 30 Pp.2.1 := by rw [eF10, va_up_ne _ _ (pl_ne hF8 hFo rfl)]; exact hF8
        have hFqm9_10 : F10 (qm 9) = cI (cy 3) 30 Pp.2.2 := by rw [eF10, va_up_ne _ _ (pl_ne hF9 hFo rfl)]; exact hF9
        have hFqm10_10 : F10 (qm 10) = cI (cy 1) 5 Kr.1 := by rw [eF10, va_up_ne _ _ (pl_ne hF10 hFo rfl)]; exact hF10
        have hFqm11_10 : F10 (qm 11) = cI (cy 3) 5 Kr.2.1 := by rw [eF10, va_up_ne _ _ (pl_ne hF11 hFo rfl)]; exact hF11
        have hFqm12_10 : F10 (qm 12) = cI (cy 1) 60 Kr.2.2 := by rw [eF10, va_up_ne _ _ (pl_ne hF12 hFo rfl)]; exact hF12
        have hFqm13_10 : F10 (qm 13) = cI (cy 1) 4 Bk.1 := by rw [eF10, va_up_ne _ _ (pl_ne hF13 hFo rfl)]; exact hF13
        have hFqm14_10 : F10 (qm 14) = cD (cy 0) 4 Bk.2 := by rw [eF10, va_up_ne _ _ (pl_ne hF14 hFo rfl)]; exact hF14
        have hFqm15_10 : F10 (qm 15) = cI (cy 1) 6 Xx.2 := by rw [eF10, va_up_ne _ _ (pl_ne hF15 hFo rfl)]; exact hF15
        refine lv_iload_n hx hb dX9_put_5 rfl (lv_at hl 1 rfl) ?_
        refine vp_callSi (W.runS (As := [.int (nI j_rk)]) (rest := []) ⟨hx, hb, hml, hown, hts⟩ (c9_isRack l (nI j_rk)) (va_cwS 1 hts gX9_put_X9_isRack rfl rfl rfl (by decide +kernel) ⟨Nat.le_of_ble_eq_true rfl, Nat.le_of_ble_eq_true rfl⟩) (preS_of okT (trivial)) rfl rfl hl.1 rfl (lv_room (Nat.le_of_ble_eq_true rfl)) dX9_put_6 ⟨Nat.le_of_ble_eq_true rfl, Nat.le_of_ble_eq_true rfl⟩) (fun r11 hr11 => ?_)
        rw [isx1 hi_rk] at hr11
        subst hr11
        refine lv_if_eq (tgt := 25) hx hb dX9_put_9 (by decide) (fun c12 => absurd c12 (by decide)) (fun c12 => ?_)
        refine lv_iload_n hx hb dX9_put_12 rfl (lv_at hl 3 rfl) ?_
        refine lv_iconst (v := -1) hx hb dX9_put_13 (by decide) ?_
        refine lv_icmp_eq (tgt := 29) hx hb dX9_put_14 (by decide) (fun c13 => ?_) (fun c13 => absurd (by decide) c13)
        refine lv_aload_n hx hb dX9_put_29 rfl (lv_at hl 0 rfl) ?_
        refine lv_aload_n hx hb dX9_put_30 rfl (lv_at hl 0 rfl) ?_
        refine lv_iload_n hx hb dX9_put_31 rfl (lv_at hl 1 rfl) ?_
        refine lv_iload_n hx hb dX9_put_32 rfl (lv_at hl 2 rfl) ?_
        refine vp_callSi (W.runV (As := [.int (nI j_rk), .int i]) (rest := [.ref o]) ⟨hx, hb, hml, hown, hts⟩ (c9_rackCause l G cy L F10 o qm 0 Pp.1 Xx.1 oc hmo hFo_10 Kr.1 hm10 hFqm10_10 j_rk hj_rk i ((hVK j_rk hj_rk).2.1)) (cwV 2 hts gX9_put_X9_rackCause rfl rfl rfl (by decide +kernel) ⟨Nat.le_of_ble_eq_true rfl, Nat.le_of_ble_eq_true rfl⟩) (preV_of okP (⟨hP, hK, hD.top⟩) (pl_recv hK hP (ci := 8) rfl hmo hFo_10)) rfl rfl hl.1 rfl (lv_room (Nat.le_of_ble_eq_true rfl)) dX9_put_33 ⟨Nat.le_of_ble_eq_true rfl, Nat.le_of_ble_eq_true rfl⟩) (fun r14 hr14 => ?_)
        rw [hp_i] at hr14
        have hzr14 : r14 = 1 := hr14
        clear hr14
        subst hzr14
        refine pg_put (ci := 8) (v := .int 1) (ty := .int) (C := RX9) (T := TX9) (N := 20) hx hb hts hinX9 tyX9 tyX9_ok nmX9 hown hK hP hD hS hmo hFo_10 rfl 17 (by decide) (hts (.fieldLink RX9 65 "RopeDrumsModel" "failed" "I") (by decide +kernel)) (fun _ h9 => h9) rfl (by decide +kernel) (rfl) (rfl) (Nat.le_of_ble_eq_true rfl) dX9_put_36 (fun H locs F15 eF15 hP hS => ?_)
        have eF15 : F15 = va_up F10 o (.inr (8, [.int 0, .ref (qm 0), .ref (qm 1), .ref (qm 2), .ref (qm 3), .ref (qm 4), .ref (qm 5), .ref (qm 6), .ref (qm 7), .int Pp.1, .ref (qm 8), .ref (qm 9), .ref (qm 10), .ref (qm 11), .ref (qm 12), .ref (qm 13), .ref (qm 14), .int 1, .ref (qm 15), .long oc])) := eF15
        have hFo_15 : F15 o = .inr (8, [.int 0, .ref (qm 0), .ref (qm 1), .ref (qm 2), .ref (qm 3), .ref (qm 4), .ref (qm 5), .ref (qm 6), .ref (qm 7), .int Pp.1, .ref (qm 8), .ref (qm 9), .ref (qm 10), .ref (qm 11), .ref (qm 12), .ref (qm 13), .ref (qm 14), .int 1, .ref (qm 15), .long oc]) := by rw [eF15]; exact va_up_self _ _ _
        have hFqm0_15 : F15 (qm 0) = cI (cy 1) 10 Mm.1 := by rw [eF15, va_up_ne _ _ (pl_ne hFqm0_10 hFo_10 rfl)]; exact hFqm0_10
        have hFqm1_15 : F15 (qm 1) = cJ (cy 2) 10 Mm.2 := by rw [eF15, va_up_ne _ _ (pl_ne hFqm1_10 hFo_10 rfl)]; exact hFqm1_10
        have hFqm2_15 : F15 (qm 2) = cD (cy 0) 6 Dd.1 := by rw [eF15, va_up_ne _ _ (pl_ne hFqm2_10 hFo_10 rfl)]; exact hFqm2_10
        have hFqm3_15 : F15 (qm 3) = cD (cy 0) 6 Dd.2.1 := by rw [eF15, va_up_ne _ _ (pl_ne hFqm3_10 hFo_10 rfl)]; exact hFqm3_10
        have hFqm4_15 : F15 (qm 4) = cD (cy 0) 6 Dd.2.2.1 := by rw [eF15, va_up_ne _ _ (pl_ne hFqm4_10 hFo_10 rfl)]; exact hFqm4_10
        have hFqm5_15 : F15 (qm 5) = cJ (cy 2) 6 Dd.2.2.2 := by rw [eF15, va_up_ne _ _ (pl_ne hFqm5_10 hFo_10 rfl)]; exact hFqm5_10
        have hFqm6_15 : F15 (qm 6) = cI (cy 1) 8 Sl.1 := by rw [eF15, va_up_ne _ _ (pl_ne hFqm6_10 hFo_10 rfl)]; exact hFqm6_10
        have hFqm7_15 : F15 (qm 7) = cJ (cy 2) 128 Sl.2 := by rw [eF15, va_up_ne _ _ (pl_ne hFqm7_10 hFo_10 rfl)]; exact hFqm7_10
        have hFqm8_15 : F15 (qm 8) = cI (cy 1) 30 Pp.2.1 := by rw [eF15, va_up_ne _ _ (pl_ne hFqm8_10 hFo_10 rfl)]; exact hFqm8_10
        have hFqm9_15 : F15 (qm 9) = cI (cy 3) 30 Pp.2.2 := by rw [eF15, va_up_ne _ _ (pl_ne hFqm9_10 hFo_10 rfl)]; exact hFqm9_10
        have hFqm10_15 : F15 (qm 10) = cI (cy 1) 5 Kr.1 := by rw [eF15, va_up_ne _ _ (pl_ne hFqm10_10 hFo_10 rfl)]; exact hFqm10_10
        have hFqm11_15 : F15 (qm 11) = cI (cy 3) 5 Kr.2.1 := by rw [eF15, va_up_ne _ _ (pl_ne hFqm11_10 hFo_10 rfl)]; exact hFqm11_10
        have hFqm12_15 : F15 (qm 12) = cI (cy 1) 60 Kr.2.2 := by rw [eF15, va_up_ne _ _ (pl_ne hFqm12_10 hFo_10 rfl)]; exact hFqm12_10
        have hFqm13_15 : F15 (qm 13) = cI (cy 1) 4 Bk.1 := by rw [eF15, va_up_ne _ _ (pl_ne hFqm13_10 hFo_10 rfl)]; exact hFqm13_10
        have hFqm14_15 : F15 (qm 14) = cD (cy 0) 4 Bk.2 := by rw [eF15, va_up_ne _ _ (pl_ne hFqm14_10 hFo_10 rfl)]; exact hFqm14_10
        have hFqm15_15 : F15 (qm 15) = cI (cy 1) 6 Xx.2 := by rw [eF15, va_up_ne _ _ (pl_ne hFqm15_10 hFo_10 rfl)]; exact hFqm15_10
        refine lv_aload_n hx hb dX9_put_39 rfl (lv_at hl 0 rfl) ?_
        refine pg_get (ci := 8) (C := RX9) (T := TX9) (N := 20) hx hb hts hinX9 hown hK hP hmo hFo_15 rfl 17 (by decide) (hts (.fieldLink RX9 65 "RopeDrumsModel" "failed" "I") (by decide +kernel)) (fun _ h9 => h9) rfl dX9_put_40 ?_
        refine lv_if_ne (tgt := 74) hx hb dX9_put_43 (by decide) (fun c16 => ?_) (fun c16 => absurd c16 (by decide))
        refine lv_aload_n hx hb dX9_put_74 rfl (lv_at hl 0 rfl) ?_
        refine pg_get (ci := 8) (C := RX9) (T := TX9) (N := 20) hx hb hts hinX9 hown hK hP hmo hFo_15 rfl 17 (by decide) (hts (.fieldLink RX9 65 "RopeDrumsModel" "failed" "I") (by decide +kernel)) (fun _ h9 => h9) rfl dX9_put_75 ?_
        refine lv_if_ne (tgt := 93) hx hb dX9_put_78 (by decide) (fun c17 => ?_) (fun c17 => absurd c17 (by decide))
        refine lv_aload_n hx hb dX9_put_93 rfl (lv_at hl 0 rfl) ?_
        refine lv_iconst (v := 1) hx hb dX9_put_94 (by decide) ?_
        refine va_calli (va_runV (As := [.int 1]) (rest := []) ⟨hx, hb, hml, hown, hts⟩ (c9_answers_1 l G cy L F15 H.size o qm 0 Pp.1 oc hmo hFo_15 Xx.2 hm15 hFqm15_15 1) (cwV 1 hts gX9_put_X9_answers rfl rfl rfl (by decide +kernel) ⟨Nat.le_of_ble_eq_true rfl, Nat.le_of_ble_eq_true rfl⟩) (preV_of okQ (⟨rfl, hP, hK, hD.top⟩) (pl_recv hK hP (ci := 8) rfl hmo hFo_15)) rfl rfl hl.1 rfl (lv_room (Nat.le_of_ble_eq_true rfl)) dX9_put_95 ⟨Nat.le_of_ble_eq_true rfl, Nat.le_of_ble_eq_true rfl⟩) hS (fun q _ h => pl_free hD hS hA q h) (pl_free hD hS hA) (fun r19 F18 t H1 locs ht hvm hw hP1 hz1 hk1 hS => ?_)
        have hP1 : va_P G vwCl (va_pl L F18) t.heap := hP1
        rw [ht] at hP1
        have hP := hP1
        generalize H1 = H at hP hS ⊢
        obtain ⟨hqr19, eF18⟩ := hw
        have eF18 : F18 = va_up F15 (qm 15) (cI (cy 1) 6 (upd Xx.2 1 (Xx.2 1 + 1))) := eF18
        have hFo_19 : F18 o = .inr (8, [.int 0, .ref (qm 0), .ref (qm 1), .ref (qm 2), .ref (qm 3), .ref (qm 4), .ref (qm 5), .ref (qm 6), .ref (qm 7), .int Pp.1, .ref (qm 8), .ref (qm 9), .ref (qm 10), .ref (qm 11), .ref (qm 12), .ref (qm 13), .ref (qm 14), .int 1, .ref (qm 15), .long oc]) := by rw [eF18, va_up_ne _ _ (pl_ne hFo_15 hFqm15_15 rfl)]; exact hFo_15
        have hFqm0_19 : F18 (qm 0) = cI (cy 1) 10 Mm.1 := by rw [eF18, va_up_ne _ _ (pl_ne hFqm0_15 hFqm15_15 rfl)]; exact hFqm0_15
        have hFqm1_19 : F18 (qm 1) = cJ (cy 2) 10 Mm.2 := by rw [eF18, va_up_ne _ _ (pl_ne hFqm1_15 hFqm15_15 rfl)]; exact hFqm1_15
        have hFqm2_19 : F18 (qm 2) = cD (cy 0) 6 Dd.1 := by rw [eF18, va_up_ne _ _ (pl_ne hFqm2_15 hFqm15_15 rfl)]; exact hFqm2_15
        have hFqm3_19 : F18 (qm 3) = cD (cy 0) 6 Dd.2.1 := by rw [eF18, va_up_ne _ _ (pl_ne hFqm3_15 hFqm15_15 rfl)]; exact hFqm3_15
        have hFqm4_19 : F18 (qm 4) = cD (cy 0) 6 Dd.2.2.1 := by rw [eF18, va_up_ne _ _ (pl_ne hFqm4_15 hFqm15_15 rfl)]; exact hFqm4_15
        have hFqm5_19 : F18 (qm 5) = cJ (cy 2) 6 Dd.2.2.2 := by rw [eF18, va_up_ne _ _ (pl_ne hFqm5_15 hFqm15_15 rfl)]; exact hFqm5_15
        have hFqm6_19 : F18 (qm 6) = cI (cy 1) 8 Sl.1 := by rw [eF18, va_up_ne _ _ (pl_ne hFqm6_15 hFqm15_15 rfl)]; exact hFqm6_15
        have hFqm7_19 : F18 (qm 7) = cJ (cy 2) 128 Sl.2 := by rw [eF18, va_up_ne _ _ (pl_ne hFqm7_15 hFqm15_15 rfl)]; exact hFqm7_15
        have hFqm8_19 : F18 (qm 8) = cI (cy 1) 30 Pp.2.1 := by rw [eF18, va_up_ne _ _ (pl_ne hFqm8_15 hFqm15_15 rfl)]; exact hFqm8_15
        have hFqm9_19 : F18 (qm 9) = cI (cy 3) 30 Pp.2.2 := by rw [eF18, va_up_ne _ _ (pl_ne hFqm9_15 hFqm15_15 rfl)]; exact hFqm9_15
        have hFqm10_19 : F18 (qm 10) = cI (cy 1) 5 Kr.1 := by rw [eF18, va_up_ne _ _ (pl_ne hFqm10_15 hFqm15_15 rfl)]; exact hFqm10_15
        have hFqm11_19 : F18 (qm 11) = cI (cy 3) 5 Kr.2.1 := by rw [eF18, va_up_ne _ _ (pl_ne hFqm11_15 hFqm15_15 rfl)]; exact hFqm11_15
        have hFqm12_19 : F18 (qm 12) = cI (cy 1) 60 Kr.2.2 := by rw [eF18, va_up_ne _ _ (pl_ne hFqm12_15 hFqm15_15 rfl)]; exact hFqm12_15
        have hFqm13_19 : F18 (qm 13) = cI (cy 1) 4 Bk.1 := by rw [eF18, va_up_ne _ _ (pl_ne hFqm13_15 hFqm15_15 rfl)]; exact hFqm13_15
        have hFqm14_19 : F18 (qm 14) = cD (cy 0) 4 Bk.2 := by rw [eF18, va_up_ne _ _ (pl_ne hFqm14_15 hFqm15_15 rfl)]; exact hFqm14_15
        have hFqm15_19 : F18 (qm 15) = cI (cy 1) 6 (upd Xx.2 1 (Xx.2 1 + 1)) := by rw [eF18]; exact va_up_self _ _ _
        have hr19 := hqr19
        exact W.iret (v := r19) hx hb hr (fun t ht hW => ⟨⟨r19, F18, rfl, (by subst hr19; have hsp : sp_put Pp Kr Xx (nI j_rk) i (-1) = (-10 - 1, Kr, failX Xx 1) := (by unfold sp_put; rw [hi_rk]; exact (if_pos (Or.inl rfl)).trans ((if_neg hp0_i).trans (by rw [hp_i]; rfl))); rw [hsp]; exact ⟨rfl, (by exact ⟨⟨_, _, hmo, hFo_19⟩, ⟨hm0, hFqm0_19⟩, ⟨hm1, hFqm1_19⟩, ⟨hm2, hFqm2_19⟩, ⟨hm3, hFqm3_19⟩, ⟨hm4, hFqm4_19⟩, ⟨hm5, hFqm5_19⟩, ⟨hm6, hFqm6_19⟩, ⟨hm7, hFqm7_19⟩, ⟨hm8, hFqm8_19⟩, ⟨hm9, hFqm9_19⟩, ⟨hm10, hFqm10_19⟩, ⟨hm11, hFqm11_19⟩, ⟨hm12, hFqm12_19⟩, ⟨hm13, hFqm13_19⟩, ⟨hm14, hFqm14_19⟩, ⟨hm15, hFqm15_19⟩, hne⟩)⟩), (by show va_P _ _ _ t.heap; rw [ht]; exact hP)⟩, hS.F ht⟩) hS.2.2 dX9_put_98
      · have hp0_i : ¬ pl0 (Kr.1 j_rk) i = 0 := by rw [hp_i]; decide
        refine lv_aload_n hx hb dX9_put_0 rfl (lv_at hl 0 rfl) ?_
        refine lv_iconst (v := 0) hx hb dX9_put_1 (by decide) ?_
        refine pg_put (ci := 8) (v := .int 0) (ty := .int) (C := RX9) (T := TX9) (N := 20) hx hb hts hinX9 tyX9 tyX9_ok nmX9 hown hK hP hD hS hmo hFo rfl 0 (by decide) (hts (.fieldLink RX9 61 "RopeDrumsModel" "thrown" "I") (by decide +kernel)) (fun _ h9 => h9) rfl (by decide +kernel) (rfl) (rfl) (Nat.le_of_ble_eq_true rfl) dX9_put_2 (fun H locs F20 eF20 hP hS => ?_)
        have eF20 : F20 = va_up F o (.inr (8, [.int 0, .ref (qm 0), .ref (qm 1), .ref (qm 2), .ref (qm 3), .ref (qm 4), .ref (qm 5), .ref (qm 6), .ref (qm 7), .int Pp.1, .ref (qm 8), .ref (qm 9), .ref (qm 10), .ref (qm 11), .ref (qm 12), .ref (qm 13), .ref (qm 14), .int Xx.1, .ref (qm 15), .long oc])) := eF20
        have hFo_20 : F20 o = .inr (8, [.int 0, .ref (qm 0), .ref (qm 1), .ref (qm 2), .ref (qm 3), .ref (qm 4), .ref (qm 5), .ref (qm 6), .ref (qm 7), .int Pp.1, .ref (qm 8), .ref (qm 9), .ref (qm 10), .ref (qm 11), .ref (qm 12), .ref (qm 13), .ref (qm 14), .int Xx.1, .ref (qm 15), .long oc]) := by rw [eF20]; exact va_up_self _ _ _
        have hFqm0_20 : F20 (qm 0) = cI (cy 1) 10 Mm.1 := by rw [eF20, va_up_ne _ _ (pl_ne hF0 hFo rfl)]; exact hF0
        have hFqm1_20 : F20 (qm 1) = cJ (cy 2) 10 Mm.2 := by rw [eF20, va_up_ne _ _ (pl_ne hF1 hFo rfl)]; exact hF1
        have hFqm2_20 : F20 (qm 2) = cD (cy 0) 6 Dd.1 := by rw [eF20, va_up_ne _ _ (pl_ne hF2 hFo rfl)]; exact hF2
        have hFqm3_20 : F20 (qm 3) = cD (cy 0) 6 Dd.2.1 := by rw [eF20, va_up_ne _ _ (pl_ne hF3 hFo rfl)]; exact hF3
        have hFqm4_20 : F20 (qm 4) = cD (cy 0) 6 Dd.2.2.1 := by rw [eF20, va_up_ne _ _ (pl_ne hF4 hFo rfl)]; exact hF4
        have hFqm5_20 : F20 (qm 5) = cJ (cy 2) 6 Dd.2.2.2 := by rw [eF20, va_up_ne _ _ (pl_ne hF5 hFo rfl)]; exact hF5
        have hFqm6_20 : F20 (qm 6) = cI (cy 1) 8 Sl.1 := by rw [eF20, va_up_ne _ _ (pl_ne hF6 hFo rfl)]; exact hF6
        have hFqm7_20 : F20 (qm 7) = cJ (cy 2) 128 Sl.2 := by rw [eF20, va_up_ne _ _ (pl_ne hF7 hFo rfl)]; exact hF7
        have hFqm8_20 : F20 (qm 8) = cI (cy 1) 30 Pp.2.1 := by rw [eF20, va_up_ne _ _ (pl_ne hF8 hFo rfl)]; exact hF8
        have hFqm9_20 : F20 (qm 9) = cI (cy 3) 30 Pp.2.2 := by rw [eF20, va_up_ne _ _ (pl_ne hF9 hFo rfl)]; exact hF9
        have hFqm10_20 : F20 (qm 10) = cI (cy 1) 5 Kr.1 := by rw [eF20, va_up_ne _ _ (pl_ne hF10 hFo rfl)]; exact hF10
        have hFqm11_20 : F20 (qm 11) = cI (cy 3) 5 Kr.2.1 := by rw [eF20, va_up_ne _ _ (pl_ne hF11 hFo rfl)]; exact hF11
        have hFqm12_20 : F20 (qm 12) = cI (cy 1) 60 Kr.2.2 := by rw [eF20, va_up_ne _ _ (pl_ne hF12 hFo rfl)]; exact hF12
        have hFqm13_20 : F20 (qm 13) = cI (cy 1) 4 Bk.1 := by rw [eF20, va_up_ne _ _ (pl_ne hF13 hFo rfl)]; exact hF13
        have hFqm14_20 : F20 (qm 14) = cD (cy 0) 4 Bk.2 := by rw [eF20, va_up_ne _ _ (pl_ne hF14 hFo rfl)]; exact hF14
        have hFqm15_20 : F20 (qm 15) = cI (cy 1) 6 Xx.2 := by rw [eF20, va_up_ne _ _ (pl_ne hF15 hFo rfl)]; exact hF15
        refine lv_iload_n hx hb dX9_put_5 rfl (lv_at hl 1 rfl) ?_
        refine vp_callSi (W.runS (As := [.int (nI j_rk)]) (rest := []) ⟨hx, hb, hml, hown, hts⟩ (c9_isRack l (nI j_rk)) (va_cwS 1 hts gX9_put_X9_isRack rfl rfl rfl (by decide +kernel) ⟨Nat.le_of_ble_eq_true rfl, Nat.le_of_ble_eq_true rfl⟩) (preS_of okT (trivial)) rfl rfl hl.1 rfl (lv_room (Nat.le_of_ble_eq_true rfl)) dX9_put_6 ⟨Nat.le_of_ble_eq_true rfl, Nat.le_of_ble_eq_true rfl⟩) (fun r21 hr21 => ?_)
        rw [isx1 hi_rk] at hr21
        subst hr21
        refine lv_if_eq (tgt := 25) hx hb dX9_put_9 (by decide) (fun c22 => absurd c22 (by decide)) (fun c22 => ?_)
        refine lv_iload_n hx hb dX9_put_12 rfl (lv_at hl 3 rfl) ?_
        refine lv_iconst (v := -1) hx hb dX9_put_13 (by decide) ?_
        refine lv_icmp_eq (tgt := 29) hx hb dX9_put_14 (by decide) (fun c23 => ?_) (fun c23 => absurd (by decide) c23)
        refine lv_aload_n hx hb dX9_put_29 rfl (lv_at hl 0 rfl) ?_
        refine lv_aload_n hx hb dX9_put_30 rfl (lv_at hl 0 rfl) ?_
        refine lv_iload_n hx hb dX9_put_31 rfl (lv_at hl 1 rfl) ?_
        refine lv_iload_n hx hb dX9_put_32 rfl (lv_at hl 2 rfl) ?_
        refine vp_callSi (W.runV (As := [.int (nI j_rk), .int i]) (rest := [.ref o]) ⟨hx, hb, hml, hown, hts⟩ (c9_rackCause l G cy L F20 o qm 0 Pp.1 Xx.1 oc hmo hFo_20 Kr.1 hm10 hFqm10_20 j_rk hj_rk i ((hVK j_rk hj_rk).2.1)) (cwV 2 hts gX9_put_X9_rackCause rfl rfl rfl (by decide +kernel) ⟨Nat.le_of_ble_eq_true rfl, Nat.le_of_ble_eq_true rfl⟩) (preV_of okP (⟨hP, hK, hD.top⟩) (pl_recv hK hP (ci := 8) rfl hmo hFo_20)) rfl rfl hl.1 rfl (lv_room (Nat.le_of_ble_eq_true rfl)) dX9_put_33 ⟨Nat.le_of_ble_eq_true rfl, Nat.le_of_ble_eq_true rfl⟩) (fun r24 hr24 => ?_)
        rw [hp_i] at hr24
        have hzr24 : r24 = 2 := hr24
        clear hr24
        subst hzr24
        refine pg_put (ci := 8) (v := .int 2) (ty := .int) (C := RX9) (T := TX9) (N := 20) hx hb hts hinX9 tyX9 tyX9_ok nmX9 hown hK hP hD hS hmo hFo_20 rfl 17 (by decide) (hts (.fieldLink RX9 65 "RopeDrumsModel" "failed" "I") (by decide +kernel)) (fun _ h9 => h9) rfl (by decide +kernel) (rfl) (rfl) (Nat.le_of_ble_eq_true rfl) dX9_put_36 (fun H locs F25 eF25 hP hS => ?_)
        have eF25 : F25 = va_up F20 o (.inr (8, [.int 0, .ref (qm 0), .ref (qm 1), .ref (qm 2), .ref (qm 3), .ref (qm 4), .ref (qm 5), .ref (qm 6), .ref (qm 7), .int Pp.1, .ref (qm 8), .ref (qm 9), .ref (qm 10), .ref (qm 11), .ref (qm 12), .ref (qm 13), .ref (qm 14), .int 2, .ref (qm 15), .long oc])) := eF25
        have hFo_25 : F25 o = .inr (8, [.int 0, .ref (qm 0), .ref (qm 1), .ref (qm 2), .ref (qm 3), .ref (qm 4), .ref (qm 5), .ref (qm 6), .ref (qm 7), .int Pp.1, .ref (qm 8), .ref (qm 9), .ref (qm 10), .ref (qm 11), .ref (qm 12), .ref (qm 13), .ref (qm 14), .int 2, .ref (qm 15), .long oc]) := by rw [eF25]; exact va_up_self _ _ _
        have hFqm0_25 : F25 (qm 0) = cI (cy 1) 10 Mm.1 := by rw [eF25, va_up_ne _ _ (pl_ne hFqm0_20 hFo_20 rfl)]; exact hFqm0_20
        have hFqm1_25 : F25 (qm 1) = cJ (cy 2) 10 Mm.2 := by rw [eF25, va_up_ne _ _ (pl_ne hFqm1_20 hFo_20 rfl)]; exact hFqm1_20
        have hFqm2_25 : F25 (qm 2) = cD (cy 0) 6 Dd.1 := by rw [eF25, va_up_ne _ _ (pl_ne hFqm2_20 hFo_20 rfl)]; exact hFqm2_20
        have hFqm3_25 : F25 (qm 3) = cD (cy 0) 6 Dd.2.1 := by rw [eF25, va_up_ne _ _ (pl_ne hFqm3_20 hFo_20 rfl)]; exact hFqm3_20
        have hFqm4_25 : F25 (qm 4) = cD (cy 0) 6 Dd.2.2.1 := by rw [eF25, va_up_ne _ _ (pl_ne hFqm4_20 hFo_20 rfl)]; exact hFqm4_20
        have hFqm5_25 : F25 (qm 5) = cJ (cy 2) 6 Dd.2.2.2 := by rw [eF25, va_up_ne _ _ (pl_ne hFqm5_20 hFo_20 rfl)]; exact hFqm5_20
        have hFqm6_25 : F25 (qm 6) = cI (cy 1) 8 Sl.1 := by rw [eF25, va_up_ne _ _ (pl_ne hFqm6_20 hFo_20 rfl)]; exact hFqm6_20
        have hFqm7_25 : F25 (qm 7) = cJ (cy 2) 128 Sl.2 := by rw [eF25, va_up_ne _ _ (pl_ne hFqm7_20 hFo_20 rfl)]; exact hFqm7_20
        have hFqm8_25 : F25 (qm 8) = cI (cy 1) 30 Pp.2.1 := by rw [eF25, va_up_ne _ _ (pl_ne hFqm8_20 hFo_20 rfl)]; exact hFqm8_20
        have hFqm9_25 : F25 (qm 9) = cI (cy 3) 30 Pp.2.2 := by rw [eF25, va_up_ne _ _ (pl_ne hFqm9_20 hFo_20 rfl)]; exact hFqm9_20
        have hFqm10_25 : F25 (qm 10) = cI (cy 1) 5 Kr.1 := by rw [eF25, va_up_ne _ _ (pl_ne hFqm10_20 hFo_20 rfl)]; exact hFqm10_20
        have hFqm11_25 : F25 (qm 11) = cI (cy 3) 5 Kr.2.1 := by rw [eF25, va_up_ne _ _ (pl_ne hFqm11_20 hFo_20 rfl)]; exact hFqm11_20
        have hFqm12_25 : F25 (qm 12) = cI (cy 1) 60 Kr.2.2 := by rw [eF25, va_up_ne _ _ (pl_ne hFqm12_20 hFo_20 rfl)]; exact hFqm12_20
        have hFqm13_25 : F25 (qm 13) = cI (cy 1) 4 Bk.1 := by rw [eF25, va_up_ne _ _ (pl_ne hFqm13_20 hFo_20 rfl)]; exact hFqm13_20
        have hFqm14_25 : F25 (qm 14) = cD (cy 0) 4 Bk.2 := by rw [eF25, va_up_ne _ _ (pl_ne hFqm14_20 hFo_20 rfl)]; exact hFqm14_20
        have hFqm15_25 : F25 (qm 15) = cI (cy 1) 6 Xx.2 := by rw [eF25, va_up_ne _ _ (pl_ne hFqm15_20 hFo_20 rfl)]; exact hFqm15_20
        refine lv_aload_n hx hb dX9_put_39 rfl (lv_at hl 0 rfl) ?_
        refine pg_get (ci := 8) (C := RX9) (T := TX9) (N := 20) hx hb hts hinX9 hown hK hP hmo hFo_25 rfl 17 (by decide) (hts (.fieldLink RX9 65 "RopeDrumsModel" "failed" "I") (by decide +kernel)) (fun _ h9 => h9) rfl dX9_put_40 ?_
        refine lv_if_ne (tgt := 74) hx hb dX9_put_43 (by decide) (fun c26 => ?_) (fun c26 => absurd c26 (by decide))
        refine lv_aload_n hx hb dX9_put_74 rfl (lv_at hl 0 rfl) ?_
        refine pg_get (ci := 8) (C := RX9) (T := TX9) (N := 20) hx hb hts hinX9 hown hK hP hmo hFo_25 rfl 17 (by decide) (hts (.fieldLink RX9 65 "RopeDrumsModel" "failed" "I") (by decide +kernel)) (fun _ h9 => h9) rfl dX9_put_75 ?_
        refine lv_if_ne (tgt := 93) hx hb dX9_put_78 (by decide) (fun c27 => ?_) (fun c27 => absurd c27 (by decide))
        refine lv_aload_n hx hb dX9_put_93 rfl (lv_at hl 0 rfl) ?_
        refine lv_iconst (v := 1) hx hb dX9_put_94 (by decide) ?_
        refine va_calli (va_runV (As := [.int 1]) (rest := []) ⟨hx, hb, hml, hown, hts⟩ (c9_answers_2 l G cy L F25 H.size o qm 0 Pp.1 oc hmo hFo_25 Xx.2 hm15 hFqm15_25 1) (cwV 1 hts gX9_put_X9_answers rfl rfl rfl (by decide +kernel) ⟨Nat.le_of_ble_eq_true rfl, Nat.le_of_ble_eq_true rfl⟩) (preV_of okQ (⟨rfl, hP, hK, hD.top⟩) (pl_recv hK hP (ci := 8) rfl hmo hFo_25)) rfl rfl hl.1 rfl (lv_room (Nat.le_of_ble_eq_true rfl)) dX9_put_95 ⟨Nat.le_of_ble_eq_true rfl, Nat.le_of_ble_eq_true rfl⟩) hS (fun q _ h => pl_free hD hS hA q h) (pl_free hD hS hA) (fun r29 F28 t H1 locs ht hvm hw hP1 hz1 hk1 hS => ?_)
        have hP1 : va_P G vwCl (va_pl L F28) t.heap := hP1
        rw [ht] at hP1
        have hP := hP1
        generalize H1 = H at hP hS ⊢
        obtain ⟨hqr29, eF28⟩ := hw
        have eF28 : F28 = va_up F25 (qm 15) (cI (cy 1) 6 (upd Xx.2 2 (Xx.2 2 + 1))) := eF28
        have hFo_29 : F28 o = .inr (8, [.int 0, .ref (qm 0), .ref (qm 1), .ref (qm 2), .ref (qm 3), .ref (qm 4), .ref (qm 5), .ref (qm 6), .ref (qm 7), .int Pp.1, .ref (qm 8), .ref (qm 9), .ref (qm 10), .ref (qm 11), .ref (qm 12), .ref (qm 13), .ref (qm 14), .int 2, .ref (qm 15), .long oc]) := by rw [eF28, va_up_ne _ _ (pl_ne hFo_25 hFqm15_25 rfl)]; exact hFo_25
        have hFqm0_29 : F28 (qm 0) = cI (cy 1) 10 Mm.1 := by rw [eF28, va_up_ne _ _ (pl_ne hFqm0_25 hFqm15_25 rfl)]; exact hFqm0_25
        have hFqm1_29 : F28 (qm 1) = cJ (cy 2) 10 Mm.2 := by rw [eF28, va_up_ne _ _ (pl_ne hFqm1_25 hFqm15_25 rfl)]; exact hFqm1_25
        have hFqm2_29 : F28 (qm 2) = cD (cy 0) 6 Dd.1 := by rw [eF28, va_up_ne _ _ (pl_ne hFqm2_25 hFqm15_25 rfl)]; exact hFqm2_25
        have hFqm3_29 : F28 (qm 3) = cD (cy 0) 6 Dd.2.1 := by rw [eF28, va_up_ne _ _ (pl_ne hFqm3_25 hFqm15_25 rfl)]; exact hFqm3_25
        have hFqm4_29 : F28 (qm 4) = cD (cy 0) 6 Dd.2.2.1 := by rw [eF28, va_up_ne _ _ (pl_ne hFqm4_25 hFqm15_25 rfl)]; exact hFqm4_25
        have hFqm5_29 : F28 (qm 5) = cJ (cy 2) 6 Dd.2.2.2 := by rw [eF28, va_up_ne _ _ (pl_ne hFqm5_25 hFqm15_25 rfl)]; exact hFqm5_25
        have hFqm6_29 : F28 (qm 6) = cI (cy 1) 8 Sl.1 := by rw [eF28, va_up_ne _ _ (pl_ne hFqm6_25 hFqm15_25 rfl)]; exact hFqm6_25
        have hFqm7_29 : F28 (qm 7) = cJ (cy 2) 128 Sl.2 := by rw [eF28, va_up_ne _ _ (pl_ne hFqm7_25 hFqm15_25 rfl)]; exact hFqm7_25
        have hFqm8_29 : F28 (qm 8) = cI (cy 1) 30 Pp.2.1 := by rw [eF28, va_up_ne _ _ (pl_ne hFqm8_25 hFqm15_25 rfl)]; exact hFqm8_25
        have hFqm9_29 : F28 (qm 9) = cI (cy 3) 30 Pp.2.2 := by rw [eF28, va_up_ne _ _ (pl_ne hFqm9_25 hFqm15_25 rfl)]; exact hFqm9_25
        have hFqm10_29 : F28 (qm 10) = cI (cy 1) 5 Kr.1 := by rw [eF28, va_up_ne _ _ (pl_ne hFqm10_25 hFqm15_25 rfl)]; exact hFqm10_25
        have hFqm11_29 : F28 (qm 11) = cI (cy 3) 5 Kr.2.1 := by rw [eF28, va_up_ne _ _ (pl_ne hFqm11_25 hFqm15_25 rfl)]; exact hFqm11_25
        have hFqm12_29 : F28 (qm 12) = cI (cy 1) 60 Kr.2.2 := by rw [eF28, va_up_ne _ _ (pl_ne hFqm12_25 hFqm15_25 rfl)]; exact hFqm12_25
        have hFqm13_29 : F28 (qm 13) = cI (cy 1) 4 Bk.1 := by rw [eF28, va_up_ne _ _ (pl_ne hFqm13_25 hFqm15_25 rfl)]; exact hFqm13_25
        have hFqm14_29 : F28 (qm 14) = cD (cy 0) 4 Bk.2 := by rw [eF28, va_up_ne _ _ (pl_ne hFqm14_25 hFqm15_25 rfl)]; exact hFqm14_25
        have hFqm15_29 : F28 (qm 15) = cI (cy 1) 6 (upd Xx.2 2 (Xx.2 2 + 1)) := by rw [eF28]; exact va_up_self _ _ _
        have hr29 := hqr29
        exact W.iret (v := r29) hx hb hr (fun t ht hW => ⟨⟨r29, F28, rfl, (by subst hr29; have hsp : sp_put Pp Kr Xx (nI j_rk) i (-1) = (-10 - 2, Kr, failX Xx 2) := (by unfold sp_put; rw [hi_rk]; exact (if_pos (Or.inl rfl)).trans ((if_neg hp0_i).trans (by rw [hp_i]; rfl))); rw [hsp]; exact ⟨rfl, (by exact ⟨⟨_, _, hmo, hFo_29⟩, ⟨hm0, hFqm0_29⟩, ⟨hm1, hFqm1_29⟩, ⟨hm2, hFqm2_29⟩, ⟨hm3, hFqm3_29⟩, ⟨hm4, hFqm4_29⟩, ⟨hm5, hFqm5_29⟩, ⟨hm6, hFqm6_29⟩, ⟨hm7, hFqm7_29⟩, ⟨hm8, hFqm8_29⟩, ⟨hm9, hFqm9_29⟩, ⟨hm10, hFqm10_29⟩, ⟨hm11, hFqm11_29⟩, ⟨hm12, hFqm12_29⟩, ⟨hm13, hFqm13_29⟩, ⟨hm14, hFqm14_29⟩, ⟨hm15, hFqm15_29⟩, hne⟩)⟩), (by show va_P _ _ _ t.heap; rw [ht]; exact hP)⟩, hS.F ht⟩) hS.2.2 dX9_put_98
      · subst ei_i
        refine lv_aload_n hx hb dX9_put_0 rfl (lv_at hl 0 rfl) ?_
        refine lv_iconst (v := 0) hx hb dX9_put_1 (by decide) ?_
        refine pg_put (ci := 8) (v := .int 0) (ty := .int) (C := RX9) (T := TX9) (N := 20) hx hb hts hinX9 tyX9 tyX9_ok nmX9 hown hK hP hD hS hmo hFo rfl 0 (by decide) (hts (.fieldLink RX9 61 "RopeDrumsModel" "thrown" "I") (by decide +kernel)) (fun _ h9 => h9) rfl (by decide +kernel) (rfl) (rfl) (Nat.le_of_ble_eq_true rfl) dX9_put_2 (fun H locs F30 eF30 hP hS => ?_)
        have eF30 : F30 = va_up F o (.inr (8, [.int 0, .ref (qm 0), .ref (qm 1), .ref (qm 2), .ref (qm 3), .ref (qm 4), .ref (qm 5), .ref (qm 6), .ref (qm 7), .int Pp.1, .ref (qm 8), .ref (qm 9), .ref (qm 10), .ref (qm 11), .ref (qm 12), .ref (qm 13), .ref (qm 14), .int Xx.1, .ref (qm 15), .long oc])) := eF30
        have hFo_30 : F30 o = .inr (8, [.int 0, .ref (qm 0), .ref (qm 1), .ref (qm 2), .ref (qm 3), .ref (qm 4), .ref (qm 5), .ref (qm 6), .ref (qm 7), .int Pp.1, .ref (qm 8), .ref (qm 9), .ref (qm 10), .ref (qm 11), .ref (qm 12), .ref (qm 13), .ref (qm 14), .int Xx.1, .ref (qm 15), .long oc]) := by rw [eF30]; exact va_up_self _ _ _
        have hFqm0_30 : F30 (qm 0) = cI (cy 1) 10 Mm.1 := by rw [eF30, va_up_ne _ _ (pl_ne hF0 hFo rfl)]; exact hF0
        have hFqm1_30 : F30 (qm 1) = cJ (cy 2) 10 Mm.2 := by rw [eF30, va_up_ne _ _ (pl_ne hF1 hFo rfl)]; exact hF1
        have hFqm2_30 : F30 (qm 2) = cD (cy 0) 6 Dd.1 := by rw [eF30, va_up_ne _ _ (pl_ne hF2 hFo rfl)]; exact hF2
        have hFqm3_30 : F30 (qm 3) = cD (cy 0) 6 Dd.2.1 := by rw [eF30, va_up_ne _ _ (pl_ne hF3 hFo rfl)]; exact hF3
        have hFqm4_30 : F30 (qm 4) = cD (cy 0) 6 Dd.2.2.1 := by rw [eF30, va_up_ne _ _ (pl_ne hF4 hFo rfl)]; exact hF4
        have hFqm5_30 : F30 (qm 5) = cJ (cy 2) 6 Dd.2.2.2 := by rw [eF30, va_up_ne _ _ (pl_ne hF5 hFo rfl)]; exact hF5
        have hFqm6_30 : F30 (qm 6) = cI (cy 1) 8 Sl.1 := by rw [eF30, va_up_ne _ _ (pl_ne hF6 hFo rfl)]; exact hF6
        have hFqm7_30 : F30 (qm 7) = cJ (cy 2) 128 Sl.2 := by rw [eF30, va_up_ne _ _ (pl_ne hF7 hFo rfl)]; exact hF7
        have hFqm8_30 : F30 (qm 8) = cI (cy 1) 30 Pp.2.1 := by rw [eF30, va_up_ne _ _ (pl_ne hF8 hFo rfl)]; exact hF8
        have hFqm9_30 : F30 (qm 9) = cI (cy 3) 30 Pp.2.2 := by rw [eF30, va_up_ne _ _ (pl_ne hF9 hFo rfl)]; exact hF9
        have hFqm10_30 : F30 (qm 10) = cI (cy 1) 5 Kr.1 := by rw [eF30, va_up_ne _ _ (pl_ne hF10 hFo rfl)]; exact hF10
        have hFqm11_30 : F30 (qm 11) = cI (cy 3) 5 Kr.2.1 := by rw [eF30, va_up_ne _ _ (pl_ne hF11 hFo rfl)]; exact hF11
        have hFqm12_30 : F30 (qm 12) = cI (cy 1) 60 Kr.2.2 := by rw [eF30, va_up_ne _ _ (pl_ne hF12 hFo rfl)]; exact hF12
        have hFqm13_30 : F30 (qm 13) = cI (cy 1) 4 Bk.1 := by rw [eF30, va_up_ne _ _ (pl_ne hF13 hFo rfl)]; exact hF13
        have hFqm14_30 : F30 (qm 14) = cD (cy 0) 4 Bk.2 := by rw [eF30, va_up_ne _ _ (pl_ne hF14 hFo rfl)]; exact hF14
        have hFqm15_30 : F30 (qm 15) = cI (cy 1) 6 Xx.2 := by rw [eF30, va_up_ne _ _ (pl_ne hF15 hFo rfl)]; exact hF15
        refine lv_iload_n hx hb dX9_put_5 rfl (lv_at hl 1 rfl) ?_
        refine vp_callSi (W.runS (As := [.int (nI j_rk)]) (rest := []) ⟨hx, hb, hml, hown, hts⟩ (c9_isRack l (nI j_rk)) (va_cwS 1 hts gX9_put_X9_isRack rfl rfl rfl (by decide +kernel) ⟨Nat.le_of_ble_eq_true rfl, Nat.le_of_ble_eq_true rfl⟩) (preS_of okT (trivial)) rfl rfl hl.1 rfl (lv_room (Nat.le_of_ble_eq_true rfl)) dX9_put_6 ⟨Nat.le_of_ble_eq_true rfl, Nat.le_of_ble_eq_true rfl⟩) (fun r31 hr31 => ?_)
        rw [isx1 hi_rk] at hr31
        subst hr31
        refine lv_if_eq (tgt := 25) hx hb dX9_put_9 (by decide) (fun c32 => absurd c32 (by decide)) (fun c32 => ?_)
        refine lv_iload_n hx hb dX9_put_12 rfl (lv_at hl 3 rfl) ?_
        refine lv_iconst (v := -1) hx hb dX9_put_13 (by decide) ?_
        refine lv_icmp_eq (tgt := 29) hx hb dX9_put_14 (by decide) (fun c33 => ?_) (fun c33 => absurd (by decide) c33)
        refine lv_aload_n hx hb dX9_put_29 rfl (lv_at hl 0 rfl) ?_
        refine lv_aload_n hx hb dX9_put_30 rfl (lv_at hl 0 rfl) ?_
        refine lv_iload_n hx hb dX9_put_31 rfl (lv_at hl 1 rfl) ?_
        refine lv_iload_n hx hb dX9_put_32 rfl (lv_at hl 2 rfl) ?_
        refine vp_callSi (W.runV (As := [.int (nI j_rk), .int (nI q_i)]) (rest := [.ref o]) ⟨hx, hb, hml, hown, hts⟩ (c9_rackCause l G cy L F30 o qm 0 Pp.1 Xx.1 oc hmo hFo_30 Kr.1 hm10 hFqm10_30 j_rk hj_rk (nI q_i) ((hVK j_rk hj_rk).2.1)) (cwV 2 hts gX9_put_X9_rackCause rfl rfl rfl (by decide +kernel) ⟨Nat.le_of_ble_eq_true rfl, Nat.le_of_ble_eq_true rfl⟩) (preV_of okP (⟨hP, hK, hD.top⟩) (pl_recv hK hP (ci := 8) rfl hmo hFo_30)) rfl rfl hl.1 rfl (lv_room (Nat.le_of_ble_eq_true rfl)) dX9_put_33 ⟨Nat.le_of_ble_eq_true rfl, Nat.le_of_ble_eq_true rfl⟩) (fun r34 hr34 => ?_)
        rw [hp_i] at hr34
        have hzr34 : r34 = 0 := hr34
        clear hr34
        subst hzr34
        refine pg_put (ci := 8) (v := .int 0) (ty := .int) (C := RX9) (T := TX9) (N := 20) hx hb hts hinX9 tyX9 tyX9_ok nmX9 hown hK hP hD hS hmo hFo_30 rfl 17 (by decide) (hts (.fieldLink RX9 65 "RopeDrumsModel" "failed" "I") (by decide +kernel)) (fun _ h9 => h9) rfl (by decide +kernel) (rfl) (rfl) (Nat.le_of_ble_eq_true rfl) dX9_put_36 (fun H locs F35 eF35 hP hS => ?_)
        have eF35 : F35 = va_up F30 o (.inr (8, [.int 0, .ref (qm 0), .ref (qm 1), .ref (qm 2), .ref (qm 3), .ref (qm 4), .ref (qm 5), .ref (qm 6), .ref (qm 7), .int Pp.1, .ref (qm 8), .ref (qm 9), .ref (qm 10), .ref (qm 11), .ref (qm 12), .ref (qm 13), .ref (qm 14), .int 0, .ref (qm 15), .long oc])) := eF35
        have hFo_35 : F35 o = .inr (8, [.int 0, .ref (qm 0), .ref (qm 1), .ref (qm 2), .ref (qm 3), .ref (qm 4), .ref (qm 5), .ref (qm 6), .ref (qm 7), .int Pp.1, .ref (qm 8), .ref (qm 9), .ref (qm 10), .ref (qm 11), .ref (qm 12), .ref (qm 13), .ref (qm 14), .int 0, .ref (qm 15), .long oc]) := by rw [eF35]; exact va_up_self _ _ _
        have hFqm0_35 : F35 (qm 0) = cI (cy 1) 10 Mm.1 := by rw [eF35, va_up_ne _ _ (pl_ne hFqm0_30 hFo_30 rfl)]; exact hFqm0_30
        have hFqm1_35 : F35 (qm 1) = cJ (cy 2) 10 Mm.2 := by rw [eF35, va_up_ne _ _ (pl_ne hFqm1_30 hFo_30 rfl)]; exact hFqm1_30
        have hFqm2_35 : F35 (qm 2) = cD (cy 0) 6 Dd.1 := by rw [eF35, va_up_ne _ _ (pl_ne hFqm2_30 hFo_30 rfl)]; exact hFqm2_30
        have hFqm3_35 : F35 (qm 3) = cD (cy 0) 6 Dd.2.1 := by rw [eF35, va_up_ne _ _ (pl_ne hFqm3_30 hFo_30 rfl)]; exact hFqm3_30
        have hFqm4_35 : F35 (qm 4) = cD (cy 0) 6 Dd.2.2.1 := by rw [eF35, va_up_ne _ _ (pl_ne hFqm4_30 hFo_30 rfl)]; exact hFqm4_30
        have hFqm5_35 : F35 (qm 5) = cJ (cy 2) 6 Dd.2.2.2 := by rw [eF35, va_up_ne _ _ (pl_ne hFqm5_30 hFo_30 rfl)]; exact hFqm5_30
        have hFqm6_35 : F35 (qm 6) = cI (cy 1) 8 Sl.1 := by rw [eF35, va_up_ne _ _ (pl_ne hFqm6_30 hFo_30 rfl)]; exact hFqm6_30
        have hFqm7_35 : F35 (qm 7) = cJ (cy 2) 128 Sl.2 := by rw [eF35, va_up_ne _ _ (pl_ne hFqm7_30 hFo_30 rfl)]; exact hFqm7_30
        have hFqm8_35 : F35 (qm 8) = cI (cy 1) 30 Pp.2.1 := by rw [eF35, va_up_ne _ _ (pl_ne hFqm8_30 hFo_30 rfl)]; exact hFqm8_30
        have hFqm9_35 : F35 (qm 9) = cI (cy 3) 30 Pp.2.2 := by rw [eF35, va_up_ne _ _ (pl_ne hFqm9_30 hFo_30 rfl)]; exact hFqm9_30
        have hFqm10_35 : F35 (qm 10) = cI (cy 1) 5 Kr.1 := by rw [eF35, va_up_ne _ _ (pl_ne hFqm10_30 hFo_30 rfl)]; exact hFqm10_30
        have hFqm11_35 : F35 (qm 11) = cI (cy 3) 5 Kr.2.1 := by rw [eF35, va_up_ne _ _ (pl_ne hFqm11_30 hFo_30 rfl)]; exact hFqm11_30
        have hFqm12_35 : F35 (qm 12) = cI (cy 1) 60 Kr.2.2 := by rw [eF35, va_up_ne _ _ (pl_ne hFqm12_30 hFo_30 rfl)]; exact hFqm12_30
        have hFqm13_35 : F35 (qm 13) = cI (cy 1) 4 Bk.1 := by rw [eF35, va_up_ne _ _ (pl_ne hFqm13_30 hFo_30 rfl)]; exact hFqm13_30
        have hFqm14_35 : F35 (qm 14) = cD (cy 0) 4 Bk.2 := by rw [eF35, va_up_ne _ _ (pl_ne hFqm14_30 hFo_30 rfl)]; exact hFqm14_30
        have hFqm15_35 : F35 (qm 15) = cI (cy 1) 6 Xx.2 := by rw [eF35, va_up_ne _ _ (pl_ne hFqm15_30 hFo_30 rfl)]; exact hFqm15_30
        refine lv_aload_n hx hb dX9_put_39 rfl (lv_at hl 0 rfl) ?_
        refine pg_get (ci := 8) (C := RX9) (T := TX9) (N := 20) hx hb hts hinX9 hown hK hP hmo hFo_35 rfl 17 (by decide) (hts (.fieldLink RX9 65 "RopeDrumsModel" "failed" "I") (by decide +kernel)) (fun _ h9 => h9) rfl dX9_put_40 ?_
        refine lv_if_ne (tgt := 74) hx hb dX9_put_43 (by decide) (fun c36 => absurd (by decide) c36) (fun c36 => ?_)
        refine lv_iload_n hx hb dX9_put_46 rfl (lv_at hl 3 rfl) ?_
        refine lv_iconst (v := -1) hx hb dX9_put_47 (by decide) ?_
        refine lv_icmp_eq (tgt := 74) hx hb dX9_put_48 (by decide) (fun c37 => ?_) (fun c37 => absurd (by decide) c37)
        refine lv_aload_n hx hb dX9_put_74 rfl (lv_at hl 0 rfl) ?_
        refine pg_get (ci := 8) (C := RX9) (T := TX9) (N := 20) hx hb hts hinX9 hown hK hP hmo hFo_35 rfl 17 (by decide) (hts (.fieldLink RX9 65 "RopeDrumsModel" "failed" "I") (by decide +kernel)) (fun _ h9 => h9) rfl dX9_put_75 ?_
        refine lv_if_ne (tgt := 93) hx hb dX9_put_78 (by decide) (fun c38 => absurd (by decide) c38) (fun c38 => ?_)
        refine lv_aload_n hx hb dX9_put_81 rfl (lv_at hl 0 rfl) ?_
        refine pg_get (ci := 8) (C := RX9) (T := TX9) (N := 20) hx hb hts hinX9 hown hK hP hmo hFo_35 rfl 14 (by decide) (hts (.fieldLink RX9 49 "RopeDrumsModel" "standing" "[I") (by decide +kernel)) (fun _ h9 => h9) rfl dX9_put_82 ?_
        refine lv_bipush (v := 12) hx hb dX9_put_85 (by decide) ?_
        refine lv_iload_n hx hb dX9_put_87 rfl (lv_at hl 1 rfl) ?_
        refine lv_imul hx hb dX9_put_88 ?_
        refine lv_topi (fun v39 ev39 => ?_)
        refine lv_iload_n hx hb dX9_put_89 rfl (lv_at hl 2 rfl) ?_
        refine lv_iadd hx hb dX9_put_90 ?_
        refine lv_topi (fun v40 ev40 => ?_)
        rw [ev39, nI12] at ev40
        subst ev40
        refine lv_iload_n hx hb dX9_put_91 rfl (lv_at hl 3 rfl) ?_
        refine pg_iast hx hb hK hP hD hS 1 hm12 hFqm12_35 rfl (vp_in_nI (by omega) (by decide)) dX9_put_92 (fun H locs F41 eF41 hP hS => ?_)
        rw [nI_clamp (by omega)] at eF41
        have hFo_41 : F41 o = .inr (8, [.int 0, .ref (qm 0), .ref (qm 1), .ref (qm 2), .ref (qm 3), .ref (qm 4), .ref (qm 5), .ref (qm 6), .ref (qm 7), .int Pp.1, .ref (qm 8), .ref (qm 9), .ref (qm 10), .ref (qm 11), .ref (qm 12), .ref (qm 13), .ref (qm 14), .int 0, .ref (qm 15), .long oc]) := by rw [eF41, va_up_ne _ _ (pl_ne hFo_35 hFqm12_35 rfl)]; exact hFo_35
        have hFqm0_41 : F41 (qm 0) = cI (cy 1) 10 Mm.1 := by rw [eF41, va_up_ne _ _ (pl_ne hFqm0_35 hFqm12_35 rfl)]; exact hFqm0_35
        have hFqm1_41 : F41 (qm 1) = cJ (cy 2) 10 Mm.2 := by rw [eF41, va_up_ne _ _ (pl_ne hFqm1_35 hFqm12_35 rfl)]; exact hFqm1_35
        have hFqm2_41 : F41 (qm 2) = cD (cy 0) 6 Dd.1 := by rw [eF41, va_up_ne _ _ (pl_ne hFqm2_35 hFqm12_35 rfl)]; exact hFqm2_35
        have hFqm3_41 : F41 (qm 3) = cD (cy 0) 6 Dd.2.1 := by rw [eF41, va_up_ne _ _ (pl_ne hFqm3_35 hFqm12_35 rfl)]; exact hFqm3_35
        have hFqm4_41 : F41 (qm 4) = cD (cy 0) 6 Dd.2.2.1 := by rw [eF41, va_up_ne _ _ (pl_ne hFqm4_35 hFqm12_35 rfl)]; exact hFqm4_35
        have hFqm5_41 : F41 (qm 5) = cJ (cy 2) 6 Dd.2.2.2 := by rw [eF41, va_up_ne _ _ (pl_ne hFqm5_35 hFqm12_35 rfl)]; exact hFqm5_35
        have hFqm6_41 : F41 (qm 6) = cI (cy 1) 8 Sl.1 := by rw [eF41, va_up_ne _ _ (pl_ne hFqm6_35 hFqm12_35 rfl)]; exact hFqm6_35
        have hFqm7_41 : F41 (qm 7) = cJ (cy 2) 128 Sl.2 := by rw [eF41, va_up_ne _ _ (pl_ne hFqm7_35 hFqm12_35 rfl)]; exact hFqm7_35
        have hFqm8_41 : F41 (qm 8) = cI (cy 1) 30 Pp.2.1 := by rw [eF41, va_up_ne _ _ (pl_ne hFqm8_35 hFqm12_35 rfl)]; exact hFqm8_35
        have hFqm9_41 : F41 (qm 9) = cI (cy 3) 30 Pp.2.2 := by rw [eF41, va_up_ne _ _ (pl_ne hFqm9_35 hFqm12_35 rfl)]; exact hFqm9_35
        have hFqm10_41 : F41 (qm 10) = cI (cy 1) 5 Kr.1 := by rw [eF41, va_up_ne _ _ (pl_ne hFqm10_35 hFqm12_35 rfl)]; exact hFqm10_35
        have hFqm11_41 : F41 (qm 11) = cI (cy 3) 5 Kr.2.1 := by rw [eF41, va_up_ne _ _ (pl_ne hFqm11_35 hFqm12_35 rfl)]; exact hFqm11_35
        have hFqm12_41 : F41 (qm 12) = cI (cy 1) 60 (upd Kr.2.2 (12 * j_rk + q_i) (-1)) := by rw [eF41]; exact va_up_self _ _ _
        have hFqm13_41 : F41 (qm 13) = cI (cy 1) 4 Bk.1 := by rw [eF41, va_up_ne _ _ (pl_ne hFqm13_35 hFqm12_35 rfl)]; exact hFqm13_35
        have hFqm14_41 : F41 (qm 14) = cD (cy 0) 4 Bk.2 := by rw [eF41, va_up_ne _ _ (pl_ne hFqm14_35 hFqm12_35 rfl)]; exact hFqm14_35
        have hFqm15_41 : F41 (qm 15) = cI (cy 1) 6 Xx.2 := by rw [eF41, va_up_ne _ _ (pl_ne hFqm15_35 hFqm12_35 rfl)]; exact hFqm15_35
        refine lv_aload_n hx hb dX9_put_93 rfl (lv_at hl 0 rfl) ?_
        refine lv_iconst (v := 1) hx hb dX9_put_94 (by decide) ?_
        refine va_calli (va_runV (As := [.int 1]) (rest := []) ⟨hx, hb, hml, hown, hts⟩ (c9_answers_0 l G cy L F41 H.size o qm 0 Pp.1 oc hmo hFo_41 Xx.2 hm15 hFqm15_41 1) (cwV 1 hts gX9_put_X9_answers rfl rfl rfl (by decide +kernel) ⟨Nat.le_of_ble_eq_true rfl, Nat.le_of_ble_eq_true rfl⟩) (preV_of okQ (⟨rfl, hP, hK, hD.top⟩) (pl_recv hK hP (ci := 8) rfl hmo hFo_41)) rfl rfl hl.1 rfl (lv_room (Nat.le_of_ble_eq_true rfl)) dX9_put_95 ⟨Nat.le_of_ble_eq_true rfl, Nat.le_of_ble_eq_true rfl⟩) hS (fun q _ h => pl_free hD hS hA q h) (pl_free hD hS hA) (fun r43 F42 t H1 locs ht hvm hw hP1 hz1 hk1 hS => ?_)
        have hP1 : va_P G vwCl (va_pl L F42) t.heap := hP1
        rw [ht] at hP1
        have hP := hP1
        generalize H1 = H at hP hS ⊢
        obtain ⟨hqr43, eF42⟩ := hw
        have hFo_F42 : F42 o = .inr (8, [.int 0, .ref (qm 0), .ref (qm 1), .ref (qm 2), .ref (qm 3), .ref (qm 4), .ref (qm 5), .ref (qm 6), .ref (qm 7), .int Pp.1, .ref (qm 8), .ref (qm 9), .ref (qm 10), .ref (qm 11), .ref (qm 12), .ref (qm 13), .ref (qm 14), .int 0, .ref (qm 15), .long oc]) := by rw [eF42]; exact hFo_41
        have hFqm0_F42 : F42 (qm 0) = cI (cy 1) 10 Mm.1 := by rw [eF42]; exact hFqm0_41
        have hFqm1_F42 : F42 (qm 1) = cJ (cy 2) 10 Mm.2 := by rw [eF42]; exact hFqm1_41
        have hFqm2_F42 : F42 (qm 2) = cD (cy 0) 6 Dd.1 := by rw [eF42]; exact hFqm2_41
        have hFqm3_F42 : F42 (qm 3) = cD (cy 0) 6 Dd.2.1 := by rw [eF42]; exact hFqm3_41
        have hFqm4_F42 : F42 (qm 4) = cD (cy 0) 6 Dd.2.2.1 := by rw [eF42]; exact hFqm4_41
        have hFqm5_F42 : F42 (qm 5) = cJ (cy 2) 6 Dd.2.2.2 := by rw [eF42]; exact hFqm5_41
        have hFqm6_F42 : F42 (qm 6) = cI (cy 1) 8 Sl.1 := by rw [eF42]; exact hFqm6_41
        have hFqm7_F42 : F42 (qm 7) = cJ (cy 2) 128 Sl.2 := by rw [eF42]; exact hFqm7_41
        have hFqm8_F42 : F42 (qm 8) = cI (cy 1) 30 Pp.2.1 := by rw [eF42]; exact hFqm8_41
        have hFqm9_F42 : F42 (qm 9) = cI (cy 3) 30 Pp.2.2 := by rw [eF42]; exact hFqm9_41
        have hFqm10_F42 : F42 (qm 10) = cI (cy 1) 5 Kr.1 := by rw [eF42]; exact hFqm10_41
        have hFqm11_F42 : F42 (qm 11) = cI (cy 3) 5 Kr.2.1 := by rw [eF42]; exact hFqm11_41
        have hFqm12_F42 : F42 (qm 12) = cI (cy 1) 60 (upd Kr.2.2 (12 * j_rk + q_i) (-1)) := by rw [eF42]; exact hFqm12_41
        have hFqm13_F42 : F42 (qm 13) = cI (cy 1) 4 Bk.1 := by rw [eF42]; exact hFqm13_41
        have hFqm14_F42 : F42 (qm 14) = cD (cy 0) 4 Bk.2 := by rw [eF42]; exact hFqm14_41
        have hFqm15_F42 : F42 (qm 15) = cI (cy 1) 6 Xx.2 := by rw [eF42]; exact hFqm15_41
        have hr43 := hqr43
        exact W.iret (v := r43) hx hb hr (fun t ht hW => ⟨⟨r43, F42, rfl, (by subst hr43 ev39; have hsp : sp_put Pp Kr Xx (nI j_rk) (nI q_i) (-1) = (1, (Kr.1, Kr.2.1, upd Kr.2.2 (12 * j_rk + q_i) (-1)), goodX Xx) := (by unfold sp_put; rw [hi_rk]; exact (if_pos (Or.inl rfl)).trans ((if_pos hp_i).trans ((if_neg (fun q => q.1 rfl)).trans (by rw [nI_tn (q := q_i) (by omega)])))); rw [hsp]; exact ⟨rfl, (by exact ⟨⟨_, _, hmo, hFo_F42⟩, ⟨hm0, hFqm0_F42⟩, ⟨hm1, hFqm1_F42⟩, ⟨hm2, hFqm2_F42⟩, ⟨hm3, hFqm3_F42⟩, ⟨hm4, hFqm4_F42⟩, ⟨hm5, hFqm5_F42⟩, ⟨hm6, hFqm6_F42⟩, ⟨hm7, hFqm7_F42⟩, ⟨hm8, hFqm8_F42⟩, ⟨hm9, hFqm9_F42⟩, ⟨hm10, hFqm10_F42⟩, ⟨hm11, hFqm11_F42⟩, ⟨hm12, hFqm12_F42⟩, ⟨hm13, hFqm13_F42⟩, ⟨hm14, hFqm14_F42⟩, ⟨hm15, hFqm15_F42⟩, hne⟩)⟩), (by show va_P _ _ _ t.heap; rw [ht]; exact hP)⟩, hS.F ht⟩) hS.2.2 dX9_put_98
    · subst hsp
      rcases lackc (i := i) (by decide) ((hVK j_rk hj_rk).2.1) with ⟨hp_i, hk_i⟩ | ⟨hp_i, hk_i⟩ | ⟨q_i, hq_i, hs_i, hp_i, hk_i, ei_i⟩
      · have hp0_i : ¬ pl0 (Kr.1 j_rk) i = 0 := by rw [hp_i]; decide
        refine lv_aload_n hx hb dX9_put_0 rfl (lv_at hl 0 rfl) ?_
        refine lv_iconst (v := 0) hx hb dX9_put_1 (by decide) ?_
        refine pg_put (ci := 8) (v := .int 0) (ty := .int) (C := RX9) (T := TX9) (N := 20) hx hb hts hinX9 tyX9 tyX9_ok nmX9 hown hK hP hD hS hmo hFo rfl 0 (by decide) (hts (.fieldLink RX9 61 "RopeDrumsModel" "thrown" "I") (by decide +kernel)) (fun _ h9 => h9) rfl (by decide +kernel) (rfl) (rfl) (Nat.le_of_ble_eq_true rfl) dX9_put_2 (fun H locs F44 eF44 hP hS => ?_)
        have eF44 : F44 = va_up F o (.inr (8, [.int 0, .ref (qm 0), .ref (qm 1), .ref (qm 2), .ref (qm 3), .ref (qm 4), .ref (qm 5), .ref (qm 6), .ref (qm 7), .int Pp.1, .ref (qm 8), .ref (qm 9), .ref (qm 10), .ref (qm 11), .ref (qm 12), .ref (qm 13), .ref (qm 14), .int Xx.1, .ref (qm 15), .long oc])) := eF44
        have hFo_44 : F44 o = .inr (8, [.int 0, .ref (qm 0), .ref (qm 1), .ref (qm 2), .ref (qm 3), .ref (qm 4), .ref (qm 5), .ref (qm 6), .ref (qm 7), .int Pp.1, .ref (qm 8), .ref (qm 9), .ref (qm 10), .ref (qm 11), .ref (qm 12), .ref (qm 13), .ref (qm 14), .int Xx.1, .ref (qm 15), .long oc]) := by rw [eF44]; exact va_up_self _ _ _
        have hFqm0_44 : F44 (qm 0) = cI (cy 1) 10 Mm.1 := by rw [eF44, va_up_ne _ _ (pl_ne hF0 hFo rfl)]; exact hF0
        have hFqm1_44 : F44 (qm 1) = cJ (cy 2) 10 Mm.2 := by rw [eF44, va_up_ne _ _ (pl_ne hF1 hFo rfl)]; exact hF1
        have hFqm2_44 : F44 (qm 2) = cD (cy 0) 6 Dd.1 := by rw [eF44, va_up_ne _ _ (pl_ne hF2 hFo rfl)]; exact hF2
        have hFqm3_44 : F44 (qm 3) = cD (cy 0) 6 Dd.2.1 := by rw [eF44, va_up_ne _ _ (pl_ne hF3 hFo rfl)]; exact hF3
        have hFqm4_44 : F44 (qm 4) = cD (cy 0) 6 Dd.2.2.1 := by rw [eF44, va_up_ne _ _ (pl_ne hF4 hFo rfl)]; exact hF4
        have hFqm5_44 : F44 (qm 5) = cJ (cy 2) 6 Dd.2.2.2 := by rw [eF44, va_up_ne _ _ (pl_ne hF5 hFo rfl)]; exact hF5
        have hFqm6_44 : F44 (qm 6) = cI (cy 1) 8 Sl.1 := by rw [eF44, va_up_ne _ _ (pl_ne hF6 hFo rfl)]; exact hF6
        have hFqm7_44 : F44 (qm 7) = cJ (cy 2) 128 Sl.2 := by rw [eF44, va_up_ne _ _ (pl_ne hF7 hFo rfl)]; exact hF7
        have hFqm8_44 : F44 (qm 8) = cI (cy 1) 30 Pp.2.1 := by rw [eF44, va_up_ne _ _ (pl_ne hF8 hFo rfl)]; exact hF8
        have hFqm9_44 : F44 (qm 9) = cI (cy 3) 30 Pp.2.2 := by rw [eF44, va_up_ne _ _ (pl_ne hF9 hFo rfl)]; exact hF9
        have hFqm10_44 : F44 (qm 10) = cI (cy 1) 5 Kr.1 := by rw [eF44, va_up_ne _ _ (pl_ne hF10 hFo rfl)]; exact hF10
        have hFqm11_44 : F44 (qm 11) = cI (cy 3) 5 Kr.2.1 := by rw [eF44, va_up_ne _ _ (pl_ne hF11 hFo rfl)]; exact hF11
        have hFqm12_44 : F44 (qm 12) = cI (cy 1) 60 Kr.2.2 := by rw [eF44, va_up_ne _ _ (pl_ne hF12 hFo rfl)]; exact hF12
        have hFqm13_44 : F44 (qm 13) = cI (cy 1) 4 Bk.1 := by rw [eF44, va_up_ne _ _ (pl_ne hF13 hFo rfl)]; exact hF13
        have hFqm14_44 : F44 (qm 14) = cD (cy 0) 4 Bk.2 := by rw [eF44, va_up_ne _ _ (pl_ne hF14 hFo rfl)]; exact hF14
        have hFqm15_44 : F44 (qm 15) = cI (cy 1) 6 Xx.2 := by rw [eF44, va_up_ne _ _ (pl_ne hF15 hFo rfl)]; exact hF15
        refine lv_iload_n hx hb dX9_put_5 rfl (lv_at hl 1 rfl) ?_
        refine vp_callSi (W.runS (As := [.int (nI j_rk)]) (rest := []) ⟨hx, hb, hml, hown, hts⟩ (c9_isRack l (nI j_rk)) (va_cwS 1 hts gX9_put_X9_isRack rfl rfl rfl (by decide +kernel) ⟨Nat.le_of_ble_eq_true rfl, Nat.le_of_ble_eq_true rfl⟩) (preS_of okT (trivial)) rfl rfl hl.1 rfl (lv_room (Nat.le_of_ble_eq_true rfl)) dX9_put_6 ⟨Nat.le_of_ble_eq_true rfl, Nat.le_of_ble_eq_true rfl⟩) (fun r45 hr45 => ?_)
        rw [isx1 hi_rk] at hr45
        subst hr45
        refine lv_if_eq (tgt := 25) hx hb dX9_put_9 (by decide) (fun c46 => absurd c46 (by decide)) (fun c46 => ?_)
        refine lv_iload_n hx hb dX9_put_12 rfl (lv_at hl 3 rfl) ?_
        refine lv_iconst (v := -1) hx hb dX9_put_13 (by decide) ?_
        refine lv_icmp_eq (tgt := 29) hx hb dX9_put_14 (by decide) (fun c47 => absurd c47 (nI_neg (by omega))) (fun c47 => ?_)
        refine lv_aload_n hx hb dX9_put_17 rfl (lv_at hl 0 rfl) ?_
        refine lv_iload_n hx hb dX9_put_18 rfl (lv_at hl 3 rfl) ?_
        refine vp_callSi (W.runV (As := [.int (nI ks)]) (rest := []) ⟨hx, hb, hml, hown, hts⟩ (c9_isSpool l G cy L F44 o qm 0 Pp.1 Xx.1 oc hmo hFo_44 (nI ks) hp30.1) (cwV 1 hts gX9_put_X9_isSpool rfl rfl rfl (by decide +kernel) ⟨Nat.le_of_ble_eq_true rfl, Nat.le_of_ble_eq_true rfl⟩) (preV_of okP (⟨hP, hK, hD.top⟩) (pl_recv hK hP (ci := 8) rfl hmo hFo_44)) rfl rfl hl.1 rfl (lv_room (Nat.le_of_ble_eq_true rfl)) dX9_put_19 ⟨Nat.le_of_ble_eq_true rfl, Nat.le_of_ble_eq_true rfl⟩) (fun r48 hr48 => ?_)
        rw [if_pos (by rw [nI_toInt (by omega)]; omega)] at hr48
        subst hr48
        refine lv_if_ne (tgt := 29) hx hb dX9_put_22 (by decide) (fun c49 => ?_) (fun c49 => absurd c49 (by decide))
        refine lv_aload_n hx hb dX9_put_29 rfl (lv_at hl 0 rfl) ?_
        refine lv_aload_n hx hb dX9_put_30 rfl (lv_at hl 0 rfl) ?_
        refine lv_iload_n hx hb dX9_put_31 rfl (lv_at hl 1 rfl) ?_
        refine lv_iload_n hx hb dX9_put_32 rfl (lv_at hl 2 rfl) ?_
        refine vp_callSi (W.runV (As := [.int (nI j_rk), .int i]) (rest := [.ref o]) ⟨hx, hb, hml, hown, hts⟩ (c9_rackCause l G cy L F44 o qm 0 Pp.1 Xx.1 oc hmo hFo_44 Kr.1 hm10 hFqm10_44 j_rk hj_rk i ((hVK j_rk hj_rk).2.1)) (cwV 2 hts gX9_put_X9_rackCause rfl rfl rfl (by decide +kernel) ⟨Nat.le_of_ble_eq_true rfl, Nat.le_of_ble_eq_true rfl⟩) (preV_of okP (⟨hP, hK, hD.top⟩) (pl_recv hK hP (ci := 8) rfl hmo hFo_44)) rfl rfl hl.1 rfl (lv_room (Nat.le_of_ble_eq_true rfl)) dX9_put_33 ⟨Nat.le_of_ble_eq_true rfl, Nat.le_of_ble_eq_true rfl⟩) (fun r50 hr50 => ?_)
        rw [hp_i] at hr50
        have hzr50 : r50 = 1 := hr50
        clear hr50
        subst hzr50
        refine pg_put (ci := 8) (v := .int 1) (ty := .int) (C := RX9) (T := TX9) (N := 20) hx hb hts hinX9 tyX9 tyX9_ok nmX9 hown hK hP hD hS hmo hFo_44 rfl 17 (by decide) (hts (.fieldLink RX9 65 "RopeDrumsModel" "failed" "I") (by decide +kernel)) (fun _ h9 => h9) rfl (by decide +kernel) (rfl) (rfl) (Nat.le_of_ble_eq_true rfl) dX9_put_36 (fun H locs F51 eF51 hP hS => ?_)
        have eF51 : F51 = va_up F44 o (.inr (8, [.int 0, .ref (qm 0), .ref (qm 1), .ref (qm 2), .ref (qm 3), .ref (qm 4), .ref (qm 5), .ref (qm 6), .ref (qm 7), .int Pp.1, .ref (qm 8), .ref (qm 9), .ref (qm 10), .ref (qm 11), .ref (qm 12), .ref (qm 13), .ref (qm 14), .int 1, .ref (qm 15), .long oc])) := eF51
        have hFo_51 : F51 o = .inr (8, [.int 0, .ref (qm 0), .ref (qm 1), .ref (qm 2), .ref (qm 3), .ref (qm 4), .ref (qm 5), .ref (qm 6), .ref (qm 7), .int Pp.1, .ref (qm 8), .ref (qm 9), .ref (qm 10), .ref (qm 11), .ref (qm 12), .ref (qm 13), .ref (qm 14), .int 1, .ref (qm 15), .long oc]) := by rw [eF51]; exact va_up_self _ _ _
        have hFqm0_51 : F51 (qm 0) = cI (cy 1) 10 Mm.1 := by rw [eF51, va_up_ne _ _ (pl_ne hFqm0_44 hFo_44 rfl)]; exact hFqm0_44
        have hFqm1_51 : F51 (qm 1) = cJ (cy 2) 10 Mm.2 := by rw [eF51, va_up_ne _ _ (pl_ne hFqm1_44 hFo_44 rfl)]; exact hFqm1_44
        have hFqm2_51 : F51 (qm 2) = cD (cy 0) 6 Dd.1 := by rw [eF51, va_up_ne _ _ (pl_ne hFqm2_44 hFo_44 rfl)]; exact hFqm2_44
        have hFqm3_51 : F51 (qm 3) = cD (cy 0) 6 Dd.2.1 := by rw [eF51, va_up_ne _ _ (pl_ne hFqm3_44 hFo_44 rfl)]; exact hFqm3_44
        have hFqm4_51 : F51 (qm 4) = cD (cy 0) 6 Dd.2.2.1 := by rw [eF51, va_up_ne _ _ (pl_ne hFqm4_44 hFo_44 rfl)]; exact hFqm4_44
        have hFqm5_51 : F51 (qm 5) = cJ (cy 2) 6 Dd.2.2.2 := by rw [eF51, va_up_ne _ _ (pl_ne hFqm5_44 hFo_44 rfl)]; exact hFqm5_44
        have hFqm6_51 : F51 (qm 6) = cI (cy 1) 8 Sl.1 := by rw [eF51, va_up_ne _ _ (pl_ne hFqm6_44 hFo_44 rfl)]; exact hFqm6_44
        have hFqm7_51 : F51 (qm 7) = cJ (cy 2) 128 Sl.2 := by rw [eF51, va_up_ne _ _ (pl_ne hFqm7_44 hFo_44 rfl)]; exact hFqm7_44
        have hFqm8_51 : F51 (qm 8) = cI (cy 1) 30 Pp.2.1 := by rw [eF51, va_up_ne _ _ (pl_ne hFqm8_44 hFo_44 rfl)]; exact hFqm8_44
        have hFqm9_51 : F51 (qm 9) = cI (cy 3) 30 Pp.2.2 := by rw [eF51, va_up_ne _ _ (pl_ne hFqm9_44 hFo_44 rfl)]; exact hFqm9_44
        have hFqm10_51 : F51 (qm 10) = cI (cy 1) 5 Kr.1 := by rw [eF51, va_up_ne _ _ (pl_ne hFqm10_44 hFo_44 rfl)]; exact hFqm10_44
        have hFqm11_51 : F51 (qm 11) = cI (cy 3) 5 Kr.2.1 := by rw [eF51, va_up_ne _ _ (pl_ne hFqm11_44 hFo_44 rfl)]; exact hFqm11_44
        have hFqm12_51 : F51 (qm 12) = cI (cy 1) 60 Kr.2.2 := by rw [eF51, va_up_ne _ _ (pl_ne hFqm12_44 hFo_44 rfl)]; exact hFqm12_44
        have hFqm13_51 : F51 (qm 13) = cI (cy 1) 4 Bk.1 := by rw [eF51, va_up_ne _ _ (pl_ne hFqm13_44 hFo_44 rfl)]; exact hFqm13_44
        have hFqm14_51 : F51 (qm 14) = cD (cy 0) 4 Bk.2 := by rw [eF51, va_up_ne _ _ (pl_ne hFqm14_44 hFo_44 rfl)]; exact hFqm14_44
        have hFqm15_51 : F51 (qm 15) = cI (cy 1) 6 Xx.2 := by rw [eF51, va_up_ne _ _ (pl_ne hFqm15_44 hFo_44 rfl)]; exact hFqm15_44
        refine lv_aload_n hx hb dX9_put_39 rfl (lv_at hl 0 rfl) ?_
        refine pg_get (ci := 8) (C := RX9) (T := TX9) (N := 20) hx hb hts hinX9 hown hK hP hmo hFo_51 rfl 17 (by decide) (hts (.fieldLink RX9 65 "RopeDrumsModel" "failed" "I") (by decide +kernel)) (fun _ h9 => h9) rfl dX9_put_40 ?_
        refine lv_if_ne (tgt := 74) hx hb dX9_put_43 (by decide) (fun c52 => ?_) (fun c52 => absurd c52 (by decide))
        refine lv_aload_n hx hb dX9_put_74 rfl (lv_at hl 0 rfl) ?_
        refine pg_get (ci := 8) (C := RX9) (T := TX9) (N := 20) hx hb hts hinX9 hown hK hP hmo hFo_51 rfl 17 (by decide) (hts (.fieldLink RX9 65 "RopeDrumsModel" "failed" "I") (by decide +kernel)) (fun _ h9 => h9) rfl dX9_put_75 ?_
        refine lv_if_ne (tgt := 93) hx hb dX9_put_78 (by decide) (fun c53 => ?_) (fun c53 => absurd c53 (by decide))
        refine lv_aload_n hx hb dX9_put_93 rfl (lv_at hl 0 rfl) ?_
        refine lv_iconst (v := 1) hx hb dX9_put_94 (by decide) ?_
        refine va_calli (va_runV (As := [.int 1]) (rest := []) ⟨hx, hb, hml, hown, hts⟩ (c9_answers_1 l G cy L F51 H.size o qm 0 Pp.1 oc hmo hFo_51 Xx.2 hm15 hFqm15_51 1) (cwV 1 hts gX9_put_X9_answers rfl rfl rfl (by decide +kernel) ⟨Nat.le_of_ble_eq_true rfl, Nat.le_of_ble_eq_true rfl⟩) (preV_of okQ (⟨rfl, hP, hK, hD.top⟩) (pl_recv hK hP (ci := 8) rfl hmo hFo_51)) rfl rfl hl.1 rfl (lv_room (Nat.le_of_ble_eq_true rfl)) dX9_put_95 ⟨Nat.le_of_ble_eq_true rfl, Nat.le_of_ble_eq_true rfl⟩) hS (fun q _ h => pl_free hD hS hA q h) (pl_free hD hS hA) (fun r55 F54 t H1 locs ht hvm hw hP1 hz1 hk1 hS => ?_)
        have hP1 : va_P G vwCl (va_pl L F54) t.heap := hP1
        rw [ht] at hP1
        have hP := hP1
        generalize H1 = H at hP hS ⊢
        obtain ⟨hqr55, eF54⟩ := hw
        have eF54 : F54 = va_up F51 (qm 15) (cI (cy 1) 6 (upd Xx.2 1 (Xx.2 1 + 1))) := eF54
        have hFo_55 : F54 o = .inr (8, [.int 0, .ref (qm 0), .ref (qm 1), .ref (qm 2), .ref (qm 3), .ref (qm 4), .ref (qm 5), .ref (qm 6), .ref (qm 7), .int Pp.1, .ref (qm 8), .ref (qm 9), .ref (qm 10), .ref (qm 11), .ref (qm 12), .ref (qm 13), .ref (qm 14), .int 1, .ref (qm 15), .long oc]) := by rw [eF54, va_up_ne _ _ (pl_ne hFo_51 hFqm15_51 rfl)]; exact hFo_51
        have hFqm0_55 : F54 (qm 0) = cI (cy 1) 10 Mm.1 := by rw [eF54, va_up_ne _ _ (pl_ne hFqm0_51 hFqm15_51 rfl)]; exact hFqm0_51
        have hFqm1_55 : F54 (qm 1) = cJ (cy 2) 10 Mm.2 := by rw [eF54, va_up_ne _ _ (pl_ne hFqm1_51 hFqm15_51 rfl)]; exact hFqm1_51
        have hFqm2_55 : F54 (qm 2) = cD (cy 0) 6 Dd.1 := by rw [eF54, va_up_ne _ _ (pl_ne hFqm2_51 hFqm15_51 rfl)]; exact hFqm2_51
        have hFqm3_55 : F54 (qm 3) = cD (cy 0) 6 Dd.2.1 := by rw [eF54, va_up_ne _ _ (pl_ne hFqm3_51 hFqm15_51 rfl)]; exact hFqm3_51
        have hFqm4_55 : F54 (qm 4) = cD (cy 0) 6 Dd.2.2.1 := by rw [eF54, va_up_ne _ _ (pl_ne hFqm4_51 hFqm15_51 rfl)]; exact hFqm4_51
        have hFqm5_55 : F54 (qm 5) = cJ (cy 2) 6 Dd.2.2.2 := by rw [eF54, va_up_ne _ _ (pl_ne hFqm5_51 hFqm15_51 rfl)]; exact hFqm5_51
        have hFqm6_55 : F54 (qm 6) = cI (cy 1) 8 Sl.1 := by rw [eF54, va_up_ne _ _ (pl_ne hFqm6_51 hFqm15_51 rfl)]; exact hFqm6_51
        have hFqm7_55 : F54 (qm 7) = cJ (cy 2) 128 Sl.2 := by rw [eF54, va_up_ne _ _ (pl_ne hFqm7_51 hFqm15_51 rfl)]; exact hFqm7_51
        have hFqm8_55 : F54 (qm 8) = cI (cy 1) 30 Pp.2.1 := by rw [eF54, va_up_ne _ _ (pl_ne hFqm8_51 hFqm15_51 rfl)]; exact hFqm8_51
        have hFqm9_55 : F54 (qm 9) = cI (cy 3) 30 Pp.2.2 := by rw [eF54, va_up_ne _ _ (pl_ne hFqm9_51 hFqm15_51 rfl)]; exact hFqm9_51
        have hFqm10_55 : F54 (qm 10) = cI (cy 1) 5 Kr.1 := by rw [eF54, va_up_ne _ _ (pl_ne hFqm10_51 hFqm15_51 rfl)]; exact hFqm10_51
        have hFqm11_55 : F54 (qm 11) = cI (cy 3) 5 Kr.2.1 := by rw [eF54, va_up_ne _ _ (pl_ne hFqm11_51 hFqm15_51 rfl)]; exact hFqm11_51
        have hFqm12_55 : F54 (qm 12) = cI (cy 1) 60 Kr.2.2 := by rw [eF54, va_up_ne _ _ (pl_ne hFqm12_51 hFqm15_51 rfl)]; exact hFqm12_51
        have hFqm13_55 : F54 (qm 13) = cI (cy 1) 4 Bk.1 := by rw [eF54, va_up_ne _ _ (pl_ne hFqm13_51 hFqm15_51 rfl)]; exact hFqm13_51
        have hFqm14_55 : F54 (qm 14) = cD (cy 0) 4 Bk.2 := by rw [eF54, va_up_ne _ _ (pl_ne hFqm14_51 hFqm15_51 rfl)]; exact hFqm14_51
        have hFqm15_55 : F54 (qm 15) = cI (cy 1) 6 (upd Xx.2 1 (Xx.2 1 + 1)) := by rw [eF54]; exact va_up_self _ _ _
        have hr55 := hqr55
        exact W.iret (v := r55) hx hb hr (fun t ht hW => ⟨⟨r55, F54, rfl, (by subst hr55; have hsp : sp_put Pp Kr Xx (nI j_rk) i (nI ks) = (-10 - 1, Kr, failX Xx 1) := (by unfold sp_put; rw [hi_rk]; exact (if_pos (Or.inr ⟨by rw [nI_toInt (by omega)]; omega, by rw [nI_toInt (by omega)]; exact hks⟩)).trans ((if_neg hp0_i).trans (by rw [hp_i]; rfl))); rw [hsp]; exact ⟨rfl, (by exact ⟨⟨_, _, hmo, hFo_55⟩, ⟨hm0, hFqm0_55⟩, ⟨hm1, hFqm1_55⟩, ⟨hm2, hFqm2_55⟩, ⟨hm3, hFqm3_55⟩, ⟨hm4, hFqm4_55⟩, ⟨hm5, hFqm5_55⟩, ⟨hm6, hFqm6_55⟩, ⟨hm7, hFqm7_55⟩, ⟨hm8, hFqm8_55⟩, ⟨hm9, hFqm9_55⟩, ⟨hm10, hFqm10_55⟩, ⟨hm11, hFqm11_55⟩, ⟨hm12, hFqm12_55⟩, ⟨hm13, hFqm13_55⟩, ⟨hm14, hFqm14_55⟩, ⟨hm15, hFqm15_55⟩, hne⟩)⟩), (by show va_P _ _ _ t.heap; rw [ht]; exact hP)⟩, hS.F ht⟩) hS.2.2 dX9_put_98
      · have hp0_i : ¬ pl0 (Kr.1 j_rk) i = 0 := by rw [hp_i]; decide
        refine lv_aload_n hx hb dX9_put_0 rfl (lv_at hl 0 rfl) ?_
        refine lv_iconst (v := 0) hx hb dX9_put_1 (by decide) ?_
        refine pg_put (ci := 8) (v := .int 0) (ty := .int) (C := RX9) (T := TX9) (N := 20) hx hb hts hinX9 tyX9 tyX9_ok nmX9 hown hK hP hD hS hmo hFo rfl 0 (by decide) (hts (.fieldLink RX9 61 "RopeDrumsModel" "thrown" "I") (by decide +kernel)) (fun _ h9 => h9) rfl (by decide +kernel) (rfl) (rfl) (Nat.le_of_ble_eq_true rfl) dX9_put_2 (fun H locs F56 eF56 hP hS => ?_)
        have eF56 : F56 = va_up F o (.inr (8, [.int 0, .ref (qm 0), .ref (qm 1), .ref (qm 2), .ref (qm 3), .ref (qm 4), .ref (qm 5), .ref (qm 6), .ref (qm 7), .int Pp.1, .ref (qm 8), .ref (qm 9), .ref (qm 10), .ref (qm 11), .ref (qm 12), .ref (qm 13), .ref (qm 14), .int Xx.1, .ref (qm 15), .long oc])) := eF56
        have hFo_56 : F56 o = .inr (8, [.int 0, .ref (qm 0), .ref (qm 1), .ref (qm 2), .ref (qm 3), .ref (qm 4), .ref (qm 5), .ref (qm 6), .ref (qm 7), .int Pp.1, .ref (qm 8), .ref (qm 9), .ref (qm 10), .ref (qm 11), .ref (qm 12), .ref (qm 13), .ref (qm 14), .int Xx.1, .ref (qm 15), .long oc]) := by rw [eF56]; exact va_up_self _ _ _
        have hFqm0_56 : F56 (qm 0) = cI (cy 1) 10 Mm.1 := by rw [eF56, va_up_ne _ _ (pl_ne hF0 hFo rfl)]; exact hF0
        have hFqm1_56 : F56 (qm 1) = cJ (cy 2) 10 Mm.2 := by rw [eF56, va_up_ne _ _ (pl_ne hF1 hFo rfl)]; exact hF1
        have hFqm2_56 : F56 (qm 2) = cD (cy 0) 6 Dd.1 := by rw [eF56, va_up_ne _ _ (pl_ne hF2 hFo rfl)]; exact hF2
        have hFqm3_56 : F56 (qm 3) = cD (cy 0) 6 Dd.2.1 := by rw [eF56, va_up_ne _ _ (pl_ne hF3 hFo rfl)]; exact hF3
        have hFqm4_56 : F56 (qm 4) = cD (cy 0) 6 Dd.2.2.1 := by rw [eF56, va_up_ne _ _ (pl_ne hF4 hFo rfl)]; exact hF4
        have hFqm5_56 : F56 (qm 5) = cJ (cy 2) 6 Dd.2.2.2 := by rw [eF56, va_up_ne _ _ (pl_ne hF5 hFo rfl)]; exact hF5
        have hFqm6_56 : F56 (qm 6) = cI (cy 1) 8 Sl.1 := by rw [eF56, va_up_ne _ _ (pl_ne hF6 hFo rfl)]; exact hF6
        have hFqm7_56 : F56 (qm 7) = cJ (cy 2) 128 Sl.2 := by rw [eF56, va_up_ne _ _ (pl_ne hF7 hFo rfl)]; exact hF7
        have hFqm8_56 : F56 (qm 8) = cI (cy 1) 30 Pp.2.1 := by rw [eF56, va_up_ne _ _ (pl_ne hF8 hFo rfl)]; exact hF8
        have hFqm9_56 : F56 (qm 9) = cI (cy 3) 30 Pp.2.2 := by rw [eF56, va_up_ne _ _ (pl_ne hF9 hFo rfl)]; exact hF9
        have hFqm10_56 : F56 (qm 10) = cI (cy 1) 5 Kr.1 := by rw [eF56, va_up_ne _ _ (pl_ne hF10 hFo rfl)]; exact hF10
        have hFqm11_56 : F56 (qm 11) = cI (cy 3) 5 Kr.2.1 := by rw [eF56, va_up_ne _ _ (pl_ne hF11 hFo rfl)]; exact hF11
        have hFqm12_56 : F56 (qm 12) = cI (cy 1) 60 Kr.2.2 := by rw [eF56, va_up_ne _ _ (pl_ne hF12 hFo rfl)]; exact hF12
        have hFqm13_56 : F56 (qm 13) = cI (cy 1) 4 Bk.1 := by rw [eF56, va_up_ne _ _ (pl_ne hF13 hFo rfl)]; exact hF13
        have hFqm14_56 : F56 (qm 14) = cD (cy 0) 4 Bk.2 := by rw [eF56, va_up_ne _ _ (pl_ne hF14 hFo rfl)]; exact hF14
        have hFqm15_56 : F56 (qm 15) = cI (cy 1) 6 Xx.2 := by rw [eF56, va_up_ne _ _ (pl_ne hF15 hFo rfl)]; exact hF15
        refine lv_iload_n hx hb dX9_put_5 rfl (lv_at hl 1 rfl) ?_
        refine vp_callSi (W.runS (As := [.int (nI j_rk)]) (rest := []) ⟨hx, hb, hml, hown, hts⟩ (c9_isRack l (nI j_rk)) (va_cwS 1 hts gX9_put_X9_isRack rfl rfl rfl (by decide +kernel) ⟨Nat.le_of_ble_eq_true rfl, Nat.le_of_ble_eq_true rfl⟩) (preS_of okT (trivial)) rfl rfl hl.1 rfl (lv_room (Nat.le_of_ble_eq_true rfl)) dX9_put_6 ⟨Nat.le_of_ble_eq_true rfl, Nat.le_of_ble_eq_true rfl⟩) (fun r57 hr57 => ?_)
        rw [isx1 hi_rk] at hr57
        subst hr57
        refine lv_if_eq (tgt := 25) hx hb dX9_put_9 (by decide) (fun c58 => absurd c58 (by decide)) (fun c58 => ?_)
        refine lv_iload_n hx hb dX9_put_12 rfl (lv_at hl 3 rfl) ?_
        refine lv_iconst (v := -1) hx hb dX9_put_13 (by decide) ?_
        refine lv_icmp_eq (tgt := 29) hx hb dX9_put_14 (by decide) (fun c59 => absurd c59 (nI_neg (by omega))) (fun c59 => ?_)
        refine lv_aload_n hx hb dX9_put_17 rfl (lv_at hl 0 rfl) ?_
        refine lv_iload_n hx hb dX9_put_18 rfl (lv_at hl 3 rfl) ?_
        refine vp_callSi (W.runV (As := [.int (nI ks)]) (rest := []) ⟨hx, hb, hml, hown, hts⟩ (c9_isSpool l G cy L F56 o qm 0 Pp.1 Xx.1 oc hmo hFo_56 (nI ks) hp30.1) (cwV 1 hts gX9_put_X9_isSpool rfl rfl rfl (by decide +kernel) ⟨Nat.le_of_ble_eq_true rfl, Nat.le_of_ble_eq_true rfl⟩) (preV_of okP (⟨hP, hK, hD.top⟩) (pl_recv hK hP (ci := 8) rfl hmo hFo_56)) rfl rfl hl.1 rfl (lv_room (Nat.le_of_ble_eq_true rfl)) dX9_put_19 ⟨Nat.le_of_ble_eq_true rfl, Nat.le_of_ble_eq_true rfl⟩) (fun r60 hr60 => ?_)
        rw [if_pos (by rw [nI_toInt (by omega)]; omega)] at hr60
        subst hr60
        refine lv_if_ne (tgt := 29) hx hb dX9_put_22 (by decide) (fun c61 => ?_) (fun c61 => absurd c61 (by decide))
        refine lv_aload_n hx hb dX9_put_29 rfl (lv_at hl 0 rfl) ?_
        refine lv_aload_n hx hb dX9_put_30 rfl (lv_at hl 0 rfl) ?_
        refine lv_iload_n hx hb dX9_put_31 rfl (lv_at hl 1 rfl) ?_
        refine lv_iload_n hx hb dX9_put_32 rfl (lv_at hl 2 rfl) ?_
        refine vp_callSi (W.runV (As := [.int (nI j_rk), .int i]) (rest := [.ref o]) ⟨hx, hb, hml, hown, hts⟩ (c9_rackCause l G cy L F56 o qm 0 Pp.1 Xx.1 oc hmo hFo_56 Kr.1 hm10 hFqm10_56 j_rk hj_rk i ((hVK j_rk hj_rk).2.1)) (cwV 2 hts gX9_put_X9_rackCause rfl rfl rfl (by decide +kernel) ⟨Nat.le_of_ble_eq_true rfl, Nat.le_of_ble_eq_true rfl⟩) (preV_of okP (⟨hP, hK, hD.top⟩) (pl_recv hK hP (ci := 8) rfl hmo hFo_56)) rfl rfl hl.1 rfl (lv_room (Nat.le_of_ble_eq_true rfl)) dX9_put_33 ⟨Nat.le_of_ble_eq_true rfl, Nat.le_of_ble_eq_true rfl⟩) (fun r62 hr62 => ?_)
        rw [hp_i] at hr62
        have hzr62 : r62 = 2 := hr62
        clear hr62
        subst hzr62
        refine pg_put (ci := 8) (v := .int 2) (ty := .int) (C := RX9) (T := TX9) (N := 20) hx hb hts hinX9 tyX9 tyX9_ok nmX9 hown hK hP hD hS hmo hFo_56 rfl 17 (by decide) (hts (.fieldLink RX9 65 "RopeDrumsModel" "failed" "I") (by decide +kernel)) (fun _ h9 => h9) rfl (by decide +kernel) (rfl) (rfl) (Nat.le_of_ble_eq_true rfl) dX9_put_36 (fun H locs F63 eF63 hP hS => ?_)
        have eF63 : F63 = va_up F56 o (.inr (8, [.int 0, .ref (qm 0), .ref (qm 1), .ref (qm 2), .ref (qm 3), .ref (qm 4), .ref (qm 5), .ref (qm 6), .ref (qm 7), .int Pp.1, .ref (qm 8), .ref (qm 9), .ref (qm 10), .ref (qm 11), .ref (qm 12), .ref (qm 13), .ref (qm 14), .int 2, .ref (qm 15), .long oc])) := eF63
        have hFo_63 : F63 o = .inr (8, [.int 0, .ref (qm 0), .ref (qm 1), .ref (qm 2), .ref (qm 3), .ref (qm 4), .ref (qm 5), .ref (qm 6), .ref (qm 7), .int Pp.1, .ref (qm 8), .ref (qm 9), .ref (qm 10), .ref (qm 11), .ref (qm 12), .ref (qm 13), .ref (qm 14), .int 2, .ref (qm 15), .long oc]) := by rw [eF63]; exact va_up_self _ _ _
        have hFqm0_63 : F63 (qm 0) = cI (cy 1) 10 Mm.1 := by rw [eF63, va_up_ne _ _ (pl_ne hFqm0_56 hFo_56 rfl)]; exact hFqm0_56
        have hFqm1_63 : F63 (qm 1) = cJ (cy 2) 10 Mm.2 := by rw [eF63, va_up_ne _ _ (pl_ne hFqm1_56 hFo_56 rfl)]; exact hFqm1_56
        have hFqm2_63 : F63 (qm 2) = cD (cy 0) 6 Dd.1 := by rw [eF63, va_up_ne _ _ (pl_ne hFqm2_56 hFo_56 rfl)]; exact hFqm2_56
        have hFqm3_63 : F63 (qm 3) = cD (cy 0) 6 Dd.2.1 := by rw [eF63, va_up_ne _ _ (pl_ne hFqm3_56 hFo_56 rfl)]; exact hFqm3_56
        have hFqm4_63 : F63 (qm 4) = cD (cy 0) 6 Dd.2.2.1 := by rw [eF63, va_up_ne _ _ (pl_ne hFqm4_56 hFo_56 rfl)]; exact hFqm4_56
        have hFqm5_63 : F63 (qm 5) = cJ (cy 2) 6 Dd.2.2.2 := by rw [eF63, va_up_ne _ _ (pl_ne hFqm5_56 hFo_56 rfl)]; exact hFqm5_56
        have hFqm6_63 : F63 (qm 6) = cI (cy 1) 8 Sl.1 := by rw [eF63, va_up_ne _ _ (pl_ne hFqm6_56 hFo_56 rfl)]; exact hFqm6_56
        have hFqm7_63 : F63 (qm 7) = cJ (cy 2) 128 Sl.2 := by rw [eF63, va_up_ne _ _ (pl_ne hFqm7_56 hFo_56 rfl)]; exact hFqm7_56
        have hFqm8_63 : F63 (qm 8) = cI (cy 1) 30 Pp.2.1 := by rw [eF63, va_up_ne _ _ (pl_ne hFqm8_56 hFo_56 rfl)]; exact hFqm8_56
        have hFqm9_63 : F63 (qm 9) = cI (cy 3) 30 Pp.2.2 := by rw [eF63, va_up_ne _ _ (pl_ne hFqm9_56 hFo_56 rfl)]; exact hFqm9_56
        have hFqm10_63 : F63 (qm 10) = cI (cy 1) 5 Kr.1 := by rw [eF63, va_up_ne _ _ (pl_ne hFqm10_56 hFo_56 rfl)]; exact hFqm10_56
        have hFqm11_63 : F63 (qm 11) = cI (cy 3) 5 Kr.2.1 := by rw [eF63, va_up_ne _ _ (pl_ne hFqm11_56 hFo_56 rfl)]; exact hFqm11_56
        have hFqm12_63 : F63 (qm 12) = cI (cy 1) 60 Kr.2.2 := by rw [eF63, va_up_ne _ _ (pl_ne hFqm12_56 hFo_56 rfl)]; exact hFqm12_56
        have hFqm13_63 : F63 (qm 13) = cI (cy 1) 4 Bk.1 := by rw [eF63, va_up_ne _ _ (pl_ne hFqm13_56 hFo_56 rfl)]; exact hFqm13_56
        have hFqm14_63 : F63 (qm 14) = cD (cy 0) 4 Bk.2 := by rw [eF63, va_up_ne _ _ (pl_ne hFqm14_56 hFo_56 rfl)]; exact hFqm14_56
        have hFqm15_63 : F63 (qm 15) = cI (cy 1) 6 Xx.2 := by rw [eF63, va_up_ne _ _ (pl_ne hFqm15_56 hFo_56 rfl)]; exact hFqm15_56
        refine lv_aload_n hx hb dX9_put_39 rfl (lv_at hl 0 rfl) ?_
        refine pg_get (ci := 8) (C := RX9) (T := TX9) (N := 20) hx hb hts hinX9 hown hK hP hmo hFo_63 rfl 17 (by decide) (hts (.fieldLink RX9 65 "RopeDrumsModel" "failed" "I") (by decide +kernel)) (fun _ h9 => h9) rfl dX9_put_40 ?_
        refine lv_if_ne (tgt := 74) hx hb dX9_put_43 (by decide) (fun c64 => ?_) (fun c64 => absurd c64 (by decide))
        refine lv_aload_n hx hb dX9_put_74 rfl (lv_at hl 0 rfl) ?_
        refine pg_get (ci := 8) (C := RX9) (T := TX9) (N := 20) hx hb hts hinX9 hown hK hP hmo hFo_63 rfl 17 (by decide) (hts (.fieldLink RX9 65 "RopeDrumsModel" "failed" "I") (by decide +kernel)) (fun _ h9 => h9) rfl dX9_put_75 ?_
        refine lv_if_ne (tgt := 93) hx hb dX9_put_78 (by decide) (fun c65 => ?_) (fun c65 => absurd c65 (by decide))
        refine lv_aload_n hx hb dX9_put_93 rfl (lv_at hl 0 rfl) ?_
        refine lv_iconst (v := 1) hx hb dX9_put_94 (by decide) ?_
        refine va_calli (va_runV (As := [.int 1]) (rest := []) ⟨hx, hb, hml, hown, hts⟩ (c9_answers_2 l G cy L F63 H.size o qm 0 Pp.1 oc hmo hFo_63 Xx.2 hm15 hFqm15_63 1) (cwV 1 hts gX9_put_X9_answers rfl rfl rfl (by decide +kernel) ⟨Nat.le_of_ble_eq_true rfl, Nat.le_of_ble_eq_true rfl⟩) (preV_of okQ (⟨rfl, hP, hK, hD.top⟩) (pl_recv hK hP (ci := 8) rfl hmo hFo_63)) rfl rfl hl.1 rfl (lv_room (Nat.le_of_ble_eq_true rfl)) dX9_put_95 ⟨Nat.le_of_ble_eq_true rfl, Nat.le_of_ble_eq_true rfl⟩) hS (fun q _ h => pl_free hD hS hA q h) (pl_free hD hS hA) (fun r67 F66 t H1 locs ht hvm hw hP1 hz1 hk1 hS => ?_)
        have hP1 : va_P G vwCl (va_pl L F66) t.heap := hP1
        rw [ht] at hP1
        have hP := hP1
        generalize H1 = H at hP hS ⊢
        obtain ⟨hqr67, eF66⟩ := hw
        have eF66 : F66 = va_up F63 (qm 15) (cI (cy 1) 6 (upd Xx.2 2 (Xx.2 2 + 1))) := eF66
        have hFo_67 : F66 o = .inr (8, [.int 0, .ref (qm 0), .ref (qm 1), .ref (qm 2), .ref (qm 3), .ref (qm 4), .ref (qm 5), .ref (qm 6), .ref (qm 7), .int Pp.1, .ref (qm 8), .ref (qm 9), .ref (qm 10), .ref (qm 11), .ref (qm 12), .ref (qm 13), .ref (qm 14), .int 2, .ref (qm 15), .long oc]) := by rw [eF66, va_up_ne _ _ (pl_ne hFo_63 hFqm15_63 rfl)]; exact hFo_63
        have hFqm0_67 : F66 (qm 0) = cI (cy 1) 10 Mm.1 := by rw [eF66, va_up_ne _ _ (pl_ne hFqm0_63 hFqm15_63 rfl)]; exact hFqm0_63
        have hFqm1_67 : F66 (qm 1) = cJ (cy 2) 10 Mm.2 := by rw [eF66, va_up_ne _ _ (pl_ne hFqm1_63 hFqm15_63 rfl)]; exact hFqm1_63
        have hFqm2_67 : F66 (qm 2) = cD (cy 0) 6 Dd.1 := by rw [eF66, va_up_ne _ _ (pl_ne hFqm2_63 hFqm15_63 rfl)]; exact hFqm2_63
        have hFqm3_67 : F66 (qm 3) = cD (cy 0) 6 Dd.2.1 := by rw [eF66, va_up_ne _ _ (pl_ne hFqm3_63 hFqm15_63 rfl)]; exact hFqm3_63
        have hFqm4_67 : F66 (qm 4) = cD (cy 0) 6 Dd.2.2.1 := by rw [eF66, va_up_ne _ _ (pl_ne hFqm4_63 hFqm15_63 rfl)]; exact hFqm4_63
        have hFqm5_67 : F66 (qm 5) = cJ (cy 2) 6 Dd.2.2.2 := by rw [eF66, va_up_ne _ _ (pl_ne hFqm5_63 hFqm15_63 rfl)]; exact hFqm5_63
        have hFqm6_67 : F66 (qm 6) = cI (cy 1) 8 Sl.1 := by rw [eF66, va_up_ne _ _ (pl_ne hFqm6_63 hFqm15_63 rfl)]; exact hFqm6_63
        have hFqm7_67 : F66 (qm 7) = cJ (cy 2) 128 Sl.2 := by rw [eF66, va_up_ne _ _ (pl_ne hFqm7_63 hFqm15_63 rfl)]; exact hFqm7_63
        have hFqm8_67 : F66 (qm 8) = cI (cy 1) 30 Pp.2.1 := by rw [eF66, va_up_ne _ _ (pl_ne hFqm8_63 hFqm15_63 rfl)]; exact hFqm8_63
        have hFqm9_67 : F66 (qm 9) = cI (cy 3) 30 Pp.2.2 := by rw [eF66, va_up_ne _ _ (pl_ne hFqm9_63 hFqm15_63 rfl)]; exact hFqm9_63
        have hFqm10_67 : F66 (qm 10) = cI (cy 1) 5 Kr.1 := by rw [eF66, va_up_ne _ _ (pl_ne hFqm10_63 hFqm15_63 rfl)]; exact hFqm10_63
        have hFqm11_67 : F66 (qm 11) = cI (cy 3) 5 Kr.2.1 := by rw [eF66, va_up_ne _ _ (pl_ne hFqm11_63 hFqm15_63 rfl)]; exact hFqm11_63
        have hFqm12_67 : F66 (qm 12) = cI (cy 1) 60 Kr.2.2 := by rw [eF66, va_up_ne _ _ (pl_ne hFqm12_63 hFqm15_63 rfl)]; exact hFqm12_63
        have hFqm13_67 : F66 (qm 13) = cI (cy 1) 4 Bk.1 := by rw [eF66, va_up_ne _ _ (pl_ne hFqm13_63 hFqm15_63 rfl)]; exact hFqm13_63
        have hFqm14_67 : F66 (qm 14) = cD (cy 0) 4 Bk.2 := by rw [eF66, va_up_ne _ _ (pl_ne hFqm14_63 hFqm15_63 rfl)]; exact hFqm14_63
        have hFqm15_67 : F66 (qm 15) = cI (cy 1) 6 (upd Xx.2 2 (Xx.2 2 + 1)) := by rw [eF66]; exact va_up_self _ _ _
        have hr67 := hqr67
        exact W.iret (v := r67) hx hb hr (fun t ht hW => ⟨⟨r67, F66, rfl, (by subst hr67; have hsp : sp_put Pp Kr Xx (nI j_rk) i (nI ks) = (-10 - 2, Kr, failX Xx 2) := (by unfold sp_put; rw [hi_rk]; exact (if_pos (Or.inr ⟨by rw [nI_toInt (by omega)]; omega, by rw [nI_toInt (by omega)]; exact hks⟩)).trans ((if_neg hp0_i).trans (by rw [hp_i]; rfl))); rw [hsp]; exact ⟨rfl, (by exact ⟨⟨_, _, hmo, hFo_67⟩, ⟨hm0, hFqm0_67⟩, ⟨hm1, hFqm1_67⟩, ⟨hm2, hFqm2_67⟩, ⟨hm3, hFqm3_67⟩, ⟨hm4, hFqm4_67⟩, ⟨hm5, hFqm5_67⟩, ⟨hm6, hFqm6_67⟩, ⟨hm7, hFqm7_67⟩, ⟨hm8, hFqm8_67⟩, ⟨hm9, hFqm9_67⟩, ⟨hm10, hFqm10_67⟩, ⟨hm11, hFqm11_67⟩, ⟨hm12, hFqm12_67⟩, ⟨hm13, hFqm13_67⟩, ⟨hm14, hFqm14_67⟩, ⟨hm15, hFqm15_67⟩, hne⟩)⟩), (by show va_P _ _ _ t.heap; rw [ht]; exact hP)⟩, hS.F ht⟩) hS.2.2 dX9_put_98
      · subst ei_i
        refine lv_aload_n hx hb dX9_put_0 rfl (lv_at hl 0 rfl) ?_
        refine lv_iconst (v := 0) hx hb dX9_put_1 (by decide) ?_
        refine pg_put (ci := 8) (v := .int 0) (ty := .int) (C := RX9) (T := TX9) (N := 20) hx hb hts hinX9 tyX9 tyX9_ok nmX9 hown hK hP hD hS hmo hFo rfl 0 (by decide) (hts (.fieldLink RX9 61 "RopeDrumsModel" "thrown" "I") (by decide +kernel)) (fun _ h9 => h9) rfl (by decide +kernel) (rfl) (rfl) (Nat.le_of_ble_eq_true rfl) dX9_put_2 (fun H locs F68 eF68 hP hS => ?_)
        have eF68 : F68 = va_up F o (.inr (8, [.int 0, .ref (qm 0), .ref (qm 1), .ref (qm 2), .ref (qm 3), .ref (qm 4), .ref (qm 5), .ref (qm 6), .ref (qm 7), .int Pp.1, .ref (qm 8), .ref (qm 9), .ref (qm 10), .ref (qm 11), .ref (qm 12), .ref (qm 13), .ref (qm 14), .int Xx.1, .ref (qm 15), .long oc])) := eF68
        have hFo_68 : F68 o = .inr (8, [.int 0, .ref (qm 0), .ref (qm 1), .ref (qm 2), .ref (qm 3), .ref (qm 4), .ref (qm 5), .ref (qm 6), .ref (qm 7), .int Pp.1, .ref (qm 8), .ref (qm 9), .ref (qm 10), .ref (qm 11), .ref (qm 12), .ref (qm 13), .ref (qm 14), .int Xx.1, .ref (qm 15), .long oc]) := by rw [eF68]; exact va_up_self _ _ _
        have hFqm0_68 : F68 (qm 0) = cI (cy 1) 10 Mm.1 := by rw [eF68, va_up_ne _ _ (pl_ne hF0 hFo rfl)]; exact hF0
        have hFqm1_68 : F68 (qm 1) = cJ (cy 2) 10 Mm.2 := by rw [eF68, va_up_ne _ _ (pl_ne hF1 hFo rfl)]; exact hF1
        have hFqm2_68 : F68 (qm 2) = cD (cy 0) 6 Dd.1 := by rw [eF68, va_up_ne _ _ (pl_ne hF2 hFo rfl)]; exact hF2
        have hFqm3_68 : F68 (qm 3) = cD (cy 0) 6 Dd.2.1 := by rw [eF68, va_up_ne _ _ (pl_ne hF3 hFo rfl)]; exact hF3
        have hFqm4_68 : F68 (qm 4) = cD (cy 0) 6 Dd.2.2.1 := by rw [eF68, va_up_ne _ _ (pl_ne hF4 hFo rfl)]; exact hF4
        have hFqm5_68 : F68 (qm 5) = cJ (cy 2) 6 Dd.2.2.2 := by rw [eF68, va_up_ne _ _ (pl_ne hF5 hFo rfl)]; exact hF5
        have hFqm6_68 : F68 (qm 6) = cI (cy 1) 8 Sl.1 := by rw [eF68, va_up_ne _ _ (pl_ne hF6 hFo rfl)]; exact hF6
        have hFqm7_68 : F68 (qm 7) = cJ (cy 2) 128 Sl.2 := by rw [eF68, va_up_ne _ _ (pl_ne hF7 hFo rfl)]; exact hF7
        have hFqm8_68 : F68 (qm 8) = cI (cy 1) 30 Pp.2.1 := by rw [eF68, va_up_ne _ _ (pl_ne hF8 hFo rfl)]; exact hF8
        have hFqm9_68 : F68 (qm 9) = cI (cy 3) 30 Pp.2.2 := by rw [eF68, va_up_ne _ _ (pl_ne hF9 hFo rfl)]; exact hF9
        have hFqm10_68 : F68 (qm 10) = cI (cy 1) 5 Kr.1 := by rw [eF68, va_up_ne _ _ (pl_ne hF10 hFo rfl)]; exact hF10
        have hFqm11_68 : F68 (qm 11) = cI (cy 3) 5 Kr.2.1 := by rw [eF68, va_up_ne _ _ (pl_ne hF11 hFo rfl)]; exact hF11
        have hFqm12_68 : F68 (qm 12) = cI (cy 1) 60 Kr.2.2 := by rw [eF68, va_up_ne _ _ (pl_ne hF12 hFo rfl)]; exact hF12
        have hFqm13_68 : F68 (qm 13) = cI (cy 1) 4 Bk.1 := by rw [eF68, va_up_ne _ _ (pl_ne hF13 hFo rfl)]; exact hF13
        have hFqm14_68 : F68 (qm 14) = cD (cy 0) 4 Bk.2 := by rw [eF68, va_up_ne _ _ (pl_ne hF14 hFo rfl)]; exact hF14
        have hFqm15_68 : F68 (qm 15) = cI (cy 1) 6 Xx.2 := by rw [eF68, va_up_ne _ _ (pl_ne hF15 hFo rfl)]; exact hF15
        refine lv_iload_n hx hb dX9_put_5 rfl (lv_at hl 1 rfl) ?_
        refine vp_callSi (W.runS (As := [.int (nI j_rk)]) (rest := []) ⟨hx, hb, hml, hown, hts⟩ (c9_isRack l (nI j_rk)) (va_cwS 1 hts gX9_put_X9_isRack rfl rfl rfl (by decide +kernel) ⟨Nat.le_of_ble_eq_true rfl, Nat.le_of_ble_eq_true rfl⟩) (preS_of okT (trivial)) rfl rfl hl.1 rfl (lv_room (Nat.le_of_ble_eq_true rfl)) dX9_put_6 ⟨Nat.le_of_ble_eq_true rfl, Nat.le_of_ble_eq_true rfl⟩) (fun r69 hr69 => ?_)
        rw [isx1 hi_rk] at hr69
        subst hr69
        refine lv_if_eq (tgt := 25) hx hb dX9_put_9 (by decide) (fun c70 => absurd c70 (by decide)) (fun c70 => ?_)
        refine lv_iload_n hx hb dX9_put_12 rfl (lv_at hl 3 rfl) ?_
        refine lv_iconst (v := -1) hx hb dX9_put_13 (by decide) ?_
        refine lv_icmp_eq (tgt := 29) hx hb dX9_put_14 (by decide) (fun c71 => absurd c71 (nI_neg (by omega))) (fun c71 => ?_)
        refine lv_aload_n hx hb dX9_put_17 rfl (lv_at hl 0 rfl) ?_
        refine lv_iload_n hx hb dX9_put_18 rfl (lv_at hl 3 rfl) ?_
        refine vp_callSi (W.runV (As := [.int (nI ks)]) (rest := []) ⟨hx, hb, hml, hown, hts⟩ (c9_isSpool l G cy L F68 o qm 0 Pp.1 Xx.1 oc hmo hFo_68 (nI ks) hp30.1) (cwV 1 hts gX9_put_X9_isSpool rfl rfl rfl (by decide +kernel) ⟨Nat.le_of_ble_eq_true rfl, Nat.le_of_ble_eq_true rfl⟩) (preV_of okP (⟨hP, hK, hD.top⟩) (pl_recv hK hP (ci := 8) rfl hmo hFo_68)) rfl rfl hl.1 rfl (lv_room (Nat.le_of_ble_eq_true rfl)) dX9_put_19 ⟨Nat.le_of_ble_eq_true rfl, Nat.le_of_ble_eq_true rfl⟩) (fun r72 hr72 => ?_)
        rw [if_pos (by rw [nI_toInt (by omega)]; omega)] at hr72
        subst hr72
        refine lv_if_ne (tgt := 29) hx hb dX9_put_22 (by decide) (fun c73 => ?_) (fun c73 => absurd c73 (by decide))
        refine lv_aload_n hx hb dX9_put_29 rfl (lv_at hl 0 rfl) ?_
        refine lv_aload_n hx hb dX9_put_30 rfl (lv_at hl 0 rfl) ?_
        refine lv_iload_n hx hb dX9_put_31 rfl (lv_at hl 1 rfl) ?_
        refine lv_iload_n hx hb dX9_put_32 rfl (lv_at hl 2 rfl) ?_
        refine vp_callSi (W.runV (As := [.int (nI j_rk), .int (nI q_i)]) (rest := [.ref o]) ⟨hx, hb, hml, hown, hts⟩ (c9_rackCause l G cy L F68 o qm 0 Pp.1 Xx.1 oc hmo hFo_68 Kr.1 hm10 hFqm10_68 j_rk hj_rk (nI q_i) ((hVK j_rk hj_rk).2.1)) (cwV 2 hts gX9_put_X9_rackCause rfl rfl rfl (by decide +kernel) ⟨Nat.le_of_ble_eq_true rfl, Nat.le_of_ble_eq_true rfl⟩) (preV_of okP (⟨hP, hK, hD.top⟩) (pl_recv hK hP (ci := 8) rfl hmo hFo_68)) rfl rfl hl.1 rfl (lv_room (Nat.le_of_ble_eq_true rfl)) dX9_put_33 ⟨Nat.le_of_ble_eq_true rfl, Nat.le_of_ble_eq_true rfl⟩) (fun r74 hr74 => ?_)
        rw [hp_i] at hr74
        have hzr74 : r74 = 0 := hr74
        clear hr74
        subst hzr74
        refine pg_put (ci := 8) (v := .int 0) (ty := .int) (C := RX9) (T := TX9) (N := 20) hx hb hts hinX9 tyX9 tyX9_ok nmX9 hown hK hP hD hS hmo hFo_68 rfl 17 (by decide) (hts (.fieldLink RX9 65 "RopeDrumsModel" "failed" "I") (by decide +kernel)) (fun _ h9 => h9) rfl (by decide +kernel) (rfl) (rfl) (Nat.le_of_ble_eq_true rfl) dX9_put_36 (fun H locs F75 eF75 hP hS => ?_)
        have eF75 : F75 = va_up F68 o (.inr (8, [.int 0, .ref (qm 0), .ref (qm 1), .ref (qm 2), .ref (qm 3), .ref (qm 4), .ref (qm 5), .ref (qm 6), .ref (qm 7), .int Pp.1, .ref (qm 8), .ref (qm 9), .ref (qm 10), .ref (qm 11), .ref (qm 12), .ref (qm 13), .ref (qm 14), .int 0, .ref (qm 15), .long oc])) := eF75
        have hFo_75 : F75 o = .inr (8, [.int 0, .ref (qm 0), .ref (qm 1), .ref (qm 2), .ref (qm 3), .ref (qm 4), .ref (qm 5), .ref (qm 6), .ref (qm 7), .int Pp.1, .ref (qm 8), .ref (qm 9), .ref (qm 10), .ref (qm 11), .ref (qm 12), .ref (qm 13), .ref (qm 14), .int 0, .ref (qm 15), .long oc]) := by rw [eF75]; exact va_up_self _ _ _
        have hFqm0_75 : F75 (qm 0) = cI (cy 1) 10 Mm.1 := by rw [eF75, va_up_ne _ _ (pl_ne hFqm0_68 hFo_68 rfl)]; exact hFqm0_68
        have hFqm1_75 : F75 (qm 1) = cJ (cy 2) 10 Mm.2 := by rw [eF75, va_up_ne _ _ (pl_ne hFqm1_68 hFo_68 rfl)]; exact hFqm1_68
        have hFqm2_75 : F75 (qm 2) = cD (cy 0) 6 Dd.1 := by rw [eF75, va_up_ne _ _ (pl_ne hFqm2_68 hFo_68 rfl)]; exact hFqm2_68
        have hFqm3_75 : F75 (qm 3) = cD (cy 0) 6 Dd.2.1 := by rw [eF75, va_up_ne _ _ (pl_ne hFqm3_68 hFo_68 rfl)]; exact hFqm3_68
        have hFqm4_75 : F75 (qm 4) = cD (cy 0) 6 Dd.2.2.1 := by rw [eF75, va_up_ne _ _ (pl_ne hFqm4_68 hFo_68 rfl)]; exact hFqm4_68
        have hFqm5_75 : F75 (qm 5) = cJ (cy 2) 6 Dd.2.2.2 := by rw [eF75, va_up_ne _ _ (pl_ne hFqm5_68 hFo_68 rfl)]; exact hFqm5_68
        have hFqm6_75 : F75 (qm 6) = cI (cy 1) 8 Sl.1 := by rw [eF75, va_up_ne _ _ (pl_ne hFqm6_68 hFo_68 rfl)]; exact hFqm6_68
        have hFqm7_75 : F75 (qm 7) = cJ (cy 2) 128 Sl.2 := by rw [eF75, va_up_ne _ _ (pl_ne hFqm7_68 hFo_68 rfl)]; exact hFqm7_68
        have hFqm8_75 : F75 (qm 8) = cI (cy 1) 30 Pp.2.1 := by rw [eF75, va_up_ne _ _ (pl_ne hFqm8_68 hFo_68 rfl)]; exact hFqm8_68
        have hFqm9_75 : F75 (qm 9) = cI (cy 3) 30 Pp.2.2 := by rw [eF75, va_up_ne _ _ (pl_ne hFqm9_68 hFo_68 rfl)]; exact hFqm9_68
        have hFqm10_75 : F75 (qm 10) = cI (cy 1) 5 Kr.1 := by rw [eF75, va_up_ne _ _ (pl_ne hFqm10_68 hFo_68 rfl)]; exact hFqm10_68
        have hFqm11_75 : F75 (qm 11) = cI (cy 3) 5 Kr.2.1 := by rw [eF75, va_up_ne _ _ (pl_ne hFqm11_68 hFo_68 rfl)]; exact hFqm11_68
        have hFqm12_75 : F75 (qm 12) = cI (cy 1) 60 Kr.2.2 := by rw [eF75, va_up_ne _ _ (pl_ne hFqm12_68 hFo_68 rfl)]; exact hFqm12_68
        have hFqm13_75 : F75 (qm 13) = cI (cy 1) 4 Bk.1 := by rw [eF75, va_up_ne _ _ (pl_ne hFqm13_68 hFo_68 rfl)]; exact hFqm13_68
        have hFqm14_75 : F75 (qm 14) = cD (cy 0) 4 Bk.2 := by rw [eF75, va_up_ne _ _ (pl_ne hFqm14_68 hFo_68 rfl)]; exact hFqm14_68
        have hFqm15_75 : F75 (qm 15) = cI (cy 1) 6 Xx.2 := by rw [eF75, va_up_ne _ _ (pl_ne hFqm15_68 hFo_68 rfl)]; exact hFqm15_68
        refine lv_aload_n hx hb dX9_put_39 rfl (lv_at hl 0 rfl) ?_
        refine pg_get (ci := 8) (C := RX9) (T := TX9) (N := 20) hx hb hts hinX9 hown hK hP hmo hFo_75 rfl 17 (by decide) (hts (.fieldLink RX9 65 "RopeDrumsModel" "failed" "I") (by decide +kernel)) (fun _ h9 => h9) rfl dX9_put_40 ?_
        refine lv_if_ne (tgt := 74) hx hb dX9_put_43 (by decide) (fun c76 => absurd (by decide) c76) (fun c76 => ?_)
        refine lv_iload_n hx hb dX9_put_46 rfl (lv_at hl 3 rfl) ?_
        refine lv_iconst (v := -1) hx hb dX9_put_47 (by decide) ?_
        refine lv_icmp_eq (tgt := 74) hx hb dX9_put_48 (by decide) (fun c77 => absurd c77 (nI_neg (by omega))) (fun c77 => ?_)
        refine lv_aload_n hx hb dX9_put_51 rfl (lv_at hl 0 rfl) ?_
        refine pg_get (ci := 8) (C := RX9) (T := TX9) (N := 20) hx hb hts hinX9 hown hK hP hmo hFo_75 rfl 13 (by decide) (hts (.fieldLink RX9 46 "RopeDrumsModel" "isForReels" "[Z") (by decide +kernel)) (fun _ h9 => h9) rfl dX9_put_52 ?_
        refine lv_iload_n hx hb dX9_put_55 rfl (lv_at hl 1 rfl) ?_
        refine pg_zald hx hb hK hP 3 hm11 hFqm11_75 rfl (vp_in_nI (by omega) (by decide)) dX9_put_56 ?_
        refine lv_topi (fun v78 ev78 => ?_)
        rw [nI_clamp (by omega)] at ev78
        refine lv_if_eq (tgt := 74) hx hb dX9_put_57 (by decide) (fun c79 => ?_) (fun c79 => ?_)
        · refine lv_aload_n hx hb dX9_put_74 rfl (lv_at hl 0 rfl) ?_
          refine pg_get (ci := 8) (C := RX9) (T := TX9) (N := 20) hx hb hts hinX9 hown hK hP hmo hFo_75 rfl 17 (by decide) (hts (.fieldLink RX9 65 "RopeDrumsModel" "failed" "I") (by decide +kernel)) (fun _ h9 => h9) rfl dX9_put_75 ?_
          refine lv_if_ne (tgt := 93) hx hb dX9_put_78 (by decide) (fun c80 => absurd (by decide) c80) (fun c80 => ?_)
          refine lv_aload_n hx hb dX9_put_81 rfl (lv_at hl 0 rfl) ?_
          refine pg_get (ci := 8) (C := RX9) (T := TX9) (N := 20) hx hb hts hinX9 hown hK hP hmo hFo_75 rfl 14 (by decide) (hts (.fieldLink RX9 49 "RopeDrumsModel" "standing" "[I") (by decide +kernel)) (fun _ h9 => h9) rfl dX9_put_82 ?_
          refine lv_bipush (v := 12) hx hb dX9_put_85 (by decide) ?_
          refine lv_iload_n hx hb dX9_put_87 rfl (lv_at hl 1 rfl) ?_
          refine lv_imul hx hb dX9_put_88 ?_
          refine lv_topi (fun v81 ev81 => ?_)
          refine lv_iload_n hx hb dX9_put_89 rfl (lv_at hl 2 rfl) ?_
          refine lv_iadd hx hb dX9_put_90 ?_
          refine lv_topi (fun v82 ev82 => ?_)
          rw [ev81, nI12] at ev82
          subst ev82
          refine lv_iload_n hx hb dX9_put_91 rfl (lv_at hl 3 rfl) ?_
          refine pg_iast hx hb hK hP hD hS 1 hm12 hFqm12_75 rfl (vp_in_nI (by omega) (by decide)) dX9_put_92 (fun H locs F83 eF83 hP hS => ?_)
          rw [nI_clamp (by omega)] at eF83
          have hFo_83 : F83 o = .inr (8, [.int 0, .ref (qm 0), .ref (qm 1), .ref (qm 2), .ref (qm 3), .ref (qm 4), .ref (qm 5), .ref (qm 6), .ref (qm 7), .int Pp.1, .ref (qm 8), .ref (qm 9), .ref (qm 10), .ref (qm 11), .ref (qm 12), .ref (qm 13), .ref (qm 14), .int 0, .ref (qm 15), .long oc]) := by rw [eF83, va_up_ne _ _ (pl_ne hFo_75 hFqm12_75 rfl)]; exact hFo_75
          have hFqm0_83 : F83 (qm 0) = cI (cy 1) 10 Mm.1 := by rw [eF83, va_up_ne _ _ (pl_ne hFqm0_75 hFqm12_75 rfl)]; exact hFqm0_75
          have hFqm1_83 : F83 (qm 1) = cJ (cy 2) 10 Mm.2 := by rw [eF83, va_up_ne _ _ (pl_ne hFqm1_75 hFqm12_75 rfl)]; exact hFqm1_75
          have hFqm2_83 : F83 (qm 2) = cD (cy 0) 6 Dd.1 := by rw [eF83, va_up_ne _ _ (pl_ne hFqm2_75 hFqm12_75 rfl)]; exact hFqm2_75
          have hFqm3_83 : F83 (qm 3) = cD (cy 0) 6 Dd.2.1 := by rw [eF83, va_up_ne _ _ (pl_ne hFqm3_75 hFqm12_75 rfl)]; exact hFqm3_75
          have hFqm4_83 : F83 (qm 4) = cD (cy 0) 6 Dd.2.2.1 := by rw [eF83, va_up_ne _ _ (pl_ne hFqm4_75 hFqm12_75 rfl)]; exact hFqm4_75
          have hFqm5_83 : F83 (qm 5) = cJ (cy 2) 6 Dd.2.2.2 := by rw [eF83, va_up_ne _ _ (pl_ne hFqm5_75 hFqm12_75 rfl)]; exact hFqm5_75
          have hFqm6_83 : F83 (qm 6) = cI (cy 1) 8 Sl.1 := by rw [eF83, va_up_ne _ _ (pl_ne hFqm6_75 hFqm12_75 rfl)]; exact hFqm6_75
          have hFqm7_83 : F83 (qm 7) = cJ (cy 2) 128 Sl.2 := by rw [eF83, va_up_ne _ _ (pl_ne hFqm7_75 hFqm12_75 rfl)]; exact hFqm7_75
          have hFqm8_83 : F83 (qm 8) = cI (cy 1) 30 Pp.2.1 := by rw [eF83, va_up_ne _ _ (pl_ne hFqm8_75 hFqm12_75 rfl)]; exact hFqm8_75
          have hFqm9_83 : F83 (qm 9) = cI (cy 3) 30 Pp.2.2 := by rw [eF83, va_up_ne _ _ (pl_ne hFqm9_75 hFqm12_75 rfl)]; exact hFqm9_75
          have hFqm10_83 : F83 (qm 10) = cI (cy 1) 5 Kr.1 := by rw [eF83, va_up_ne _ _ (pl_ne hFqm10_75 hFqm12_75 rfl)]; exact hFqm10_75
          have hFqm11_83 : F83 (qm 11) = cI (cy 3) 5 Kr.2.1 := by rw [eF83, va_up_ne _ _ (pl_ne hFqm11_75 hFqm12_75 rfl)]; exact hFqm11_75
          have hFqm12_83 : F83 (qm 12) = cI (cy 1) 60 (upd Kr.2.2 (12 * j_rk + q_i) (nI ks)) := by rw [eF83]; exact va_up_self _ _ _
          have hFqm13_83 : F83 (qm 13) = cI (cy 1) 4 Bk.1 := by rw [eF83, va_up_ne _ _ (pl_ne hFqm13_75 hFqm12_75 rfl)]; exact hFqm13_75
          have hFqm14_83 : F83 (qm 14) = cD (cy 0) 4 Bk.2 := by rw [eF83, va_up_ne _ _ (pl_ne hFqm14_75 hFqm12_75 rfl)]; exact hFqm14_75
          have hFqm15_83 : F83 (qm 15) = cI (cy 1) 6 Xx.2 := by rw [eF83, va_up_ne _ _ (pl_ne hFqm15_75 hFqm12_75 rfl)]; exact hFqm15_75
          refine lv_aload_n hx hb dX9_put_93 rfl (lv_at hl 0 rfl) ?_
          refine lv_iconst (v := 1) hx hb dX9_put_94 (by decide) ?_
          refine va_calli (va_runV (As := [.int 1]) (rest := []) ⟨hx, hb, hml, hown, hts⟩ (c9_answers_0 l G cy L F83 H.size o qm 0 Pp.1 oc hmo hFo_83 Xx.2 hm15 hFqm15_83 1) (cwV 1 hts gX9_put_X9_answers rfl rfl rfl (by decide +kernel) ⟨Nat.le_of_ble_eq_true rfl, Nat.le_of_ble_eq_true rfl⟩) (preV_of okQ (⟨rfl, hP, hK, hD.top⟩) (pl_recv hK hP (ci := 8) rfl hmo hFo_83)) rfl rfl hl.1 rfl (lv_room (Nat.le_of_ble_eq_true rfl)) dX9_put_95 ⟨Nat.le_of_ble_eq_true rfl, Nat.le_of_ble_eq_true rfl⟩) hS (fun q _ h => pl_free hD hS hA q h) (pl_free hD hS hA) (fun r85 F84 t H1 locs ht hvm hw hP1 hz1 hk1 hS => ?_)
          have hP1 : va_P G vwCl (va_pl L F84) t.heap := hP1
          rw [ht] at hP1
          have hP := hP1
          generalize H1 = H at hP hS ⊢
          obtain ⟨hqr85, eF84⟩ := hw
          have hFo_F84 : F84 o = .inr (8, [.int 0, .ref (qm 0), .ref (qm 1), .ref (qm 2), .ref (qm 3), .ref (qm 4), .ref (qm 5), .ref (qm 6), .ref (qm 7), .int Pp.1, .ref (qm 8), .ref (qm 9), .ref (qm 10), .ref (qm 11), .ref (qm 12), .ref (qm 13), .ref (qm 14), .int 0, .ref (qm 15), .long oc]) := by rw [eF84]; exact hFo_83
          have hFqm0_F84 : F84 (qm 0) = cI (cy 1) 10 Mm.1 := by rw [eF84]; exact hFqm0_83
          have hFqm1_F84 : F84 (qm 1) = cJ (cy 2) 10 Mm.2 := by rw [eF84]; exact hFqm1_83
          have hFqm2_F84 : F84 (qm 2) = cD (cy 0) 6 Dd.1 := by rw [eF84]; exact hFqm2_83
          have hFqm3_F84 : F84 (qm 3) = cD (cy 0) 6 Dd.2.1 := by rw [eF84]; exact hFqm3_83
          have hFqm4_F84 : F84 (qm 4) = cD (cy 0) 6 Dd.2.2.1 := by rw [eF84]; exact hFqm4_83
          have hFqm5_F84 : F84 (qm 5) = cJ (cy 2) 6 Dd.2.2.2 := by rw [eF84]; exact hFqm5_83
          have hFqm6_F84 : F84 (qm 6) = cI (cy 1) 8 Sl.1 := by rw [eF84]; exact hFqm6_83
          have hFqm7_F84 : F84 (qm 7) = cJ (cy 2) 128 Sl.2 := by rw [eF84]; exact hFqm7_83
          have hFqm8_F84 : F84 (qm 8) = cI (cy 1) 30 Pp.2.1 := by rw [eF84]; exact hFqm8_83
          have hFqm9_F84 : F84 (qm 9) = cI (cy 3) 30 Pp.2.2 := by rw [eF84]; exact hFqm9_83
          have hFqm10_F84 : F84 (qm 10) = cI (cy 1) 5 Kr.1 := by rw [eF84]; exact hFqm10_83
          have hFqm11_F84 : F84 (qm 11) = cI (cy 3) 5 Kr.2.1 := by rw [eF84]; exact hFqm11_83
          have hFqm12_F84 : F84 (qm 12) = cI (cy 1) 60 (upd Kr.2.2 (12 * j_rk + q_i) (nI ks)) := by rw [eF84]; exact hFqm12_83
          have hFqm13_F84 : F84 (qm 13) = cI (cy 1) 4 Bk.1 := by rw [eF84]; exact hFqm13_83
          have hFqm14_F84 : F84 (qm 14) = cD (cy 0) 4 Bk.2 := by rw [eF84]; exact hFqm14_83
          have hFqm15_F84 : F84 (qm 15) = cI (cy 1) 6 Xx.2 := by rw [eF84]; exact hFqm15_83
          have hr85 := hqr85
          exact W.iret (v := r85) hx hb hr (fun t ht hW => ⟨⟨r85, F84, rfl, (by subst hr85 ev81 ev78; have hc57 := c79; have hsp : sp_put Pp Kr Xx (nI j_rk) (nI q_i) (nI ks) = (1, (Kr.1, Kr.2.1, upd Kr.2.2 (12 * j_rk + q_i) (nI ks)), goodX Xx) := (by unfold sp_put; rw [hi_rk]; exact (if_pos (Or.inr ⟨by rw [nI_toInt (by omega)]; omega, by rw [nI_toInt (by omega)]; exact hks⟩)).trans ((if_pos hp_i).trans ((if_neg (fun q => q.2.2 hc57)).trans (by rw [nI_tn (q := q_i) (by omega)])))); rw [hsp]; exact ⟨rfl, (by exact ⟨⟨_, _, hmo, hFo_F84⟩, ⟨hm0, hFqm0_F84⟩, ⟨hm1, hFqm1_F84⟩, ⟨hm2, hFqm2_F84⟩, ⟨hm3, hFqm3_F84⟩, ⟨hm4, hFqm4_F84⟩, ⟨hm5, hFqm5_F84⟩, ⟨hm6, hFqm6_F84⟩, ⟨hm7, hFqm7_F84⟩, ⟨hm8, hFqm8_F84⟩, ⟨hm9, hFqm9_F84⟩, ⟨hm10, hFqm10_F84⟩, ⟨hm11, hFqm11_F84⟩, ⟨hm12, hFqm12_F84⟩, ⟨hm13, hFqm13_F84⟩, ⟨hm14, hFqm14_F84⟩, ⟨hm15, hFqm15_F84⟩, hne⟩)⟩), (by show va_P _ _ _ t.heap; rw [ht]; exact hP)⟩, hS.F ht⟩) hS.2.2 dX9_put_98
        · refine lv_aload_n hx hb dX9_put_60 rfl (lv_at hl 0 rfl) ?_
          refine pg_get (ci := 8) (C := RX9) (T := TX9) (N := 20) hx hb hts hinX9 hown hK hP hmo hFo_75 rfl 11 (by decide) (hts (.fieldLink RX9 39 "RopeDrumsModel" "isReel" "[Z") (by decide +kernel)) (fun _ h9 => h9) rfl dX9_put_61 ?_
          refine lv_iload_n hx hb dX9_put_64 rfl (lv_at hl 3 rfl) ?_
          refine pg_zald hx hb hK hP 3 hm9 hFqm9_75 rfl (vp_in_nI (by omega) (by decide)) dX9_put_65 ?_
          refine lv_topi (fun v86 ev86 => ?_)
          rw [nI_clamp (by omega)] at ev86
          refine lv_if_ne (tgt := 74) hx hb dX9_put_66 (by decide) (fun c87 => ?_) (fun c87 => ?_)
          · refine lv_aload_n hx hb dX9_put_74 rfl (lv_at hl 0 rfl) ?_
            refine pg_get (ci := 8) (C := RX9) (T := TX9) (N := 20) hx hb hts hinX9 hown hK hP hmo hFo_75 rfl 17 (by decide) (hts (.fieldLink RX9 65 "RopeDrumsModel" "failed" "I") (by decide +kernel)) (fun _ h9 => h9) rfl dX9_put_75 ?_
            refine lv_if_ne (tgt := 93) hx hb dX9_put_78 (by decide) (fun c88 => absurd (by decide) c88) (fun c88 => ?_)
            refine lv_aload_n hx hb dX9_put_81 rfl (lv_at hl 0 rfl) ?_
            refine pg_get (ci := 8) (C := RX9) (T := TX9) (N := 20) hx hb hts hinX9 hown hK hP hmo hFo_75 rfl 14 (by decide) (hts (.fieldLink RX9 49 "RopeDrumsModel" "standing" "[I") (by decide +kernel)) (fun _ h9 => h9) rfl dX9_put_82 ?_
            refine lv_bipush (v := 12) hx hb dX9_put_85 (by decide) ?_
            refine lv_iload_n hx hb dX9_put_87 rfl (lv_at hl 1 rfl) ?_
            refine lv_imul hx hb dX9_put_88 ?_
            refine lv_topi (fun v89 ev89 => ?_)
            refine lv_iload_n hx hb dX9_put_89 rfl (lv_at hl 2 rfl) ?_
            refine lv_iadd hx hb dX9_put_90 ?_
            refine lv_topi (fun v90 ev90 => ?_)
            rw [ev89, nI12] at ev90
            subst ev90
            refine lv_iload_n hx hb dX9_put_91 rfl (lv_at hl 3 rfl) ?_
            refine pg_iast hx hb hK hP hD hS 1 hm12 hFqm12_75 rfl (vp_in_nI (by omega) (by decide)) dX9_put_92 (fun H locs F91 eF91 hP hS => ?_)
            rw [nI_clamp (by omega)] at eF91
            have hFo_91 : F91 o = .inr (8, [.int 0, .ref (qm 0), .ref (qm 1), .ref (qm 2), .ref (qm 3), .ref (qm 4), .ref (qm 5), .ref (qm 6), .ref (qm 7), .int Pp.1, .ref (qm 8), .ref (qm 9), .ref (qm 10), .ref (qm 11), .ref (qm 12), .ref (qm 13), .ref (qm 14), .int 0, .ref (qm 15), .long oc]) := by rw [eF91, va_up_ne _ _ (pl_ne hFo_75 hFqm12_75 rfl)]; exact hFo_75
            have hFqm0_91 : F91 (qm 0) = cI (cy 1) 10 Mm.1 := by rw [eF91, va_up_ne _ _ (pl_ne hFqm0_75 hFqm12_75 rfl)]; exact hFqm0_75
            have hFqm1_91 : F91 (qm 1) = cJ (cy 2) 10 Mm.2 := by rw [eF91, va_up_ne _ _ (pl_ne hFqm1_75 hFqm12_75 rfl)]; exact hFqm1_75
            have hFqm2_91 : F91 (qm 2) = cD (cy 0) 6 Dd.1 := by rw [eF91, va_up_ne _ _ (pl_ne hFqm2_75 hFqm12_75 rfl)]; exact hFqm2_75
            have hFqm3_91 : F91 (qm 3) = cD (cy 0) 6 Dd.2.1 := by rw [eF91, va_up_ne _ _ (pl_ne hFqm3_75 hFqm12_75 rfl)]; exact hFqm3_75
            have hFqm4_91 : F91 (qm 4) = cD (cy 0) 6 Dd.2.2.1 := by rw [eF91, va_up_ne _ _ (pl_ne hFqm4_75 hFqm12_75 rfl)]; exact hFqm4_75
            have hFqm5_91 : F91 (qm 5) = cJ (cy 2) 6 Dd.2.2.2 := by rw [eF91, va_up_ne _ _ (pl_ne hFqm5_75 hFqm12_75 rfl)]; exact hFqm5_75
            have hFqm6_91 : F91 (qm 6) = cI (cy 1) 8 Sl.1 := by rw [eF91, va_up_ne _ _ (pl_ne hFqm6_75 hFqm12_75 rfl)]; exact hFqm6_75
            have hFqm7_91 : F91 (qm 7) = cJ (cy 2) 128 Sl.2 := by rw [eF91, va_up_ne _ _ (pl_ne hFqm7_75 hFqm12_75 rfl)]; exact hFqm7_75
            have hFqm8_91 : F91 (qm 8) = cI (cy 1) 30 Pp.2.1 := by rw [eF91, va_up_ne _ _ (pl_ne hFqm8_75 hFqm12_75 rfl)]; exact hFqm8_75
            have hFqm9_91 : F91 (qm 9) = cI (cy 3) 30 Pp.2.2 := by rw [eF91, va_up_ne _ _ (pl_ne hFqm9_75 hFqm12_75 rfl)]; exact hFqm9_75
            have hFqm10_91 : F91 (qm 10) = cI (cy 1) 5 Kr.1 := by rw [eF91, va_up_ne _ _ (pl_ne hFqm10_75 hFqm12_75 rfl)]; exact hFqm10_75
            have hFqm11_91 : F91 (qm 11) = cI (cy 3) 5 Kr.2.1 := by rw [eF91, va_up_ne _ _ (pl_ne hFqm11_75 hFqm12_75 rfl)]; exact hFqm11_75
            have hFqm12_91 : F91 (qm 12) = cI (cy 1) 60 (upd Kr.2.2 (12 * j_rk + q_i) (nI ks)) := by rw [eF91]; exact va_up_self _ _ _
            have hFqm13_91 : F91 (qm 13) = cI (cy 1) 4 Bk.1 := by rw [eF91, va_up_ne _ _ (pl_ne hFqm13_75 hFqm12_75 rfl)]; exact hFqm13_75
            have hFqm14_91 : F91 (qm 14) = cD (cy 0) 4 Bk.2 := by rw [eF91, va_up_ne _ _ (pl_ne hFqm14_75 hFqm12_75 rfl)]; exact hFqm14_75
            have hFqm15_91 : F91 (qm 15) = cI (cy 1) 6 Xx.2 := by rw [eF91, va_up_ne _ _ (pl_ne hFqm15_75 hFqm12_75 rfl)]; exact hFqm15_75
            refine lv_aload_n hx hb dX9_put_93 rfl (lv_at hl 0 rfl) ?_
            refine lv_iconst (v := 1) hx hb dX9_put_94 (by decide) ?_
            refine va_calli (va_runV (As := [.int 1]) (rest := []) ⟨hx, hb, hml, hown, hts⟩ (c9_answers_0 l G cy L F91 H.size o qm 0 Pp.1 oc hmo hFo_91 Xx.2 hm15 hFqm15_91 1) (cwV 1 hts gX9_put_X9_answers rfl rfl rfl (by decide +kernel) ⟨Nat.le_of_ble_eq_true rfl, Nat.le_of_ble_eq_true rfl⟩) (preV_of okQ (⟨rfl, hP, hK, hD.top⟩) (pl_recv hK hP (ci := 8) rfl hmo hFo_91)) rfl rfl hl.1 rfl (lv_room (Nat.le_of_ble_eq_true rfl)) dX9_put_95 ⟨Nat.le_of_ble_eq_true rfl, Nat.le_of_ble_eq_true rfl⟩) hS (fun q _ h => pl_free hD hS hA q h) (pl_free hD hS hA) (fun r93 F92 t H1 locs ht hvm hw hP1 hz1 hk1 hS => ?_)
            have hP1 : va_P G vwCl (va_pl L F92) t.heap := hP1
            rw [ht] at hP1
            have hP := hP1
            generalize H1 = H at hP hS ⊢
            obtain ⟨hqr93, eF92⟩ := hw
            have hFo_F92 : F92 o = .inr (8, [.int 0, .ref (qm 0), .ref (qm 1), .ref (qm 2), .ref (qm 3), .ref (qm 4), .ref (qm 5), .ref (qm 6), .ref (qm 7), .int Pp.1, .ref (qm 8), .ref (qm 9), .ref (qm 10), .ref (qm 11), .ref (qm 12), .ref (qm 13), .ref (qm 14), .int 0, .ref (qm 15), .long oc]) := by rw [eF92]; exact hFo_91
            have hFqm0_F92 : F92 (qm 0) = cI (cy 1) 10 Mm.1 := by rw [eF92]; exact hFqm0_91
            have hFqm1_F92 : F92 (qm 1) = cJ (cy 2) 10 Mm.2 := by rw [eF92]; exact hFqm1_91
            have hFqm2_F92 : F92 (qm 2) = cD (cy 0) 6 Dd.1 := by rw [eF92]; exact hFqm2_91
            have hFqm3_F92 : F92 (qm 3) = cD (cy 0) 6 Dd.2.1 := by rw [eF92]; exact hFqm3_91
            have hFqm4_F92 : F92 (qm 4) = cD (cy 0) 6 Dd.2.2.1 := by rw [eF92]; exact hFqm4_91
            have hFqm5_F92 : F92 (qm 5) = cJ (cy 2) 6 Dd.2.2.2 := by rw [eF92]; exact hFqm5_91
            have hFqm6_F92 : F92 (qm 6) = cI (cy 1) 8 Sl.1 := by rw [eF92]; exact hFqm6_91
            have hFqm7_F92 : F92 (qm 7) = cJ (cy 2) 128 Sl.2 := by rw [eF92]; exact hFqm7_91
            have hFqm8_F92 : F92 (qm 8) = cI (cy 1) 30 Pp.2.1 := by rw [eF92]; exact hFqm8_91
            have hFqm9_F92 : F92 (qm 9) = cI (cy 3) 30 Pp.2.2 := by rw [eF92]; exact hFqm9_91
            have hFqm10_F92 : F92 (qm 10) = cI (cy 1) 5 Kr.1 := by rw [eF92]; exact hFqm10_91
            have hFqm11_F92 : F92 (qm 11) = cI (cy 3) 5 Kr.2.1 := by rw [eF92]; exact hFqm11_91
            have hFqm12_F92 : F92 (qm 12) = cI (cy 1) 60 (upd Kr.2.2 (12 * j_rk + q_i) (nI ks)) := by rw [eF92]; exact hFqm12_91
            have hFqm13_F92 : F92 (qm 13) = cI (cy 1) 4 Bk.1 := by rw [eF92]; exact hFqm13_91
            have hFqm14_F92 : F92 (qm 14) = cD (cy 0) 4 Bk.2 := by rw [eF92]; exact hFqm14_91
            have hFqm15_F92 : F92 (qm 15) = cI (cy 1) 6 Xx.2 := by rw [eF92]; exact hFqm15_91
            have hr93 := hqr93
            exact W.iret (v := r93) hx hb hr (fun t ht hW => ⟨⟨r93, F92, rfl, (by subst hr93 ev89 ev86 ev78; have hc57 := c79; have hc66 := c87; have hsp : sp_put Pp Kr Xx (nI j_rk) (nI q_i) (nI ks) = (1, (Kr.1, Kr.2.1, upd Kr.2.2 (12 * j_rk + q_i) (nI ks)), goodX Xx) := (by unfold sp_put; rw [hi_rk]; exact (if_pos (Or.inr ⟨by rw [nI_toInt (by omega)]; omega, by rw [nI_toInt (by omega)]; exact hks⟩)).trans ((if_pos hp_i).trans ((if_neg (fun q => hc66 (by have := q.2.1; rw [nI_tn (by omega)] at this; exact this))).trans (by rw [nI_tn (q := q_i) (by omega)])))); rw [hsp]; exact ⟨rfl, (by exact ⟨⟨_, _, hmo, hFo_F92⟩, ⟨hm0, hFqm0_F92⟩, ⟨hm1, hFqm1_F92⟩, ⟨hm2, hFqm2_F92⟩, ⟨hm3, hFqm3_F92⟩, ⟨hm4, hFqm4_F92⟩, ⟨hm5, hFqm5_F92⟩, ⟨hm6, hFqm6_F92⟩, ⟨hm7, hFqm7_F92⟩, ⟨hm8, hFqm8_F92⟩, ⟨hm9, hFqm9_F92⟩, ⟨hm10, hFqm10_F92⟩, ⟨hm11, hFqm11_F92⟩, ⟨hm12, hFqm12_F92⟩, ⟨hm13, hFqm13_F92⟩, ⟨hm14, hFqm14_F92⟩, ⟨hm15, hFqm15_F92⟩, hne⟩)⟩), (by show va_P _ _ _ t.heap; rw [ht]; exact hP)⟩, hS.F ht⟩) hS.2.2 dX9_put_98
          · refine lv_aload_n hx hb dX9_put_69 rfl (lv_at hl 0 rfl) ?_
            refine lv_iconst (v := 3) hx hb dX9_put_70 (by decide) ?_
            refine pg_put (ci := 8) (v := .int 3) (ty := .int) (C := RX9) (T := TX9) (N := 20) hx hb hts hinX9 tyX9 tyX9_ok nmX9 hown hK hP hD hS hmo hFo_75 rfl 17 (by decide) (hts (.fieldLink RX9 65 "RopeDrumsModel" "failed" "I") (by decide +kernel)) (fun _ h9 => h9) rfl (by decide +kernel) (rfl) (rfl) (Nat.le_of_ble_eq_true rfl) dX9_put_71 (fun H locs F94 eF94 hP hS => ?_)
            have eF94 : F94 = va_up F75 o (.inr (8, [.int 0, .ref (qm 0), .ref (qm 1), .ref (qm 2), .ref (qm 3), .ref (qm 4), .ref (qm 5), .ref (qm 6), .ref (qm 7), .int Pp.1, .ref (qm 8), .ref (qm 9), .ref (qm 10), .ref (qm 11), .ref (qm 12), .ref (qm 13), .ref (qm 14), .int 3, .ref (qm 15), .long oc])) := eF94
            have hFo_94 : F94 o = .inr (8, [.int 0, .ref (qm 0), .ref (qm 1), .ref (qm 2), .ref (qm 3), .ref (qm 4), .ref (qm 5), .ref (qm 6), .ref (qm 7), .int Pp.1, .ref (qm 8), .ref (qm 9), .ref (qm 10), .ref (qm 11), .ref (qm 12), .ref (qm 13), .ref (qm 14), .int 3, .ref (qm 15), .long oc]) := by rw [eF94]; exact va_up_self _ _ _
            have hFqm0_94 : F94 (qm 0) = cI (cy 1) 10 Mm.1 := by rw [eF94, va_up_ne _ _ (pl_ne hFqm0_75 hFo_75 rfl)]; exact hFqm0_75
            have hFqm1_94 : F94 (qm 1) = cJ (cy 2) 10 Mm.2 := by rw [eF94, va_up_ne _ _ (pl_ne hFqm1_75 hFo_75 rfl)]; exact hFqm1_75
            have hFqm2_94 : F94 (qm 2) = cD (cy 0) 6 Dd.1 := by rw [eF94, va_up_ne _ _ (pl_ne hFqm2_75 hFo_75 rfl)]; exact hFqm2_75
            have hFqm3_94 : F94 (qm 3) = cD (cy 0) 6 Dd.2.1 := by rw [eF94, va_up_ne _ _ (pl_ne hFqm3_75 hFo_75 rfl)]; exact hFqm3_75
            have hFqm4_94 : F94 (qm 4) = cD (cy 0) 6 Dd.2.2.1 := by rw [eF94, va_up_ne _ _ (pl_ne hFqm4_75 hFo_75 rfl)]; exact hFqm4_75
            have hFqm5_94 : F94 (qm 5) = cJ (cy 2) 6 Dd.2.2.2 := by rw [eF94, va_up_ne _ _ (pl_ne hFqm5_75 hFo_75 rfl)]; exact hFqm5_75
            have hFqm6_94 : F94 (qm 6) = cI (cy 1) 8 Sl.1 := by rw [eF94, va_up_ne _ _ (pl_ne hFqm6_75 hFo_75 rfl)]; exact hFqm6_75
            have hFqm7_94 : F94 (qm 7) = cJ (cy 2) 128 Sl.2 := by rw [eF94, va_up_ne _ _ (pl_ne hFqm7_75 hFo_75 rfl)]; exact hFqm7_75
            have hFqm8_94 : F94 (qm 8) = cI (cy 1) 30 Pp.2.1 := by rw [eF94, va_up_ne _ _ (pl_ne hFqm8_75 hFo_75 rfl)]; exact hFqm8_75
            have hFqm9_94 : F94 (qm 9) = cI (cy 3) 30 Pp.2.2 := by rw [eF94, va_up_ne _ _ (pl_ne hFqm9_75 hFo_75 rfl)]; exact hFqm9_75
            have hFqm10_94 : F94 (qm 10) = cI (cy 1) 5 Kr.1 := by rw [eF94, va_up_ne _ _ (pl_ne hFqm10_75 hFo_75 rfl)]; exact hFqm10_75
            have hFqm11_94 : F94 (qm 11) = cI (cy 3) 5 Kr.2.1 := by rw [eF94, va_up_ne _ _ (pl_ne hFqm11_75 hFo_75 rfl)]; exact hFqm11_75
            have hFqm12_94 : F94 (qm 12) = cI (cy 1) 60 Kr.2.2 := by rw [eF94, va_up_ne _ _ (pl_ne hFqm12_75 hFo_75 rfl)]; exact hFqm12_75
            have hFqm13_94 : F94 (qm 13) = cI (cy 1) 4 Bk.1 := by rw [eF94, va_up_ne _ _ (pl_ne hFqm13_75 hFo_75 rfl)]; exact hFqm13_75
            have hFqm14_94 : F94 (qm 14) = cD (cy 0) 4 Bk.2 := by rw [eF94, va_up_ne _ _ (pl_ne hFqm14_75 hFo_75 rfl)]; exact hFqm14_75
            have hFqm15_94 : F94 (qm 15) = cI (cy 1) 6 Xx.2 := by rw [eF94, va_up_ne _ _ (pl_ne hFqm15_75 hFo_75 rfl)]; exact hFqm15_75
            refine lv_aload_n hx hb dX9_put_74 rfl (lv_at hl 0 rfl) ?_
            refine pg_get (ci := 8) (C := RX9) (T := TX9) (N := 20) hx hb hts hinX9 hown hK hP hmo hFo_94 rfl 17 (by decide) (hts (.fieldLink RX9 65 "RopeDrumsModel" "failed" "I") (by decide +kernel)) (fun _ h9 => h9) rfl dX9_put_75 ?_
            refine lv_if_ne (tgt := 93) hx hb dX9_put_78 (by decide) (fun c95 => ?_) (fun c95 => absurd c95 (by decide))
            refine lv_aload_n hx hb dX9_put_93 rfl (lv_at hl 0 rfl) ?_
            refine lv_iconst (v := 1) hx hb dX9_put_94 (by decide) ?_
            refine va_calli (va_runV (As := [.int 1]) (rest := []) ⟨hx, hb, hml, hown, hts⟩ (c9_answers_3 l G cy L F94 H.size o qm 0 Pp.1 oc hmo hFo_94 Xx.2 hm15 hFqm15_94 1) (cwV 1 hts gX9_put_X9_answers rfl rfl rfl (by decide +kernel) ⟨Nat.le_of_ble_eq_true rfl, Nat.le_of_ble_eq_true rfl⟩) (preV_of okQ (⟨rfl, hP, hK, hD.top⟩) (pl_recv hK hP (ci := 8) rfl hmo hFo_94)) rfl rfl hl.1 rfl (lv_room (Nat.le_of_ble_eq_true rfl)) dX9_put_95 ⟨Nat.le_of_ble_eq_true rfl, Nat.le_of_ble_eq_true rfl⟩) hS (fun q _ h => pl_free hD hS hA q h) (pl_free hD hS hA) (fun r97 F96 t H1 locs ht hvm hw hP1 hz1 hk1 hS => ?_)
            have hP1 : va_P G vwCl (va_pl L F96) t.heap := hP1
            rw [ht] at hP1
            have hP := hP1
            generalize H1 = H at hP hS ⊢
            obtain ⟨hqr97, eF96⟩ := hw
            have eF96 : F96 = va_up F94 (qm 15) (cI (cy 1) 6 (upd Xx.2 3 (Xx.2 3 + 1))) := eF96
            have hFo_97 : F96 o = .inr (8, [.int 0, .ref (qm 0), .ref (qm 1), .ref (qm 2), .ref (qm 3), .ref (qm 4), .ref (qm 5), .ref (qm 6), .ref (qm 7), .int Pp.1, .ref (qm 8), .ref (qm 9), .ref (qm 10), .ref (qm 11), .ref (qm 12), .ref (qm 13), .ref (qm 14), .int 3, .ref (qm 15), .long oc]) := by rw [eF96, va_up_ne _ _ (pl_ne hFo_94 hFqm15_94 rfl)]; exact hFo_94
            have hFqm0_97 : F96 (qm 0) = cI (cy 1) 10 Mm.1 := by rw [eF96, va_up_ne _ _ (pl_ne hFqm0_94 hFqm15_94 rfl)]; exact hFqm0_94
            have hFqm1_97 : F96 (qm 1) = cJ (cy 2) 10 Mm.2 := by rw [eF96, va_up_ne _ _ (pl_ne hFqm1_94 hFqm15_94 rfl)]; exact hFqm1_94
            have hFqm2_97 : F96 (qm 2) = cD (cy 0) 6 Dd.1 := by rw [eF96, va_up_ne _ _ (pl_ne hFqm2_94 hFqm15_94 rfl)]; exact hFqm2_94
            have hFqm3_97 : F96 (qm 3) = cD (cy 0) 6 Dd.2.1 := by rw [eF96, va_up_ne _ _ (pl_ne hFqm3_94 hFqm15_94 rfl)]; exact hFqm3_94
            have hFqm4_97 : F96 (qm 4) = cD (cy 0) 6 Dd.2.2.1 := by rw [eF96, va_up_ne _ _ (pl_ne hFqm4_94 hFqm15_94 rfl)]; exact hFqm4_94
            have hFqm5_97 : F96 (qm 5) = cJ (cy 2) 6 Dd.2.2.2 := by rw [eF96, va_up_ne _ _ (pl_ne hFqm5_94 hFqm15_94 rfl)]; exact hFqm5_94
            have hFqm6_97 : F96 (qm 6) = cI (cy 1) 8 Sl.1 := by rw [eF96, va_up_ne _ _ (pl_ne hFqm6_94 hFqm15_94 rfl)]; exact hFqm6_94
            have hFqm7_97 : F96 (qm 7) = cJ (cy 2) 128 Sl.2 := by rw [eF96, va_up_ne _ _ (pl_ne hFqm7_94 hFqm15_94 rfl)]; exact hFqm7_94
            have hFqm8_97 : F96 (qm 8) = cI (cy 1) 30 Pp.2.1 := by rw [eF96, va_up_ne _ _ (pl_ne hFqm8_94 hFqm15_94 rfl)]; exact hFqm8_94
            have hFqm9_97 : F96 (qm 9) = cI (cy 3) 30 Pp.2.2 := by rw [eF96, va_up_ne _ _ (pl_ne hFqm9_94 hFqm15_94 rfl)]; exact hFqm9_94
            have hFqm10_97 : F96 (qm 10) = cI (cy 1) 5 Kr.1 := by rw [eF96, va_up_ne _ _ (pl_ne hFqm10_94 hFqm15_94 rfl)]; exact hFqm10_94
            have hFqm11_97 : F96 (qm 11) = cI (cy 3) 5 Kr.2.1 := by rw [eF96, va_up_ne _ _ (pl_ne hFqm11_94 hFqm15_94 rfl)]; exact hFqm11_94
            have hFqm12_97 : F96 (qm 12) = cI (cy 1) 60 Kr.2.2 := by rw [eF96, va_up_ne _ _ (pl_ne hFqm12_94 hFqm15_94 rfl)]; exact hFqm12_94
            have hFqm13_97 : F96 (qm 13) = cI (cy 1) 4 Bk.1 := by rw [eF96, va_up_ne _ _ (pl_ne hFqm13_94 hFqm15_94 rfl)]; exact hFqm13_94
            have hFqm14_97 : F96 (qm 14) = cD (cy 0) 4 Bk.2 := by rw [eF96, va_up_ne _ _ (pl_ne hFqm14_94 hFqm15_94 rfl)]; exact hFqm14_94
            have hFqm15_97 : F96 (qm 15) = cI (cy 1) 6 (upd Xx.2 3 (Xx.2 3 + 1)) := by rw [eF96]; exact va_up_self _ _ _
            have hr97 := hqr97
            exact W.iret (v := r97) hx hb hr (fun t ht hW => ⟨⟨r97, F96, rfl, (by subst hr97 ev86 ev78; have hc57 := c79; have hc66 := c87; have hsp : sp_put Pp Kr Xx (nI j_rk) (nI q_i) (nI ks) = (-10 - 3, Kr, failX Xx 3) := (by unfold sp_put; rw [hi_rk]; exact (if_pos (Or.inr ⟨by rw [nI_toInt (by omega)]; omega, by rw [nI_toInt (by omega)]; exact hks⟩)).trans ((if_pos hp_i).trans (if_pos ⟨nI_neg (by omega), by rw [nI_tn (by omega)]; exact hc66, hc57⟩))); rw [hsp]; exact ⟨rfl, (by exact ⟨⟨_, _, hmo, hFo_97⟩, ⟨hm0, hFqm0_97⟩, ⟨hm1, hFqm1_97⟩, ⟨hm2, hFqm2_97⟩, ⟨hm3, hFqm3_97⟩, ⟨hm4, hFqm4_97⟩, ⟨hm5, hFqm5_97⟩, ⟨hm6, hFqm6_97⟩, ⟨hm7, hFqm7_97⟩, ⟨hm8, hFqm8_97⟩, ⟨hm9, hFqm9_97⟩, ⟨hm10, hFqm10_97⟩, ⟨hm11, hFqm11_97⟩, ⟨hm12, hFqm12_97⟩, ⟨hm13, hFqm13_97⟩, ⟨hm14, hFqm14_97⟩, ⟨hm15, hFqm15_97⟩, hne⟩)⟩), (by show va_P _ _ _ t.heap; rw [ht]; exact hP)⟩, hS.F ht⟩) hS.2.2 dX9_put_98
    · skip
      refine lv_aload_n hx hb dX9_put_0 rfl (lv_at hl 0 rfl) ?_
      refine lv_iconst (v := 0) hx hb dX9_put_1 (by decide) ?_
      refine pg_put (ci := 8) (v := .int 0) (ty := .int) (C := RX9) (T := TX9) (N := 20) hx hb hts hinX9 tyX9 tyX9_ok nmX9 hown hK hP hD hS hmo hFo rfl 0 (by decide) (hts (.fieldLink RX9 61 "RopeDrumsModel" "thrown" "I") (by decide +kernel)) (fun _ h9 => h9) rfl (by decide +kernel) (rfl) (rfl) (Nat.le_of_ble_eq_true rfl) dX9_put_2 (fun H locs F98 eF98 hP hS => ?_)
      have eF98 : F98 = va_up F o (.inr (8, [.int 0, .ref (qm 0), .ref (qm 1), .ref (qm 2), .ref (qm 3), .ref (qm 4), .ref (qm 5), .ref (qm 6), .ref (qm 7), .int Pp.1, .ref (qm 8), .ref (qm 9), .ref (qm 10), .ref (qm 11), .ref (qm 12), .ref (qm 13), .ref (qm 14), .int Xx.1, .ref (qm 15), .long oc])) := eF98
      have hFo_98 : F98 o = .inr (8, [.int 0, .ref (qm 0), .ref (qm 1), .ref (qm 2), .ref (qm 3), .ref (qm 4), .ref (qm 5), .ref (qm 6), .ref (qm 7), .int Pp.1, .ref (qm 8), .ref (qm 9), .ref (qm 10), .ref (qm 11), .ref (qm 12), .ref (qm 13), .ref (qm 14), .int Xx.1, .ref (qm 15), .long oc]) := by rw [eF98]; exact va_up_self _ _ _
      have hFqm0_98 : F98 (qm 0) = cI (cy 1) 10 Mm.1 := by rw [eF98, va_up_ne _ _ (pl_ne hF0 hFo rfl)]; exact hF0
      have hFqm1_98 : F98 (qm 1) = cJ (cy 2) 10 Mm.2 := by rw [eF98, va_up_ne _ _ (pl_ne hF1 hFo rfl)]; exact hF1
      have hFqm2_98 : F98 (qm 2) = cD (cy 0) 6 Dd.1 := by rw [eF98, va_up_ne _ _ (pl_ne hF2 hFo rfl)]; exact hF2
      have hFqm3_98 : F98 (qm 3) = cD (cy 0) 6 Dd.2.1 := by rw [eF98, va_up_ne _ _ (pl_ne hF3 hFo rfl)]; exact hF3
      have hFqm4_98 : F98 (qm 4) = cD (cy 0) 6 Dd.2.2.1 := by rw [eF98, va_up_ne _ _ (pl_ne hF4 hFo rfl)]; exact hF4
      have hFqm5_98 : F98 (qm 5) = cJ (cy 2) 6 Dd.2.2.2 := by rw [eF98, va_up_ne _ _ (pl_ne hF5 hFo rfl)]; exact hF5
      have hFqm6_98 : F98 (qm 6) = cI (cy 1) 8 Sl.1 := by rw [eF98, va_up_ne _ _ (pl_ne hF6 hFo rfl)]; exact hF6
      have hFqm7_98 : F98 (qm 7) = cJ (cy 2) 128 Sl.2 := by rw [eF98, va_up_ne _ _ (pl_ne hF7 hFo rfl)]; exact hF7
      have hFqm8_98 : F98 (qm 8) = cI (cy 1) 30 Pp.2.1 := by rw [eF98, va_up_ne _ _ (pl_ne hF8 hFo rfl)]; exact hF8
      have hFqm9_98 : F98 (qm 9) = cI (cy 3) 30 Pp.2.2 := by rw [eF98, va_up_ne _ _ (pl_ne hF9 hFo rfl)]; exact hF9
      have hFqm10_98 : F98 (qm 10) = cI (cy 1) 5 Kr.1 := by rw [eF98, va_up_ne _ _ (pl_ne hF10 hFo rfl)]; exact hF10
      have hFqm11_98 : F98 (qm 11) = cI (cy 3) 5 Kr.2.1 := by rw [eF98, va_up_ne _ _ (pl_ne hF11 hFo rfl)]; exact hF11
      have hFqm12_98 : F98 (qm 12) = cI (cy 1) 60 Kr.2.2 := by rw [eF98, va_up_ne _ _ (pl_ne hF12 hFo rfl)]; exact hF12
      have hFqm13_98 : F98 (qm 13) = cI (cy 1) 4 Bk.1 := by rw [eF98, va_up_ne _ _ (pl_ne hF13 hFo rfl)]; exact hF13
      have hFqm14_98 : F98 (qm 14) = cD (cy 0) 4 Bk.2 := by rw [eF98, va_up_ne _ _ (pl_ne hF14 hFo rfl)]; exact hF14
      have hFqm15_98 : F98 (qm 15) = cI (cy 1) 6 Xx.2 := by rw [eF98, va_up_ne _ _ (pl_ne hF15 hFo rfl)]; exact hF15
      refine lv_iload_n hx hb dX9_put_5 rfl (lv_at hl 1 rfl) ?_
      refine vp_callSi (W.runS (As := [.int (nI j_rk)]) (rest := []) ⟨hx, hb, hml, hown, hts⟩ (c9_isRack l (nI j_rk)) (va_cwS 1 hts gX9_put_X9_isRack rfl rfl rfl (by decide +kernel) ⟨Nat.le_of_ble_eq_true rfl, Nat.le_of_ble_eq_true rfl⟩) (preS_of okT (trivial)) rfl rfl hl.1 rfl (lv_room (Nat.le_of_ble_eq_true rfl)) dX9_put_6 ⟨Nat.le_of_ble_eq_true rfl, Nat.le_of_ble_eq_true rfl⟩) (fun r99 hr99 => ?_)
      rw [isx1 hi_rk] at hr99
      subst hr99
      refine lv_if_eq (tgt := 25) hx hb dX9_put_9 (by decide) (fun c100 => absurd c100 (by decide)) (fun c100 => ?_)
      refine lv_iload_n hx hb dX9_put_12 rfl (lv_at hl 3 rfl) ?_
      refine lv_iconst (v := -1) hx hb dX9_put_13 (by decide) ?_
      refine lv_icmp_eq (tgt := 29) hx hb dX9_put_14 (by decide) (fun c101 => absurd c101 (hsp1)) (fun c101 => ?_)
      refine lv_aload_n hx hb dX9_put_17 rfl (lv_at hl 0 rfl) ?_
      refine lv_iload_n hx hb dX9_put_18 rfl (lv_at hl 3 rfl) ?_
      refine vp_callSi (W.runV (As := [.int sp]) (rest := []) ⟨hx, hb, hml, hown, hts⟩ (c9_isSpool l G cy L F98 o qm 0 Pp.1 Xx.1 oc hmo hFo_98 sp hp30.1) (cwV 1 hts gX9_put_X9_isSpool rfl rfl rfl (by decide +kernel) ⟨Nat.le_of_ble_eq_true rfl, Nat.le_of_ble_eq_true rfl⟩) (preV_of okP (⟨hP, hK, hD.top⟩) (pl_recv hK hP (ci := 8) rfl hmo hFo_98)) rfl rfl hl.1 rfl (lv_room (Nat.le_of_ble_eq_true rfl)) dX9_put_19 ⟨Nat.le_of_ble_eq_true rfl, Nat.le_of_ble_eq_true rfl⟩) (fun r102 hr102 => ?_)
      rw [if_neg hsp2] at hr102
      subst hr102
      refine lv_if_ne (tgt := 29) hx hb dX9_put_22 (by decide) (fun c103 => absurd (by decide) c103) (fun c103 => ?_)
      refine lv_sipush (v := -1001) hx hb dX9_put_25 (by decide) ?_
      exact W.iret (v := -1001) hx hb hr (fun t ht hW => ⟨⟨-1001, F98, rfl, (by have hsp : sp_put Pp Kr Xx (nI j_rk) i sp = (-1001, Kr, Xx) := (by unfold sp_put; rw [hi_rk]; exact if_neg (fun q => q.elim hsp1 hsp2)); rw [hsp]; exact ⟨rfl, (by exact ⟨⟨_, _, hmo, hFo_98⟩, ⟨hm0, hFqm0_98⟩, ⟨hm1, hFqm1_98⟩, ⟨hm2, hFqm2_98⟩, ⟨hm3, hFqm3_98⟩, ⟨hm4, hFqm4_98⟩, ⟨hm5, hFqm5_98⟩, ⟨hm6, hFqm6_98⟩, ⟨hm7, hFqm7_98⟩, ⟨hm8, hFqm8_98⟩, ⟨hm9, hFqm9_98⟩, ⟨hm10, hFqm10_98⟩, ⟨hm11, hFqm11_98⟩, ⟨hm12, hFqm12_98⟩, ⟨hm13, hFqm13_98⟩, ⟨hm14, hFqm14_98⟩, ⟨hm15, hFqm15_98⟩, hne⟩)⟩), (by show va_P _ _ _ t.heap; rw [ht]; exact hP)⟩, hS.F ht⟩) hS.2.2 dX9_put_28

set_option maxHeartbeats 8000000 in
set_option maxRecDepth 100000 in
theorem n_at (l : Launch) (G : va_G) (cy : Nat → ClassId) (L : List Nat) (F : Nat → va_E) (sz : Nat) (o : Nat) (qm : Nat → Nat) (Mm : SM) (Dd : SD) (Sl : SL) (Pp : SP) (Kr : SR) (Bk : SB) (Xx : SX) (hR : RepM cy L o qm Mm Dd Sl Pp Kr Bk Xx F) (hV : Val Mm Dd Sl Pp Kr Bk) (rk i : Int32)  : Met l yX9_at wsX9_at ({ frames := 2, cells := 0, slots := 0, locals := 47 }) (va_Pc [.ref o, .int rk, .int i] (fun U => bQ G cy L F sz U U.heap)) (va_Qi (fun (r : Int32) (F' : Nat → va_E) => r = (sp_at Kr Xx rk i).1 ∧ RepM cy L o qm Mm Dd Sl Pp Kr Bk (sp_at Kr Xx rk i).2 F') (fun F' t => va_P G vwCl (va_pl L F') t.heap) (va_A (va_pl L F) sz)) 0 0 (va_A (va_pl L F) sz) := by
  refine Met.ofW (cc := cX9_at) (maxL := 3) (ret := (some .int)) (by decide) rfl ?_
  intro p e s m args below meth c s₁ B hml hv
  obtain ⟨rfl, hsz, hP, hK, hD0⟩ := hv
  have hx := B.exec
  have hb := B.bytes
  have hr := B.returns
  have hts := atoms_spec (ws := wsX9_at) B.pre
  have hown : s.vm.findClass RX9 = some m.cls := findClass_of_methodNamed B.named
  have hlocks := B.notSynchronized
  have hinX9 : ∀ w ∈ wsX90, w ∈ wsX9_at := by decide +kernel
  subst hsz
  have hD := hD0.self F s.heap.size
  generalize hAe : va_A (va_pl L F) s.heap.size = A at hD ⊢
  have hA : ∀ q : Nat, s.heap.size ≤ q → A q := fun q h => by rw [← hAe]; exact Or.inr h
  have hS : va_S A s.heap s.heap [] := va_S.rf
  obtain ⟨⟨th, oc, hmo, hFo⟩, ⟨hm0, hF0⟩, ⟨hm1, hF1⟩, ⟨hm2, hF2⟩, ⟨hm3, hF3⟩, ⟨hm4, hF4⟩, ⟨hm5, hF5⟩, ⟨hm6, hF6⟩, ⟨hm7, hF7⟩, ⟨hm8, hF8⟩, ⟨hm9, hF9⟩, ⟨hm10, hF10⟩, ⟨hm11, hF11⟩, ⟨hm12, hF12⟩, ⟨hm13, hF13⟩, ⟨hm14, hF14⟩, ⟨hm15, hF15⟩, hne⟩ := id hR
  obtain ⟨hVM, hVD, hVS, hVP, hVK, hVB⟩ := hV
  have hl := lv_entry ([.ref o, .int rk, .int i]) (n := 3) (Nat.le_of_ble_eq_true rfl)
  rw [lg_entry_eq]
  generalize (lg_sl ([.ref o, .int rk, .int i]) ++ List.replicate (3 - (lg_sl ([.ref o, .int rk, .int i])).length) Slot.unset).toArray = ls at hl ⊢
  have hl : lv_has ls 3 [(0, .ref o), (1, .int rk), (2, .int i)] := hl
  rcases ixc 5 rk with hi_rk | ⟨j_rk, hj_rk, hi_rk, ei_rk⟩
  · refine lv_aload_n hx hb dX9_at_0 rfl (lv_at hl 0 rfl) ?_
    refine lv_iconst (v := 0) hx hb dX9_at_1 (by decide) ?_
    refine pg_put (ci := 8) (v := .int 0) (ty := .int) (C := RX9) (T := TX9) (N := 20) hx hb hts hinX9 tyX9 tyX9_ok nmX9 hown hK hP hD hS hmo hFo rfl 0 (by decide) (hts (.fieldLink RX9 61 "RopeDrumsModel" "thrown" "I") (by decide +kernel)) (fun _ h9 => h9) rfl (by decide +kernel) (rfl) (rfl) (Nat.le_of_ble_eq_true rfl) dX9_at_2 (fun H locs F1 eF1 hP hS => ?_)
    have eF1 : F1 = va_up F o (.inr (8, [.int 0, .ref (qm 0), .ref (qm 1), .ref (qm 2), .ref (qm 3), .ref (qm 4), .ref (qm 5), .ref (qm 6), .ref (qm 7), .int Pp.1, .ref (qm 8), .ref (qm 9), .ref (qm 10), .ref (qm 11), .ref (qm 12), .ref (qm 13), .ref (qm 14), .int Xx.1, .ref (qm 15), .long oc])) := eF1
    have hFo_1 : F1 o = .inr (8, [.int 0, .ref (qm 0), .ref (qm 1), .ref (qm 2), .ref (qm 3), .ref (qm 4), .ref (qm 5), .ref (qm 6), .ref (qm 7), .int Pp.1, .ref (qm 8), .ref (qm 9), .ref (qm 10), .ref (qm 11), .ref (qm 12), .ref (qm 13), .ref (qm 14), .int Xx.1, .ref (qm 15), .long oc]) := by rw [eF1]; exact va_up_self _ _ _
    have hFqm0_1 : F1 (qm 0) = cI (cy 1) 10 Mm.1 := by rw [eF1, va_up_ne _ _ (pl_ne hF0 hFo rfl)]; exact hF0
    have hFqm1_1 : F1 (qm 1) = cJ (cy 2) 10 Mm.2 := by rw [eF1, va_up_ne _ _ (pl_ne hF1 hFo rfl)]; exact hF1
    have hFqm2_1 : F1 (qm 2) = cD (cy 0) 6 Dd.1 := by rw [eF1, va_up_ne _ _ (pl_ne hF2 hFo rfl)]; exact hF2
    have hFqm3_1 : F1 (qm 3) = cD (cy 0) 6 Dd.2.1 := by rw [eF1, va_up_ne _ _ (pl_ne hF3 hFo rfl)]; exact hF3
    have hFqm4_1 : F1 (qm 4) = cD (cy 0) 6 Dd.2.2.1 := by rw [eF1, va_up_ne _ _ (pl_ne hF4 hFo rfl)]; exact hF4
    have hFqm5_1 : F1 (qm 5) = cJ (cy 2) 6 Dd.2.2.2 := by rw [eF1, va_up_ne _ _ (pl_ne hF5 hFo rfl)]; exact hF5
    have hFqm6_1 : F1 (qm 6) = cI (cy 1) 8 Sl.1 := by rw [eF1, va_up_ne _ _ (pl_ne hF6 hFo rfl)]; exact hF6
    have hFqm7_1 : F1 (qm 7) = cJ (cy 2) 128 Sl.2 := by rw [eF1, va_up_ne _ _ (pl_ne hF7 hFo rfl)]; exact hF7
    have hFqm8_1 : F1 (qm 8) = cI (cy 1) 30 Pp.2.1 := by rw [eF1, va_up_ne _ _ (pl_ne hF8 hFo rfl)]; exact hF8
    have hFqm9_1 : F1 (qm 9) = cI (cy 3) 30 Pp.2.2 := by rw [eF1, va_up_ne _ _ (pl_ne hF9 hFo rfl)]; exact hF9
    have hFqm10_1 : F1 (qm 10) = cI (cy 1) 5 Kr.1 := by rw [eF1, va_up_ne _ _ (pl_ne hF10 hFo rfl)]; exact hF10
    have hFqm11_1 : F1 (qm 11) = cI (cy 3) 5 Kr.2.1 := by rw [eF1, va_up_ne _ _ (pl_ne hF11 hFo rfl)]; exact hF11
    have hFqm12_1 : F1 (qm 12) = cI (cy 1) 60 Kr.2.2 := by rw [eF1, va_up_ne _ _ (pl_ne hF12 hFo rfl)]; exact hF12
    have hFqm13_1 : F1 (qm 13) = cI (cy 1) 4 Bk.1 := by rw [eF1, va_up_ne _ _ (pl_ne hF13 hFo rfl)]; exact hF13
    have hFqm14_1 : F1 (qm 14) = cD (cy 0) 4 Bk.2 := by rw [eF1, va_up_ne _ _ (pl_ne hF14 hFo rfl)]; exact hF14
    have hFqm15_1 : F1 (qm 15) = cI (cy 1) 6 Xx.2 := by rw [eF1, va_up_ne _ _ (pl_ne hF15 hFo rfl)]; exact hF15
    refine lv_iload_n hx hb dX9_at_5 rfl (lv_at hl 1 rfl) ?_
    refine vp_callSi (W.runS (As := [.int rk]) (rest := []) ⟨hx, hb, hml, hown, hts⟩ (c9_isRack l rk) (va_cwS 1 hts gX9_at_X9_isRack rfl rfl rfl (by decide +kernel) ⟨Nat.le_of_ble_eq_true rfl, Nat.le_of_ble_eq_true rfl⟩) (preS_of okT (trivial)) rfl rfl hl.1 rfl (lv_room (Nat.le_of_ble_eq_true rfl)) dX9_at_6 ⟨Nat.le_of_ble_eq_true rfl, Nat.le_of_ble_eq_true rfl⟩) (fun r2 hr2 => ?_)
    rw [isx0 hi_rk] at hr2
    subst hr2
    refine lv_if_ne (tgt := 16) hx hb dX9_at_9 (by decide) (fun c3 => absurd (by decide) c3) (fun c3 => ?_)
    refine lv_sipush (v := -1001) hx hb dX9_at_12 (by decide) ?_
    exact W.iret (v := -1001) hx hb hr (fun t ht hW => ⟨⟨-1001, F1, rfl, (by have hsp : sp_at Kr Xx rk i = (-1001, Xx) := (by unfold sp_at; rw [hi_rk]); rw [hsp]; exact ⟨rfl, (by exact ⟨⟨_, _, hmo, hFo_1⟩, ⟨hm0, hFqm0_1⟩, ⟨hm1, hFqm1_1⟩, ⟨hm2, hFqm2_1⟩, ⟨hm3, hFqm3_1⟩, ⟨hm4, hFqm4_1⟩, ⟨hm5, hFqm5_1⟩, ⟨hm6, hFqm6_1⟩, ⟨hm7, hFqm7_1⟩, ⟨hm8, hFqm8_1⟩, ⟨hm9, hFqm9_1⟩, ⟨hm10, hFqm10_1⟩, ⟨hm11, hFqm11_1⟩, ⟨hm12, hFqm12_1⟩, ⟨hm13, hFqm13_1⟩, ⟨hm14, hFqm14_1⟩, ⟨hm15, hFqm15_1⟩, hne⟩)⟩), (by show va_P _ _ _ t.heap; rw [ht]; exact hP)⟩, hS.F ht⟩) hS.2.2 dX9_at_15
  · subst ei_rk
    rcases lackc (i := i) (by decide) ((hVK j_rk hj_rk).2.1) with ⟨hp_i, hk_i⟩ | ⟨hp_i, hk_i⟩ | ⟨q_i, hq_i, hs_i, hp_i, hk_i, ei_i⟩
    · have hp0_i : ¬ pl0 (Kr.1 j_rk) i = 0 := by rw [hp_i]; decide
      refine lv_aload_n hx hb dX9_at_0 rfl (lv_at hl 0 rfl) ?_
      refine lv_iconst (v := 0) hx hb dX9_at_1 (by decide) ?_
      refine pg_put (ci := 8) (v := .int 0) (ty := .int) (C := RX9) (T := TX9) (N := 20) hx hb hts hinX9 tyX9 tyX9_ok nmX9 hown hK hP hD hS hmo hFo rfl 0 (by decide) (hts (.fieldLink RX9 61 "RopeDrumsModel" "thrown" "I") (by decide +kernel)) (fun _ h9 => h9) rfl (by decide +kernel) (rfl) (rfl) (Nat.le_of_ble_eq_true rfl) dX9_at_2 (fun H locs F4 eF4 hP hS => ?_)
      have eF4 : F4 = va_up F o (.inr (8, [.int 0, .ref (qm 0), .ref (qm 1), .ref (qm 2), .ref (qm 3), .ref (qm 4), .ref (qm 5), .ref (qm 6), .ref (qm 7), .int Pp.1, .ref (qm 8), .ref (qm 9), .ref (qm 10), .ref (qm 11), .ref (qm 12), .ref (qm 13), .ref (qm 14), .int Xx.1, .ref (qm 15), .long oc])) := eF4
      have hFo_4 : F4 o = .inr (8, [.int 0, .ref (qm 0), .ref (qm 1), .ref (qm 2), .ref (qm 3), .ref (qm 4), .ref (qm 5), .ref (qm 6), .ref (qm 7), .int Pp.1, .ref (qm 8), .ref (qm 9), .ref (qm 10), .ref (qm 11), .ref (qm 12), .ref (qm 13), .ref (qm 14), .int Xx.1, .ref (qm 15), .long oc]) := by rw [eF4]; exact va_up_self _ _ _
      have hFqm0_4 : F4 (qm 0) = cI (cy 1) 10 Mm.1 := by rw [eF4, va_up_ne _ _ (pl_ne hF0 hFo rfl)]; exact hF0
      have hFqm1_4 : F4 (qm 1) = cJ (cy 2) 10 Mm.2 := by rw [eF4, va_up_ne _ _ (pl_ne hF1 hFo rfl)]; exact hF1
      have hFqm2_4 : F4 (qm 2) = cD (cy 0) 6 Dd.1 := by rw [eF4, va_up_ne _ _ (pl_ne hF2 hFo rfl)]; exact hF2
      have hFqm3_4 : F4 (qm 3) = cD (cy 0) 6 Dd.2.1 := by rw [eF4, va_up_ne _ _ (pl_ne hF3 hFo rfl)]; exact hF3
      have hFqm4_4 : F4 (qm 4) = cD (cy 0) 6 Dd.2.2.1 := by rw [eF4, va_up_ne _ _ (pl_ne hF4 hFo rfl)]; exact hF4
      have hFqm5_4 : F4 (qm 5) = cJ (cy 2) 6 Dd.2.2.2 := by rw [eF4, va_up_ne _ _ (pl_ne hF5 hFo rfl)]; exact hF5
      have hFqm6_4 : F4 (qm 6) = cI (cy 1) 8 Sl.1 := by rw [eF4, va_up_ne _ _ (pl_ne hF6 hFo rfl)]; exact hF6
      have hFqm7_4 : F4 (qm 7) = cJ (cy 2) 128 Sl.2 := by rw [eF4, va_up_ne _ _ (pl_ne hF7 hFo rfl)]; exact hF7
      have hFqm8_4 : F4 (qm 8) = cI (cy 1) 30 Pp.2.1 := by rw [eF4, va_up_ne _ _ (pl_ne hF8 hFo rfl)]; exact hF8
      have hFqm9_4 : F4 (qm 9) = cI (cy 3) 30 Pp.2.2 := by rw [eF4, va_up_ne _ _ (pl_ne hF9 hFo rfl)]; exact hF9
      have hFqm10_4 : F4 (qm 10) = cI (cy 1) 5 Kr.1 := by rw [eF4, va_up_ne _ _ (pl_ne hF10 hFo rfl)]; exact hF10
      have hFqm11_4 : F4 (qm 11) = cI (cy 3) 5 Kr.2.1 := by rw [eF4, va_up_ne _ _ (pl_ne hF11 hFo rfl)]; exact hF11
      have hFqm12_4 : F4 (qm 12) = cI (cy 1) 60 Kr.2.2 := by rw [eF4, va_up_ne _ _ (pl_ne hF12 hFo rfl)]; exact hF12
      have hFqm13_4 : F4 (qm 13) = cI (cy 1) 4 Bk.1 := by rw [eF4, va_up_ne _ _ (pl_ne hF13 hFo rfl)]; exact hF13
      have hFqm14_4 : F4 (qm 14) = cD (cy 0) 4 Bk.2 := by rw [eF4, va_up_ne _ _ (pl_ne hF14 hFo rfl)]; exact hF14
      have hFqm15_4 : F4 (qm 15) = cI (cy 1) 6 Xx.2 := by rw [eF4, va_up_ne _ _ (pl_ne hF15 hFo rfl)]; exact hF15
      refine lv_iload_n hx hb dX9_at_5 rfl (lv_at hl 1 rfl) ?_
      refine vp_callSi (W.runS (As := [.int (nI j_rk)]) (rest := []) ⟨hx, hb, hml, hown, hts⟩ (c9_isRack l (nI j_rk)) (va_cwS 1 hts gX9_at_X9_isRack rfl rfl rfl (by decide +kernel) ⟨Nat.le_of_ble_eq_true rfl, Nat.le_of_ble_eq_true rfl⟩) (preS_of okT (trivial)) rfl rfl hl.1 rfl (lv_room (Nat.le_of_ble_eq_true rfl)) dX9_at_6 ⟨Nat.le_of_ble_eq_true rfl, Nat.le_of_ble_eq_true rfl⟩) (fun r5 hr5 => ?_)
      rw [isx1 hi_rk] at hr5
      subst hr5
      refine lv_if_ne (tgt := 16) hx hb dX9_at_9 (by decide) (fun c6 => ?_) (fun c6 => absurd c6 (by decide))
      refine lv_aload_n hx hb dX9_at_16 rfl (lv_at hl 0 rfl) ?_
      refine lv_aload_n hx hb dX9_at_17 rfl (lv_at hl 0 rfl) ?_
      refine lv_iload_n hx hb dX9_at_18 rfl (lv_at hl 1 rfl) ?_
      refine lv_iload_n hx hb dX9_at_19 rfl (lv_at hl 2 rfl) ?_
      refine vp_callSi (W.runV (As := [.int (nI j_rk), .int i]) (rest := [.ref o]) ⟨hx, hb, hml, hown, hts⟩ (c9_rackCause l G cy L F4 o qm 0 Pp.1 Xx.1 oc hmo hFo_4 Kr.1 hm10 hFqm10_4 j_rk hj_rk i ((hVK j_rk hj_rk).2.1)) (cwV 2 hts gX9_at_X9_rackCause rfl rfl rfl (by decide +kernel) ⟨Nat.le_of_ble_eq_true rfl, Nat.le_of_ble_eq_true rfl⟩) (preV_of okP (⟨hP, hK, hD.top⟩) (pl_recv hK hP (ci := 8) rfl hmo hFo_4)) rfl rfl hl.1 rfl (lv_room (Nat.le_of_ble_eq_true rfl)) dX9_at_20 ⟨Nat.le_of_ble_eq_true rfl, Nat.le_of_ble_eq_true rfl⟩) (fun r7 hr7 => ?_)
      rw [hp_i] at hr7
      have hzr7 : r7 = 1 := hr7
      clear hr7
      subst hzr7
      refine pg_put (ci := 8) (v := .int 1) (ty := .int) (C := RX9) (T := TX9) (N := 20) hx hb hts hinX9 tyX9 tyX9_ok nmX9 hown hK hP hD hS hmo hFo_4 rfl 17 (by decide) (hts (.fieldLink RX9 65 "RopeDrumsModel" "failed" "I") (by decide +kernel)) (fun _ h9 => h9) rfl (by decide +kernel) (rfl) (rfl) (Nat.le_of_ble_eq_true rfl) dX9_at_23 (fun H locs F8 eF8 hP hS => ?_)
      have eF8 : F8 = va_up F4 o (.inr (8, [.int 0, .ref (qm 0), .ref (qm 1), .ref (qm 2), .ref (qm 3), .ref (qm 4), .ref (qm 5), .ref (qm 6), .ref (qm 7), .int Pp.1, .ref (qm 8), .ref (qm 9), .ref (qm 10), .ref (qm 11), .ref (qm 12), .ref (qm 13), .ref (qm 14), .int 1, .ref (qm 15), .long oc])) := eF8
      have hFo_8 : F8 o = .inr (8, [.int 0, .ref (qm 0), .ref (qm 1), .ref (qm 2), .ref (qm 3), .ref (qm 4), .ref (qm 5), .ref (qm 6), .ref (qm 7), .int Pp.1, .ref (qm 8), .ref (qm 9), .ref (qm 10), .ref (qm 11), .ref (qm 12), .ref (qm 13), .ref (qm 14), .int 1, .ref (qm 15), .long oc]) := by rw [eF8]; exact va_up_self _ _ _
      have hFqm0_8 : F8 (qm 0) = cI (cy 1) 10 Mm.1 := by rw [eF8, va_up_ne _ _ (pl_ne hFqm0_4 hFo_4 rfl)]; exact hFqm0_4
      have hFqm1_8 : F8 (qm 1) = cJ (cy 2) 10 Mm.2 := by rw [eF8, va_up_ne _ _ (pl_ne hFqm1_4 hFo_4 rfl)]; exact hFqm1_4
      have hFqm2_8 : F8 (qm 2) = cD (cy 0) 6 Dd.1 := by rw [eF8, va_up_ne _ _ (pl_ne hFqm2_4 hFo_4 rfl)]; exact hFqm2_4
      have hFqm3_8 : F8 (qm 3) = cD (cy 0) 6 Dd.2.1 := by rw [eF8, va_up_ne _ _ (pl_ne hFqm3_4 hFo_4 rfl)]; exact hFqm3_4
      have hFqm4_8 : F8 (qm 4) = cD (cy 0) 6 Dd.2.2.1 := by rw [eF8, va_up_ne _ _ (pl_ne hFqm4_4 hFo_4 rfl)]; exact hFqm4_4
      have hFqm5_8 : F8 (qm 5) = cJ (cy 2) 6 Dd.2.2.2 := by rw [eF8, va_up_ne _ _ (pl_ne hFqm5_4 hFo_4 rfl)]; exact hFqm5_4
      have hFqm6_8 : F8 (qm 6) = cI (cy 1) 8 Sl.1 := by rw [eF8, va_up_ne _ _ (pl_ne hFqm6_4 hFo_4 rfl)]; exact hFqm6_4
      have hFqm7_8 : F8 (qm 7) = cJ (cy 2) 128 Sl.2 := by rw [eF8, va_up_ne _ _ (pl_ne hFqm7_4 hFo_4 rfl)]; exact hFqm7_4
      have hFqm8_8 : F8 (qm 8) = cI (cy 1) 30 Pp.2.1 := by rw [eF8, va_up_ne _ _ (pl_ne hFqm8_4 hFo_4 rfl)]; exact hFqm8_4
      have hFqm9_8 : F8 (qm 9) = cI (cy 3) 30 Pp.2.2 := by rw [eF8, va_up_ne _ _ (pl_ne hFqm9_4 hFo_4 rfl)]; exact hFqm9_4
      have hFqm10_8 : F8 (qm 10) = cI (cy 1) 5 Kr.1 := by rw [eF8, va_up_ne _ _ (pl_ne hFqm10_4 hFo_4 rfl)]; exact hFqm10_4
      have hFqm11_8 : F8 (qm 11) = cI (cy 3) 5 Kr.2.1 := by rw [eF8, va_up_ne _ _ (pl_ne hFqm11_4 hFo_4 rfl)]; exact hFqm11_4
      have hFqm12_8 : F8 (qm 12) = cI (cy 1) 60 Kr.2.2 := by rw [eF8, va_up_ne _ _ (pl_ne hFqm12_4 hFo_4 rfl)]; exact hFqm12_4
      have hFqm13_8 : F8 (qm 13) = cI (cy 1) 4 Bk.1 := by rw [eF8, va_up_ne _ _ (pl_ne hFqm13_4 hFo_4 rfl)]; exact hFqm13_4
      have hFqm14_8 : F8 (qm 14) = cD (cy 0) 4 Bk.2 := by rw [eF8, va_up_ne _ _ (pl_ne hFqm14_4 hFo_4 rfl)]; exact hFqm14_4
      have hFqm15_8 : F8 (qm 15) = cI (cy 1) 6 Xx.2 := by rw [eF8, va_up_ne _ _ (pl_ne hFqm15_4 hFo_4 rfl)]; exact hFqm15_4
      refine lv_aload_n hx hb dX9_at_26 rfl (lv_at hl 0 rfl) ?_
      refine pg_get (ci := 8) (C := RX9) (T := TX9) (N := 20) hx hb hts hinX9 hown hK hP hmo hFo_8 rfl 17 (by decide) (hts (.fieldLink RX9 65 "RopeDrumsModel" "failed" "I") (by decide +kernel)) (fun _ h9 => h9) rfl dX9_at_27 ?_
      refine lv_if_le (tgt := 41) hx hb dX9_at_30 (by decide) (fun c9 => absurd c9 (by decide)) (fun c9 => ?_)
      refine lv_aload_n hx hb dX9_at_33 rfl (lv_at hl 0 rfl) ?_
      refine lv_iconst (v := 0) hx hb dX9_at_34 (by decide) ?_
      refine va_calli (va_runV (As := [.int 0]) (rest := []) ⟨hx, hb, hml, hown, hts⟩ (c9_answers_1 l G cy L F8 H.size o qm 0 Pp.1 oc hmo hFo_8 Xx.2 hm15 hFqm15_8 0) (cwV 1 hts gX9_at_X9_answers rfl rfl rfl (by decide +kernel) ⟨Nat.le_of_ble_eq_true rfl, Nat.le_of_ble_eq_true rfl⟩) (preV_of okQ (⟨rfl, hP, hK, hD.top⟩) (pl_recv hK hP (ci := 8) rfl hmo hFo_8)) rfl rfl hl.1 rfl (lv_room (Nat.le_of_ble_eq_true rfl)) dX9_at_35 ⟨Nat.le_of_ble_eq_true rfl, Nat.le_of_ble_eq_true rfl⟩) hS (fun q _ h => pl_free hD hS hA q h) (pl_free hD hS hA) (fun r11 F10 t H1 locs ht hvm hw hP1 hz1 hk1 hS => ?_)
      have hP1 : va_P G vwCl (va_pl L F10) t.heap := hP1
      rw [ht] at hP1
      have hP := hP1
      generalize H1 = H at hP hS ⊢
      obtain ⟨hqr11, eF10⟩ := hw
      have eF10 : F10 = va_up F8 (qm 15) (cI (cy 1) 6 (upd Xx.2 1 (Xx.2 1 + 1))) := eF10
      have hFo_11 : F10 o = .inr (8, [.int 0, .ref (qm 0), .ref (qm 1), .ref (qm 2), .ref (qm 3), .ref (qm 4), .ref (qm 5), .ref (qm 6), .ref (qm 7), .int Pp.1, .ref (qm 8), .ref (qm 9), .ref (qm 10), .ref (qm 11), .ref (qm 12), .ref (qm 13), .ref (qm 14), .int 1, .ref (qm 15), .long oc]) := by rw [eF10, va_up_ne _ _ (pl_ne hFo_8 hFqm15_8 rfl)]; exact hFo_8
      have hFqm0_11 : F10 (qm 0) = cI (cy 1) 10 Mm.1 := by rw [eF10, va_up_ne _ _ (pl_ne hFqm0_8 hFqm15_8 rfl)]; exact hFqm0_8
      have hFqm1_11 : F10 (qm 1) = cJ (cy 2) 10 Mm.2 := by rw [eF10, va_up_ne _ _ (pl_ne hFqm1_8 hFqm15_8 rfl)]; exact hFqm1_8
      have hFqm2_11 : F10 (qm 2) = cD (cy 0) 6 Dd.1 := by rw [eF10, va_up_ne _ _ (pl_ne hFqm2_8 hFqm15_8 rfl)]; exact hFqm2_8
      have hFqm3_11 : F10 (qm 3) = cD (cy 0) 6 Dd.2.1 := by rw [eF10, va_up_ne _ _ (pl_ne hFqm3_8 hFqm15_8 rfl)]; exact hFqm3_8
      have hFqm4_11 : F10 (qm 4) = cD (cy 0) 6 Dd.2.2.1 := by rw [eF10, va_up_ne _ _ (pl_ne hFqm4_8 hFqm15_8 rfl)]; exact hFqm4_8
      have hFqm5_11 : F10 (qm 5) = cJ (cy 2) 6 Dd.2.2.2 := by rw [eF10, va_up_ne _ _ (pl_ne hFqm5_8 hFqm15_8 rfl)]; exact hFqm5_8
      have hFqm6_11 : F10 (qm 6) = cI (cy 1) 8 Sl.1 := by rw [eF10, va_up_ne _ _ (pl_ne hFqm6_8 hFqm15_8 rfl)]; exact hFqm6_8
      have hFqm7_11 : F10 (qm 7) = cJ (cy 2) 128 Sl.2 := by rw [eF10, va_up_ne _ _ (pl_ne hFqm7_8 hFqm15_8 rfl)]; exact hFqm7_8
      have hFqm8_11 : F10 (qm 8) = cI (cy 1) 30 Pp.2.1 := by rw [eF10, va_up_ne _ _ (pl_ne hFqm8_8 hFqm15_8 rfl)]; exact hFqm8_8
      have hFqm9_11 : F10 (qm 9) = cI (cy 3) 30 Pp.2.2 := by rw [eF10, va_up_ne _ _ (pl_ne hFqm9_8 hFqm15_8 rfl)]; exact hFqm9_8
      have hFqm10_11 : F10 (qm 10) = cI (cy 1) 5 Kr.1 := by rw [eF10, va_up_ne _ _ (pl_ne hFqm10_8 hFqm15_8 rfl)]; exact hFqm10_8
      have hFqm11_11 : F10 (qm 11) = cI (cy 3) 5 Kr.2.1 := by rw [eF10, va_up_ne _ _ (pl_ne hFqm11_8 hFqm15_8 rfl)]; exact hFqm11_8
      have hFqm12_11 : F10 (qm 12) = cI (cy 1) 60 Kr.2.2 := by rw [eF10, va_up_ne _ _ (pl_ne hFqm12_8 hFqm15_8 rfl)]; exact hFqm12_8
      have hFqm13_11 : F10 (qm 13) = cI (cy 1) 4 Bk.1 := by rw [eF10, va_up_ne _ _ (pl_ne hFqm13_8 hFqm15_8 rfl)]; exact hFqm13_8
      have hFqm14_11 : F10 (qm 14) = cD (cy 0) 4 Bk.2 := by rw [eF10, va_up_ne _ _ (pl_ne hFqm14_8 hFqm15_8 rfl)]; exact hFqm14_8
      have hFqm15_11 : F10 (qm 15) = cI (cy 1) 6 (upd Xx.2 1 (Xx.2 1 + 1)) := by rw [eF10]; exact va_up_self _ _ _
      have hr11 := hqr11
      refine lv_goto (tgt := 52) hx hb dX9_at_38 (by decide) ?_
      exact W.iret (v := r11) hx hb hr (fun t ht hW => ⟨⟨r11, F10, rfl, (by subst hr11; have hsp : sp_at Kr Xx (nI j_rk) i = (-10 - 1, failX Xx 1) := (by unfold sp_at; rw [hi_rk]; exact (if_neg hp0_i).trans (by rw [hp_i]; rfl)); rw [hsp]; exact ⟨rfl, (by exact ⟨⟨_, _, hmo, hFo_11⟩, ⟨hm0, hFqm0_11⟩, ⟨hm1, hFqm1_11⟩, ⟨hm2, hFqm2_11⟩, ⟨hm3, hFqm3_11⟩, ⟨hm4, hFqm4_11⟩, ⟨hm5, hFqm5_11⟩, ⟨hm6, hFqm6_11⟩, ⟨hm7, hFqm7_11⟩, ⟨hm8, hFqm8_11⟩, ⟨hm9, hFqm9_11⟩, ⟨hm10, hFqm10_11⟩, ⟨hm11, hFqm11_11⟩, ⟨hm12, hFqm12_11⟩, ⟨hm13, hFqm13_11⟩, ⟨hm14, hFqm14_11⟩, ⟨hm15, hFqm15_11⟩, hne⟩)⟩), (by show va_P _ _ _ t.heap; rw [ht]; exact hP)⟩, hS.F ht⟩) hS.2.2 dX9_at_52
    · have hp0_i : ¬ pl0 (Kr.1 j_rk) i = 0 := by rw [hp_i]; decide
      refine lv_aload_n hx hb dX9_at_0 rfl (lv_at hl 0 rfl) ?_
      refine lv_iconst (v := 0) hx hb dX9_at_1 (by decide) ?_
      refine pg_put (ci := 8) (v := .int 0) (ty := .int) (C := RX9) (T := TX9) (N := 20) hx hb hts hinX9 tyX9 tyX9_ok nmX9 hown hK hP hD hS hmo hFo rfl 0 (by decide) (hts (.fieldLink RX9 61 "RopeDrumsModel" "thrown" "I") (by decide +kernel)) (fun _ h9 => h9) rfl (by decide +kernel) (rfl) (rfl) (Nat.le_of_ble_eq_true rfl) dX9_at_2 (fun H locs F12 eF12 hP hS => ?_)
      have eF12 : F12 = va_up F o (.inr (8, [.int 0, .ref (qm 0), .ref (qm 1), .ref (qm 2), .ref (qm 3), .ref (qm 4), .ref (qm 5), .ref (qm 6), .ref (qm 7), .int Pp.1, .ref (qm 8), .ref (qm 9), .ref (qm 10), .ref (qm 11), .ref (qm 12), .ref (qm 13), .ref (qm 14), .int Xx.1, .ref (qm 15), .long oc])) := eF12
      have hFo_12 : F12 o = .inr (8, [.int 0, .ref (qm 0), .ref (qm 1), .ref (qm 2), .ref (qm 3), .ref (qm 4), .ref (qm 5), .ref (qm 6), .ref (qm 7), .int Pp.1, .ref (qm 8), .ref (qm 9), .ref (qm 10), .ref (qm 11), .ref (qm 12), .ref (qm 13), .ref (qm 14), .int Xx.1, .ref (qm 15), .long oc]) := by rw [eF12]; exact va_up_self _ _ _
      have hFqm0_12 : F12 (qm 0) = cI (cy 1) 10 Mm.1 := by rw [eF12, va_up_ne _ _ (pl_ne hF0 hFo rfl)]; exact hF0
      have hFqm1_12 : F12 (qm 1) = cJ (cy 2) 10 Mm.2 := by rw [eF12, va_up_ne _ _ (pl_ne hF1 hFo rfl)]; exact hF1
      have hFqm2_12 : F12 (qm 2) = cD (cy 0) 6 Dd.1 := by rw [eF12, va_up_ne _ _ (pl_ne hF2 hFo rfl)]; exact hF2
      have hFqm3_12 : F12 (qm 3) = cD (cy 0) 6 Dd.2.1 := by rw [eF12, va_up_ne _ _ (pl_ne hF3 hFo rfl)]; exact hF3
      have hFqm4_12 : F12 (qm 4) = cD (cy 0) 6 Dd.2.2.1 := by rw [eF12, va_up_ne _ _ (pl_ne hF4 hFo rfl)]; exact hF4
      have hFqm5_12 : F12 (qm 5) = cJ (cy 2) 6 Dd.2.2.2 := by rw [eF12, va_up_ne _ _ (pl_ne hF5 hFo rfl)]; exact hF5
      have hFqm6_12 : F12 (qm 6) = cI (cy 1) 8 Sl.1 := by rw [eF12, va_up_ne _ _ (pl_ne hF6 hFo rfl)]; exact hF6
      have hFqm7_12 : F12 (qm 7) = cJ (cy 2) 128 Sl.2 := by rw [eF12, va_up_ne _ _ (pl_ne hF7 hFo rfl)]; exact hF7
      have hFqm8_12 : F12 (qm 8) = cI (cy 1) 30 Pp.2.1 := by rw [eF12, va_up_ne _ _ (pl_ne hF8 hFo rfl)]; exact hF8
      have hFqm9_12 : F12 (qm 9) = cI (cy 3) 30 Pp.2.2 := by rw [eF12, va_up_ne _ _ (pl_ne hF9 hFo rfl)]; exact hF9
      have hFqm10_12 : F12 (qm 10) = cI (cy 1) 5 Kr.1 := by rw [eF12, va_up_ne _ _ (pl_ne hF10 hFo rfl)]; exact hF10
      have hFqm11_12 : F12 (qm 11) = cI (cy 3) 5 Kr.2.1 := by rw [eF12, va_up_ne _ _ (pl_ne hF11 hFo rfl)]; exact hF11
      have hFqm12_12 : F12 (qm 12) = cI (cy 1) 60 Kr.2.2 := by rw [eF12, va_up_ne _ _ (pl_ne hF12 hFo rfl)]; exact hF12
      have hFqm13_12 : F12 (qm 13) = cI (cy 1) 4 Bk.1 := by rw [eF12, va_up_ne _ _ (pl_ne hF13 hFo rfl)]; exact hF13
      have hFqm14_12 : F12 (qm 14) = cD (cy 0) 4 Bk.2 := by rw [eF12, va_up_ne _ _ (pl_ne hF14 hFo rfl)]; exact hF14
      have hFqm15_12 : F12 (qm 15) = cI (cy 1) 6 Xx.2 := by rw [eF12, va_up_ne _ _ (pl_ne hF15 hFo rfl)]; exact hF15
      refine lv_iload_n hx hb dX9_at_5 rfl (lv_at hl 1 rfl) ?_
      refine vp_callSi (W.runS (As := [.int (nI j_rk)]) (rest := []) ⟨hx, hb, hml, hown, hts⟩ (c9_isRack l (nI j_rk)) (va_cwS 1 hts gX9_at_X9_isRack rfl rfl rfl (by decide +kernel) ⟨Nat.le_of_ble_eq_true rfl, Nat.le_of_ble_eq_true rfl⟩) (preS_of okT (trivial)) rfl rfl hl.1 rfl (lv_room (Nat.le_of_ble_eq_true rfl)) dX9_at_6 ⟨Nat.le_of_ble_eq_true rfl, Nat.le_of_ble_eq_true rfl⟩) (fun r13 hr13 => ?_)
      rw [isx1 hi_rk] at hr13
      subst hr13
      refine lv_if_ne (tgt := 16) hx hb dX9_at_9 (by decide) (fun c14 => ?_) (fun c14 => absurd c14 (by decide))
      refine lv_aload_n hx hb dX9_at_16 rfl (lv_at hl 0 rfl) ?_
      refine lv_aload_n hx hb dX9_at_17 rfl (lv_at hl 0 rfl) ?_
      refine lv_iload_n hx hb dX9_at_18 rfl (lv_at hl 1 rfl) ?_
      refine lv_iload_n hx hb dX9_at_19 rfl (lv_at hl 2 rfl) ?_
      refine vp_callSi (W.runV (As := [.int (nI j_rk), .int i]) (rest := [.ref o]) ⟨hx, hb, hml, hown, hts⟩ (c9_rackCause l G cy L F12 o qm 0 Pp.1 Xx.1 oc hmo hFo_12 Kr.1 hm10 hFqm10_12 j_rk hj_rk i ((hVK j_rk hj_rk).2.1)) (cwV 2 hts gX9_at_X9_rackCause rfl rfl rfl (by decide +kernel) ⟨Nat.le_of_ble_eq_true rfl, Nat.le_of_ble_eq_true rfl⟩) (preV_of okP (⟨hP, hK, hD.top⟩) (pl_recv hK hP (ci := 8) rfl hmo hFo_12)) rfl rfl hl.1 rfl (lv_room (Nat.le_of_ble_eq_true rfl)) dX9_at_20 ⟨Nat.le_of_ble_eq_true rfl, Nat.le_of_ble_eq_true rfl⟩) (fun r15 hr15 => ?_)
      rw [hp_i] at hr15
      have hzr15 : r15 = 2 := hr15
      clear hr15
      subst hzr15
      refine pg_put (ci := 8) (v := .int 2) (ty := .int) (C := RX9) (T := TX9) (N := 20) hx hb hts hinX9 tyX9 tyX9_ok nmX9 hown hK hP hD hS hmo hFo_12 rfl 17 (by decide) (hts (.fieldLink RX9 65 "RopeDrumsModel" "failed" "I") (by decide +kernel)) (fun _ h9 => h9) rfl (by decide +kernel) (rfl) (rfl) (Nat.le_of_ble_eq_true rfl) dX9_at_23 (fun H locs F16 eF16 hP hS => ?_)
      have eF16 : F16 = va_up F12 o (.inr (8, [.int 0, .ref (qm 0), .ref (qm 1), .ref (qm 2), .ref (qm 3), .ref (qm 4), .ref (qm 5), .ref (qm 6), .ref (qm 7), .int Pp.1, .ref (qm 8), .ref (qm 9), .ref (qm 10), .ref (qm 11), .ref (qm 12), .ref (qm 13), .ref (qm 14), .int 2, .ref (qm 15), .long oc])) := eF16
      have hFo_16 : F16 o = .inr (8, [.int 0, .ref (qm 0), .ref (qm 1), .ref (qm 2), .ref (qm 3), .ref (qm 4), .ref (qm 5), .ref (qm 6), .ref (qm 7), .int Pp.1, .ref (qm 8), .ref (qm 9), .ref (qm 10), .ref (qm 11), .ref (qm 12), .ref (qm 13), .ref (qm 14), .int 2, .ref (qm 15), .long oc]) := by rw [eF16]; exact va_up_self _ _ _
      have hFqm0_16 : F16 (qm 0) = cI (cy 1) 10 Mm.1 := by rw [eF16, va_up_ne _ _ (pl_ne hFqm0_12 hFo_12 rfl)]; exact hFqm0_12
      have hFqm1_16 : F16 (qm 1) = cJ (cy 2) 10 Mm.2 := by rw [eF16, va_up_ne _ _ (pl_ne hFqm1_12 hFo_12 rfl)]; exact hFqm1_12
      have hFqm2_16 : F16 (qm 2) = cD (cy 0) 6 Dd.1 := by rw [eF16, va_up_ne _ _ (pl_ne hFqm2_12 hFo_12 rfl)]; exact hFqm2_12
      have hFqm3_16 : F16 (qm 3) = cD (cy 0) 6 Dd.2.1 := by rw [eF16, va_up_ne _ _ (pl_ne hFqm3_12 hFo_12 rfl)]; exact hFqm3_12
      have hFqm4_16 : F16 (qm 4) = cD (cy 0) 6 Dd.2.2.1 := by rw [eF16, va_up_ne _ _ (pl_ne hFqm4_12 hFo_12 rfl)]; exact hFqm4_12
      have hFqm5_16 : F16 (qm 5) = cJ (cy 2) 6 Dd.2.2.2 := by rw [eF16, va_up_ne _ _ (pl_ne hFqm5_12 hFo_12 rfl)]; exact hFqm5_12
      have hFqm6_16 : F16 (qm 6) = cI (cy 1) 8 Sl.1 := by rw [eF16, va_up_ne _ _ (pl_ne hFqm6_12 hFo_12 rfl)]; exact hFqm6_12
      have hFqm7_16 : F16 (qm 7) = cJ (cy 2) 128 Sl.2 := by rw [eF16, va_up_ne _ _ (pl_ne hFqm7_12 hFo_12 rfl)]; exact hFqm7_12
      have hFqm8_16 : F16 (qm 8) = cI (cy 1) 30 Pp.2.1 := by rw [eF16, va_up_ne _ _ (pl_ne hFqm8_12 hFo_12 rfl)]; exact hFqm8_12
      have hFqm9_16 : F16 (qm 9) = cI (cy 3) 30 Pp.2.2 := by rw [eF16, va_up_ne _ _ (pl_ne hFqm9_12 hFo_12 rfl)]; exact hFqm9_12
      have hFqm10_16 : F16 (qm 10) = cI (cy 1) 5 Kr.1 := by rw [eF16, va_up_ne _ _ (pl_ne hFqm10_12 hFo_12 rfl)]; exact hFqm10_12
      have hFqm11_16 : F16 (qm 11) = cI (cy 3) 5 Kr.2.1 := by rw [eF16, va_up_ne _ _ (pl_ne hFqm11_12 hFo_12 rfl)]; exact hFqm11_12
      have hFqm12_16 : F16 (qm 12) = cI (cy 1) 60 Kr.2.2 := by rw [eF16, va_up_ne _ _ (pl_ne hFqm12_12 hFo_12 rfl)]; exact hFqm12_12
      have hFqm13_16 : F16 (qm 13) = cI (cy 1) 4 Bk.1 := by rw [eF16, va_up_ne _ _ (pl_ne hFqm13_12 hFo_12 rfl)]; exact hFqm13_12
      have hFqm14_16 : F16 (qm 14) = cD (cy 0) 4 Bk.2 := by rw [eF16, va_up_ne _ _ (pl_ne hFqm14_12 hFo_12 rfl)]; exact hFqm14_12
      have hFqm15_16 : F16 (qm 15) = cI (cy 1) 6 Xx.2 := by rw [eF16, va_up_ne _ _ (pl_ne hFqm15_12 hFo_12 rfl)]; exact hFqm15_12
      refine lv_aload_n hx hb dX9_at_26 rfl (lv_at hl 0 rfl) ?_
      refine pg_get (ci := 8) (C := RX9) (T := TX9) (N := 20) hx hb hts hinX9 hown hK hP hmo hFo_16 rfl 17 (by decide) (hts (.fieldLink RX9 65 "RopeDrumsModel" "failed" "I") (by decide +kernel)) (fun _ h9 => h9) rfl dX9_at_27 ?_
      refine lv_if_le (tgt := 41) hx hb dX9_at_30 (by decide) (fun c17 => absurd c17 (by decide)) (fun c17 => ?_)
      refine lv_aload_n hx hb dX9_at_33 rfl (lv_at hl 0 rfl) ?_
      refine lv_iconst (v := 0) hx hb dX9_at_34 (by decide) ?_
      refine va_calli (va_runV (As := [.int 0]) (rest := []) ⟨hx, hb, hml, hown, hts⟩ (c9_answers_2 l G cy L F16 H.size o qm 0 Pp.1 oc hmo hFo_16 Xx.2 hm15 hFqm15_16 0) (cwV 1 hts gX9_at_X9_answers rfl rfl rfl (by decide +kernel) ⟨Nat.le_of_ble_eq_true rfl, Nat.le_of_ble_eq_true rfl⟩) (preV_of okQ (⟨rfl, hP, hK, hD.top⟩) (pl_recv hK hP (ci := 8) rfl hmo hFo_16)) rfl rfl hl.1 rfl (lv_room (Nat.le_of_ble_eq_true rfl)) dX9_at_35 ⟨Nat.le_of_ble_eq_true rfl, Nat.le_of_ble_eq_true rfl⟩) hS (fun q _ h => pl_free hD hS hA q h) (pl_free hD hS hA) (fun r19 F18 t H1 locs ht hvm hw hP1 hz1 hk1 hS => ?_)
      have hP1 : va_P G vwCl (va_pl L F18) t.heap := hP1
      rw [ht] at hP1
      have hP := hP1
      generalize H1 = H at hP hS ⊢
      obtain ⟨hqr19, eF18⟩ := hw
      have eF18 : F18 = va_up F16 (qm 15) (cI (cy 1) 6 (upd Xx.2 2 (Xx.2 2 + 1))) := eF18
      have hFo_19 : F18 o = .inr (8, [.int 0, .ref (qm 0), .ref (qm 1), .ref (qm 2), .ref (qm 3), .ref (qm 4), .ref (qm 5), .ref (qm 6), .ref (qm 7), .int Pp.1, .ref (qm 8), .ref (qm 9), .ref (qm 10), .ref (qm 11), .ref (qm 12), .ref (qm 13), .ref (qm 14), .int 2, .ref (qm 15), .long oc]) := by rw [eF18, va_up_ne _ _ (pl_ne hFo_16 hFqm15_16 rfl)]; exact hFo_16
      have hFqm0_19 : F18 (qm 0) = cI (cy 1) 10 Mm.1 := by rw [eF18, va_up_ne _ _ (pl_ne hFqm0_16 hFqm15_16 rfl)]; exact hFqm0_16
      have hFqm1_19 : F18 (qm 1) = cJ (cy 2) 10 Mm.2 := by rw [eF18, va_up_ne _ _ (pl_ne hFqm1_16 hFqm15_16 rfl)]; exact hFqm1_16
      have hFqm2_19 : F18 (qm 2) = cD (cy 0) 6 Dd.1 := by rw [eF18, va_up_ne _ _ (pl_ne hFqm2_16 hFqm15_16 rfl)]; exact hFqm2_16
      have hFqm3_19 : F18 (qm 3) = cD (cy 0) 6 Dd.2.1 := by rw [eF18, va_up_ne _ _ (pl_ne hFqm3_16 hFqm15_16 rfl)]; exact hFqm3_16
      have hFqm4_19 : F18 (qm 4) = cD (cy 0) 6 Dd.2.2.1 := by rw [eF18, va_up_ne _ _ (pl_ne hFqm4_16 hFqm15_16 rfl)]; exact hFqm4_16
      have hFqm5_19 : F18 (qm 5) = cJ (cy 2) 6 Dd.2.2.2 := by rw [eF18, va_up_ne _ _ (pl_ne hFqm5_16 hFqm15_16 rfl)]; exact hFqm5_16
      have hFqm6_19 : F18 (qm 6) = cI (cy 1) 8 Sl.1 := by rw [eF18, va_up_ne _ _ (pl_ne hFqm6_16 hFqm15_16 rfl)]; exact hFqm6_16
      have hFqm7_19 : F18 (qm 7) = cJ (cy 2) 128 Sl.2 := by rw [eF18, va_up_ne _ _ (pl_ne hFqm7_16 hFqm15_16 rfl)]; exact hFqm7_16
      have hFqm8_19 : F18 (qm 8) = cI (cy 1) 30 Pp.2.1 := by rw [eF18, va_up_ne _ _ (pl_ne hFqm8_16 hFqm15_16 rfl)]; exact hFqm8_16
      have hFqm9_19 : F18 (qm 9) = cI (cy 3) 30 Pp.2.2 := by rw [eF18, va_up_ne _ _ (pl_ne hFqm9_16 hFqm15_16 rfl)]; exact hFqm9_16
      have hFqm10_19 : F18 (qm 10) = cI (cy 1) 5 Kr.1 := by rw [eF18, va_up_ne _ _ (pl_ne hFqm10_16 hFqm15_16 rfl)]; exact hFqm10_16
      have hFqm11_19 : F18 (qm 11) = cI (cy 3) 5 Kr.2.1 := by rw [eF18, va_up_ne _ _ (pl_ne hFqm11_16 hFqm15_16 rfl)]; exact hFqm11_16
      have hFqm12_19 : F18 (qm 12) = cI (cy 1) 60 Kr.2.2 := by rw [eF18, va_up_ne _ _ (pl_ne hFqm12_16 hFqm15_16 rfl)]; exact hFqm12_16
      have hFqm13_19 : F18 (qm 13) = cI (cy 1) 4 Bk.1 := by rw [eF18, va_up_ne _ _ (pl_ne hFqm13_16 hFqm15_16 rfl)]; exact hFqm13_16
      have hFqm14_19 : F18 (qm 14) = cD (cy 0) 4 Bk.2 := by rw [eF18, va_up_ne _ _ (pl_ne hFqm14_16 hFqm15_16 rfl)]; exact hFqm14_16
      have hFqm15_19 : F18 (qm 15) = cI (cy 1) 6 (upd Xx.2 2 (Xx.2 2 + 1)) := by rw [eF18]; exact va_up_self _ _ _
      have hr19 := hqr19
      refine lv_goto (tgt := 52) hx hb dX9_at_38 (by decide) ?_
      exact W.iret (v := r19) hx hb hr (fun t ht hW => ⟨⟨r19, F18, rfl, (by subst hr19; have hsp : sp_at Kr Xx (nI j_rk) i = (-10 - 2, failX Xx 2) := (by unfold sp_at; rw [hi_rk]; exact (if_neg hp0_i).trans (by rw [hp_i]; rfl)); rw [hsp]; exact ⟨rfl, (by exact ⟨⟨_, _, hmo, hFo_19⟩, ⟨hm0, hFqm0_19⟩, ⟨hm1, hFqm1_19⟩, ⟨hm2, hFqm2_19⟩, ⟨hm3, hFqm3_19⟩, ⟨hm4, hFqm4_19⟩, ⟨hm5, hFqm5_19⟩, ⟨hm6, hFqm6_19⟩, ⟨hm7, hFqm7_19⟩, ⟨hm8, hFqm8_19⟩, ⟨hm9, hFqm9_19⟩, ⟨hm10, hFqm10_19⟩, ⟨hm11, hFqm11_19⟩, ⟨hm12, hFqm12_19⟩, ⟨hm13, hFqm13_19⟩, ⟨hm14, hFqm14_19⟩, ⟨hm15, hFqm15_19⟩, hne⟩)⟩), (by show va_P _ _ _ t.heap; rw [ht]; exact hP)⟩, hS.F ht⟩) hS.2.2 dX9_at_52
    · subst ei_i
      refine lv_aload_n hx hb dX9_at_0 rfl (lv_at hl 0 rfl) ?_
      refine lv_iconst (v := 0) hx hb dX9_at_1 (by decide) ?_
      refine pg_put (ci := 8) (v := .int 0) (ty := .int) (C := RX9) (T := TX9) (N := 20) hx hb hts hinX9 tyX9 tyX9_ok nmX9 hown hK hP hD hS hmo hFo rfl 0 (by decide) (hts (.fieldLink RX9 61 "RopeDrumsModel" "thrown" "I") (by decide +kernel)) (fun _ h9 => h9) rfl (by decide +kernel) (rfl) (rfl) (Nat.le_of_ble_eq_true rfl) dX9_at_2 (fun H locs F20 eF20 hP hS => ?_)
      have eF20 : F20 = va_up F o (.inr (8, [.int 0, .ref (qm 0), .ref (qm 1), .ref (qm 2), .ref (qm 3), .ref (qm 4), .ref (qm 5), .ref (qm 6), .ref (qm 7), .int Pp.1, .ref (qm 8), .ref (qm 9), .ref (qm 10), .ref (qm 11), .ref (qm 12), .ref (qm 13), .ref (qm 14), .int Xx.1, .ref (qm 15), .long oc])) := eF20
      have hFo_20 : F20 o = .inr (8, [.int 0, .ref (qm 0), .ref (qm 1), .ref (qm 2), .ref (qm 3), .ref (qm 4), .ref (qm 5), .ref (qm 6), .ref (qm 7), .int Pp.1, .ref (qm 8), .ref (qm 9), .ref (qm 10), .ref (qm 11), .ref (qm 12), .ref (qm 13), .ref (qm 14), .int Xx.1, .ref (qm 15), .long oc]) := by rw [eF20]; exact va_up_self _ _ _
      have hFqm0_20 : F20 (qm 0) = cI (cy 1) 10 Mm.1 := by rw [eF20, va_up_ne _ _ (pl_ne hF0 hFo rfl)]; exact hF0
      have hFqm1_20 : F20 (qm 1) = cJ (cy 2) 10 Mm.2 := by rw [eF20, va_up_ne _ _ (pl_ne hF1 hFo rfl)]; exact hF1
      have hFqm2_20 : F20 (qm 2) = cD (cy 0) 6 Dd.1 := by rw [eF20, va_up_ne _ _ (pl_ne hF2 hFo rfl)]; exact hF2
      have hFqm3_20 : F20 (qm 3) = cD (cy 0) 6 Dd.2.1 := by rw [eF20, va_up_ne _ _ (pl_ne hF3 hFo rfl)]; exact hF3
      have hFqm4_20 : F20 (qm 4) = cD (cy 0) 6 Dd.2.2.1 := by rw [eF20, va_up_ne _ _ (pl_ne hF4 hFo rfl)]; exact hF4
      have hFqm5_20 : F20 (qm 5) = cJ (cy 2) 6 Dd.2.2.2 := by rw [eF20, va_up_ne _ _ (pl_ne hF5 hFo rfl)]; exact hF5
      have hFqm6_20 : F20 (qm 6) = cI (cy 1) 8 Sl.1 := by rw [eF20, va_up_ne _ _ (pl_ne hF6 hFo rfl)]; exact hF6
      have hFqm7_20 : F20 (qm 7) = cJ (cy 2) 128 Sl.2 := by rw [eF20, va_up_ne _ _ (pl_ne hF7 hFo rfl)]; exact hF7
      have hFqm8_20 : F20 (qm 8) = cI (cy 1) 30 Pp.2.1 := by rw [eF20, va_up_ne _ _ (pl_ne hF8 hFo rfl)]; exact hF8
      have hFqm9_20 : F20 (qm 9) = cI (cy 3) 30 Pp.2.2 := by rw [eF20, va_up_ne _ _ (pl_ne hF9 hFo rfl)]; exact hF9
      have hFqm10_20 : F20 (qm 10) = cI (cy 1) 5 Kr.1 := by rw [eF20, va_up_ne _ _ (pl_ne hF10 hFo rfl)]; exact hF10
      have hFqm11_20 : F20 (qm 11) = cI (cy 3) 5 Kr.2.1 := by rw [eF20, va_up_ne _ _ (pl_ne hF11 hFo rfl)]; exact hF11
      have hFqm12_20 : F20 (qm 12) = cI (cy 1) 60 Kr.2.2 := by rw [eF20, va_up_ne _ _ (pl_ne hF12 hFo rfl)]; exact hF12
      have hFqm13_20 : F20 (qm 13) = cI (cy 1) 4 Bk.1 := by rw [eF20, va_up_ne _ _ (pl_ne hF13 hFo rfl)]; exact hF13
      have hFqm14_20 : F20 (qm 14) = cD (cy 0) 4 Bk.2 := by rw [eF20, va_up_ne _ _ (pl_ne hF14 hFo rfl)]; exact hF14
      have hFqm15_20 : F20 (qm 15) = cI (cy 1) 6 Xx.2 := by rw [eF20, va_up_ne _ _ (pl_ne hF15 hFo rfl)]; exact hF15
      refine lv_iload_n hx hb dX9_at_5 rfl (lv_at hl 1 rfl) ?_
      refine vp_callSi (W.runS (As := [.int (nI j_rk)]) (rest := []) ⟨hx, hb, hml, hown, hts⟩ (c9_isRack l (nI j_rk)) (va_cwS 1 hts gX9_at_X9_isRack rfl rfl rfl (by decide +kernel) ⟨Nat.le_of_ble_eq_true rfl, Nat.le_of_ble_eq_true rfl⟩) (preS_of okT (trivial)) rfl rfl hl.1 rfl (lv_room (Nat.le_of_ble_eq_true rfl)) dX9_at_6 ⟨Nat.le_of_ble_eq_true rfl, Nat.le_of_ble_eq_true rfl⟩) (fun r21 hr21 => ?_)
      rw [isx1 hi_rk] at hr21
      subst hr21
      refine lv_if_ne (tgt := 16) hx hb dX9_at_9 (by decide) (fun c22 => ?_) (fun c22 => absurd c22 (by decide))
      refine lv_aload_n hx hb dX9_at_16 rfl (lv_at hl 0 rfl) ?_
      refine lv_aload_n hx hb dX9_at_17 rfl (lv_at hl 0 rfl) ?_
      refine lv_iload_n hx hb dX9_at_18 rfl (lv_at hl 1 rfl) ?_
      refine lv_iload_n hx hb dX9_at_19 rfl (lv_at hl 2 rfl) ?_
      refine vp_callSi (W.runV (As := [.int (nI j_rk), .int (nI q_i)]) (rest := [.ref o]) ⟨hx, hb, hml, hown, hts⟩ (c9_rackCause l G cy L F20 o qm 0 Pp.1 Xx.1 oc hmo hFo_20 Kr.1 hm10 hFqm10_20 j_rk hj_rk (nI q_i) ((hVK j_rk hj_rk).2.1)) (cwV 2 hts gX9_at_X9_rackCause rfl rfl rfl (by decide +kernel) ⟨Nat.le_of_ble_eq_true rfl, Nat.le_of_ble_eq_true rfl⟩) (preV_of okP (⟨hP, hK, hD.top⟩) (pl_recv hK hP (ci := 8) rfl hmo hFo_20)) rfl rfl hl.1 rfl (lv_room (Nat.le_of_ble_eq_true rfl)) dX9_at_20 ⟨Nat.le_of_ble_eq_true rfl, Nat.le_of_ble_eq_true rfl⟩) (fun r23 hr23 => ?_)
      rw [hp_i] at hr23
      have hzr23 : r23 = 0 := hr23
      clear hr23
      subst hzr23
      refine pg_put (ci := 8) (v := .int 0) (ty := .int) (C := RX9) (T := TX9) (N := 20) hx hb hts hinX9 tyX9 tyX9_ok nmX9 hown hK hP hD hS hmo hFo_20 rfl 17 (by decide) (hts (.fieldLink RX9 65 "RopeDrumsModel" "failed" "I") (by decide +kernel)) (fun _ h9 => h9) rfl (by decide +kernel) (rfl) (rfl) (Nat.le_of_ble_eq_true rfl) dX9_at_23 (fun H locs F24 eF24 hP hS => ?_)
      have eF24 : F24 = va_up F20 o (.inr (8, [.int 0, .ref (qm 0), .ref (qm 1), .ref (qm 2), .ref (qm 3), .ref (qm 4), .ref (qm 5), .ref (qm 6), .ref (qm 7), .int Pp.1, .ref (qm 8), .ref (qm 9), .ref (qm 10), .ref (qm 11), .ref (qm 12), .ref (qm 13), .ref (qm 14), .int 0, .ref (qm 15), .long oc])) := eF24
      have hFo_24 : F24 o = .inr (8, [.int 0, .ref (qm 0), .ref (qm 1), .ref (qm 2), .ref (qm 3), .ref (qm 4), .ref (qm 5), .ref (qm 6), .ref (qm 7), .int Pp.1, .ref (qm 8), .ref (qm 9), .ref (qm 10), .ref (qm 11), .ref (qm 12), .ref (qm 13), .ref (qm 14), .int 0, .ref (qm 15), .long oc]) := by rw [eF24]; exact va_up_self _ _ _
      have hFqm0_24 : F24 (qm 0) = cI (cy 1) 10 Mm.1 := by rw [eF24, va_up_ne _ _ (pl_ne hFqm0_20 hFo_20 rfl)]; exact hFqm0_20
      have hFqm1_24 : F24 (qm 1) = cJ (cy 2) 10 Mm.2 := by rw [eF24, va_up_ne _ _ (pl_ne hFqm1_20 hFo_20 rfl)]; exact hFqm1_20
      have hFqm2_24 : F24 (qm 2) = cD (cy 0) 6 Dd.1 := by rw [eF24, va_up_ne _ _ (pl_ne hFqm2_20 hFo_20 rfl)]; exact hFqm2_20
      have hFqm3_24 : F24 (qm 3) = cD (cy 0) 6 Dd.2.1 := by rw [eF24, va_up_ne _ _ (pl_ne hFqm3_20 hFo_20 rfl)]; exact hFqm3_20
      have hFqm4_24 : F24 (qm 4) = cD (cy 0) 6 Dd.2.2.1 := by rw [eF24, va_up_ne _ _ (pl_ne hFqm4_20 hFo_20 rfl)]; exact hFqm4_20
      have hFqm5_24 : F24 (qm 5) = cJ (cy 2) 6 Dd.2.2.2 := by rw [eF24, va_up_ne _ _ (pl_ne hFqm5_20 hFo_20 rfl)]; exact hFqm5_20
      have hFqm6_24 : F24 (qm 6) = cI (cy 1) 8 Sl.1 := by rw [eF24, va_up_ne _ _ (pl_ne hFqm6_20 hFo_20 rfl)]; exact hFqm6_20
      have hFqm7_24 : F24 (qm 7) = cJ (cy 2) 128 Sl.2 := by rw [eF24, va_up_ne _ _ (pl_ne hFqm7_20 hFo_20 rfl)]; exact hFqm7_20
      have hFqm8_24 : F24 (qm 8) = cI (cy 1) 30 Pp.2.1 := by rw [eF24, va_up_ne _ _ (pl_ne hFqm8_20 hFo_20 rfl)]; exact hFqm8_20
      have hFqm9_24 : F24 (qm 9) = cI (cy 3) 30 Pp.2.2 := by rw [eF24, va_up_ne _ _ (pl_ne hFqm9_20 hFo_20 rfl)]; exact hFqm9_20
      have hFqm10_24 : F24 (qm 10) = cI (cy 1) 5 Kr.1 := by rw [eF24, va_up_ne _ _ (pl_ne hFqm10_20 hFo_20 rfl)]; exact hFqm10_20
      have hFqm11_24 : F24 (qm 11) = cI (cy 3) 5 Kr.2.1 := by rw [eF24, va_up_ne _ _ (pl_ne hFqm11_20 hFo_20 rfl)]; exact hFqm11_20
      have hFqm12_24 : F24 (qm 12) = cI (cy 1) 60 Kr.2.2 := by rw [eF24, va_up_ne _ _ (pl_ne hFqm12_20 hFo_20 rfl)]; exact hFqm12_20
      have hFqm13_24 : F24 (qm 13) = cI (cy 1) 4 Bk.1 := by rw [eF24, va_up_ne _ _ (pl_ne hFqm13_20 hFo_20 rfl)]; exact hFqm13_20
      have hFqm14_24 : F24 (qm 14) = cD (cy 0) 4 Bk.2 := by rw [eF24, va_up_ne _ _ (pl_ne hFqm14_20 hFo_20 rfl)]; exact hFqm14_20
      have hFqm15_24 : F24 (qm 15) = cI (cy 1) 6 Xx.2 := by rw [eF24, va_up_ne _ _ (pl_ne hFqm15_20 hFo_20 rfl)]; exact hFqm15_20
      refine lv_aload_n hx hb dX9_at_26 rfl (lv_at hl 0 rfl) ?_
      refine pg_get (ci := 8) (C := RX9) (T := TX9) (N := 20) hx hb hts hinX9 hown hK hP hmo hFo_24 rfl 17 (by decide) (hts (.fieldLink RX9 65 "RopeDrumsModel" "failed" "I") (by decide +kernel)) (fun _ h9 => h9) rfl dX9_at_27 ?_
      refine lv_if_le (tgt := 41) hx hb dX9_at_30 (by decide) (fun c25 => ?_) (fun c25 => absurd (by decide) c25)
      refine lv_aload_n hx hb dX9_at_41 rfl (lv_at hl 0 rfl) ?_
      refine pg_get (ci := 8) (C := RX9) (T := TX9) (N := 20) hx hb hts hinX9 hown hK hP hmo hFo_24 rfl 14 (by decide) (hts (.fieldLink RX9 49 "RopeDrumsModel" "standing" "[I") (by decide +kernel)) (fun _ h9 => h9) rfl dX9_at_42 ?_
      refine lv_bipush (v := 12) hx hb dX9_at_45 (by decide) ?_
      refine lv_iload_n hx hb dX9_at_47 rfl (lv_at hl 1 rfl) ?_
      refine lv_imul hx hb dX9_at_48 ?_
      refine lv_topi (fun v26 ev26 => ?_)
      refine lv_iload_n hx hb dX9_at_49 rfl (lv_at hl 2 rfl) ?_
      refine lv_iadd hx hb dX9_at_50 ?_
      refine lv_topi (fun v27 ev27 => ?_)
      rw [ev26, nI12] at ev27
      subst ev27
      refine pg_iald hx hb hK hP 1 hm12 hFqm12_24 rfl (vp_in_nI (by omega) (by decide)) dX9_at_51 ?_
      refine lv_topi (fun v28 ev28 => ?_)
      rw [nI_clamp (by omega)] at ev28
      exact W.iret (v := v28) hx hb hr (fun t ht hW => ⟨⟨v28, F24, rfl, (by subst ev28 ev26; have hsp : sp_at Kr Xx (nI j_rk) (nI q_i) = (Kr.2.2 (12 * j_rk + q_i), goodX Xx) := (by unfold sp_at; rw [hi_rk]; exact (if_pos hp_i).trans (by rw [nI_tn (by omega)])); rw [hsp]; exact ⟨rfl, (by exact ⟨⟨_, _, hmo, hFo_24⟩, ⟨hm0, hFqm0_24⟩, ⟨hm1, hFqm1_24⟩, ⟨hm2, hFqm2_24⟩, ⟨hm3, hFqm3_24⟩, ⟨hm4, hFqm4_24⟩, ⟨hm5, hFqm5_24⟩, ⟨hm6, hFqm6_24⟩, ⟨hm7, hFqm7_24⟩, ⟨hm8, hFqm8_24⟩, ⟨hm9, hFqm9_24⟩, ⟨hm10, hFqm10_24⟩, ⟨hm11, hFqm11_24⟩, ⟨hm12, hFqm12_24⟩, ⟨hm13, hFqm13_24⟩, ⟨hm14, hFqm14_24⟩, ⟨hm15, hFqm15_24⟩, hne⟩)⟩), (by show va_P _ _ _ t.heap; rw [ht]; exact hP)⟩, hS.F ht⟩) hS.2.2 dX9_at_52

set_option maxHeartbeats 8000000 in
set_option maxRecDepth 100000 in
theorem n_weight (l : Launch) (G : va_G) (cy : Nat → ClassId) (L : List Nat) (F : Nat → va_E) (sz : Nat) (o : Nat) (qm : Nat → Nat) (Mm : SM) (Dd : SD) (Sl : SL) (Pp : SP) (Kr : SR) (Bk : SB) (Xx : SX) (hR : RepM cy L o qm Mm Dd Sl Pp Kr Bk Xx F) (hV : Val Mm Dd Sl Pp Kr Bk) (rk i re : Int32)  : Met l yX9_weight wsX9_weight ({ frames := 2, cells := 0, slots := 0, locals := 47 }) (va_Pc [.ref o, .int rk, .int i, .int re] (fun U => bQ G cy L F sz U U.heap)) (va_Qi (fun (r : Int32) (F' : Nat → va_E) => r = (sp_weight Pp Kr Xx rk i re).1 ∧ RepM cy L o qm Mm Dd Sl Pp Kr Bk (sp_weight Pp Kr Xx rk i re).2 F') (fun F' t => va_P G vwCl (va_pl L F') t.heap) (va_A (va_pl L F) sz)) 0 0 (va_A (va_pl L F) sz) := by
  refine Met.ofW (cc := cX9_weight) (maxL := 5) (ret := (some .int)) (by decide) rfl ?_
  intro p e s m args below meth c s₁ B hml hv
  obtain ⟨rfl, hsz, hP, hK, hD0⟩ := hv
  have hx := B.exec
  have hb := B.bytes
  have hr := B.returns
  have hts := atoms_spec (ws := wsX9_weight) B.pre
  have hown : s.vm.findClass RX9 = some m.cls := findClass_of_methodNamed B.named
  have hlocks := B.notSynchronized
  have hinX9 : ∀ w ∈ wsX90, w ∈ wsX9_weight := by decide +kernel
  subst hsz
  have hD := hD0.self F s.heap.size
  generalize hAe : va_A (va_pl L F) s.heap.size = A at hD ⊢
  have hA : ∀ q : Nat, s.heap.size ≤ q → A q := fun q h => by rw [← hAe]; exact Or.inr h
  have hS : va_S A s.heap s.heap [] := va_S.rf
  obtain ⟨⟨th, oc, hmo, hFo⟩, ⟨hm0, hF0⟩, ⟨hm1, hF1⟩, ⟨hm2, hF2⟩, ⟨hm3, hF3⟩, ⟨hm4, hF4⟩, ⟨hm5, hF5⟩, ⟨hm6, hF6⟩, ⟨hm7, hF7⟩, ⟨hm8, hF8⟩, ⟨hm9, hF9⟩, ⟨hm10, hF10⟩, ⟨hm11, hF11⟩, ⟨hm12, hF12⟩, ⟨hm13, hF13⟩, ⟨hm14, hF14⟩, ⟨hm15, hF15⟩, hne⟩ := id hR
  obtain ⟨hVM, hVD, hVS, hVP, hVK, hVB⟩ := hV
  have hp30 := hVP.1
  have hl := lv_entry ([.ref o, .int rk, .int i, .int re]) (n := 5) (Nat.le_of_ble_eq_true rfl)
  rw [lg_entry_eq]
  generalize (lg_sl ([.ref o, .int rk, .int i, .int re]) ++ List.replicate (5 - (lg_sl ([.ref o, .int rk, .int i, .int re])).length) Slot.unset).toArray = ls at hl ⊢
  have hl : lv_has ls 5 [(0, .ref o), (1, .int rk), (2, .int i), (3, .int re)] := hl
  rcases ixc 5 rk with hi_rk | ⟨j_rk, hj_rk, hi_rk, ei_rk⟩
  · refine lv_aload_n hx hb dX9_weight_0 rfl (lv_at hl 0 rfl) ?_
    refine lv_iconst (v := 0) hx hb dX9_weight_1 (by decide) ?_
    refine pg_put (ci := 8) (v := .int 0) (ty := .int) (C := RX9) (T := TX9) (N := 20) hx hb hts hinX9 tyX9 tyX9_ok nmX9 hown hK hP hD hS hmo hFo rfl 0 (by decide) (hts (.fieldLink RX9 61 "RopeDrumsModel" "thrown" "I") (by decide +kernel)) (fun _ h9 => h9) rfl (by decide +kernel) (rfl) (rfl) (Nat.le_of_ble_eq_true rfl) dX9_weight_2 (fun H locs F1 eF1 hP hS => ?_)
    have eF1 : F1 = va_up F o (.inr (8, [.int 0, .ref (qm 0), .ref (qm 1), .ref (qm 2), .ref (qm 3), .ref (qm 4), .ref (qm 5), .ref (qm 6), .ref (qm 7), .int Pp.1, .ref (qm 8), .ref (qm 9), .ref (qm 10), .ref (qm 11), .ref (qm 12), .ref (qm 13), .ref (qm 14), .int Xx.1, .ref (qm 15), .long oc])) := eF1
    have hFo_1 : F1 o = .inr (8, [.int 0, .ref (qm 0), .ref (qm 1), .ref (qm 2), .ref (qm 3), .ref (qm 4), .ref (qm 5), .ref (qm 6), .ref (qm 7), .int Pp.1, .ref (qm 8), .ref (qm 9), .ref (qm 10), .ref (qm 11), .ref (qm 12), .ref (qm 13), .ref (qm 14), .int Xx.1, .ref (qm 15), .long oc]) := by rw [eF1]; exact va_up_self _ _ _
    have hFqm0_1 : F1 (qm 0) = cI (cy 1) 10 Mm.1 := by rw [eF1, va_up_ne _ _ (pl_ne hF0 hFo rfl)]; exact hF0
    have hFqm1_1 : F1 (qm 1) = cJ (cy 2) 10 Mm.2 := by rw [eF1, va_up_ne _ _ (pl_ne hF1 hFo rfl)]; exact hF1
    have hFqm2_1 : F1 (qm 2) = cD (cy 0) 6 Dd.1 := by rw [eF1, va_up_ne _ _ (pl_ne hF2 hFo rfl)]; exact hF2
    have hFqm3_1 : F1 (qm 3) = cD (cy 0) 6 Dd.2.1 := by rw [eF1, va_up_ne _ _ (pl_ne hF3 hFo rfl)]; exact hF3
    have hFqm4_1 : F1 (qm 4) = cD (cy 0) 6 Dd.2.2.1 := by rw [eF1, va_up_ne _ _ (pl_ne hF4 hFo rfl)]; exact hF4
    have hFqm5_1 : F1 (qm 5) = cJ (cy 2) 6 Dd.2.2.2 := by rw [eF1, va_up_ne _ _ (pl_ne hF5 hFo rfl)]; exact hF5
    have hFqm6_1 : F1 (qm 6) = cI (cy 1) 8 Sl.1 := by rw [eF1, va_up_ne _ _ (pl_ne hF6 hFo rfl)]; exact hF6
    have hFqm7_1 : F1 (qm 7) = cJ (cy 2) 128 Sl.2 := by rw [eF1, va_up_ne _ _ (pl_ne hF7 hFo rfl)]; exact hF7
    have hFqm8_1 : F1 (qm 8) = cI (cy 1) 30 Pp.2.1 := by rw [eF1, va_up_ne _ _ (pl_ne hF8 hFo rfl)]; exact hF8
    have hFqm9_1 : F1 (qm 9) = cI (cy 3) 30 Pp.2.2 := by rw [eF1, va_up_ne _ _ (pl_ne hF9 hFo rfl)]; exact hF9
    have hFqm10_1 : F1 (qm 10) = cI (cy 1) 5 Kr.1 := by rw [eF1, va_up_ne _ _ (pl_ne hF10 hFo rfl)]; exact hF10
    have hFqm11_1 : F1 (qm 11) = cI (cy 3) 5 Kr.2.1 := by rw [eF1, va_up_ne _ _ (pl_ne hF11 hFo rfl)]; exact hF11
    have hFqm12_1 : F1 (qm 12) = cI (cy 1) 60 Kr.2.2 := by rw [eF1, va_up_ne _ _ (pl_ne hF12 hFo rfl)]; exact hF12
    have hFqm13_1 : F1 (qm 13) = cI (cy 1) 4 Bk.1 := by rw [eF1, va_up_ne _ _ (pl_ne hF13 hFo rfl)]; exact hF13
    have hFqm14_1 : F1 (qm 14) = cD (cy 0) 4 Bk.2 := by rw [eF1, va_up_ne _ _ (pl_ne hF14 hFo rfl)]; exact hF14
    have hFqm15_1 : F1 (qm 15) = cI (cy 1) 6 Xx.2 := by rw [eF1, va_up_ne _ _ (pl_ne hF15 hFo rfl)]; exact hF15
    refine lv_iload_n hx hb dX9_weight_5 rfl (lv_at hl 1 rfl) ?_
    refine vp_callSi (W.runS (As := [.int rk]) (rest := []) ⟨hx, hb, hml, hown, hts⟩ (c9_isRack l rk) (va_cwS 1 hts gX9_weight_X9_isRack rfl rfl rfl (by decide +kernel) ⟨Nat.le_of_ble_eq_true rfl, Nat.le_of_ble_eq_true rfl⟩) (preS_of okT (trivial)) rfl rfl hl.1 rfl (lv_room (Nat.le_of_ble_eq_true rfl)) dX9_weight_6 ⟨Nat.le_of_ble_eq_true rfl, Nat.le_of_ble_eq_true rfl⟩) (fun r2 hr2 => ?_)
    rw [isx0 hi_rk] at hr2
    subst hr2
    refine lv_if_ne (tgt := 16) hx hb dX9_weight_9 (by decide) (fun c3 => absurd (by decide) c3) (fun c3 => ?_)
    refine lv_sipush (v := -1001) hx hb dX9_weight_12 (by decide) ?_
    exact W.iret (v := -1001) hx hb hr (fun t ht hW => ⟨⟨-1001, F1, rfl, (by have hsp : sp_weight Pp Kr Xx rk i re = (-1001, Xx) := (by unfold sp_weight; rw [hi_rk]); rw [hsp]; exact ⟨rfl, (by exact ⟨⟨_, _, hmo, hFo_1⟩, ⟨hm0, hFqm0_1⟩, ⟨hm1, hFqm1_1⟩, ⟨hm2, hFqm2_1⟩, ⟨hm3, hFqm3_1⟩, ⟨hm4, hFqm4_1⟩, ⟨hm5, hFqm5_1⟩, ⟨hm6, hFqm6_1⟩, ⟨hm7, hFqm7_1⟩, ⟨hm8, hFqm8_1⟩, ⟨hm9, hFqm9_1⟩, ⟨hm10, hFqm10_1⟩, ⟨hm11, hFqm11_1⟩, ⟨hm12, hFqm12_1⟩, ⟨hm13, hFqm13_1⟩, ⟨hm14, hFqm14_1⟩, ⟨hm15, hFqm15_1⟩, hne⟩)⟩), (by show va_P _ _ _ t.heap; rw [ht]; exact hP)⟩, hS.F ht⟩) hS.2.2 dX9_weight_15
  · subst ei_rk
    rcases lackc (i := i) (by decide) ((hVK j_rk hj_rk).2.1) with ⟨hp_i, hk_i⟩ | ⟨hp_i, hk_i⟩ | ⟨q_i, hq_i, hs_i, hp_i, hk_i, ei_i⟩
    · have hp0_i : ¬ pl0 (Kr.1 j_rk) i = 0 := by rw [hp_i]; decide
      refine lv_aload_n hx hb dX9_weight_0 rfl (lv_at hl 0 rfl) ?_
      refine lv_iconst (v := 0) hx hb dX9_weight_1 (by decide) ?_
      refine pg_put (ci := 8) (v := .int 0) (ty := .int) (C := RX9) (T := TX9) (N := 20) hx hb hts hinX9 tyX9 tyX9_ok nmX9 hown hK hP hD hS hmo hFo rfl 0 (by decide) (hts (.fieldLink RX9 61 "RopeDrumsModel" "thrown" "I") (by decide +kernel)) (fun _ h9 => h9) rfl (by decide +kernel) (rfl) (rfl) (Nat.le_of_ble_eq_true rfl) dX9_weight_2 (fun H locs F4 eF4 hP hS => ?_)
      have eF4 : F4 = va_up F o (.inr (8, [.int 0, .ref (qm 0), .ref (qm 1), .ref (qm 2), .ref (qm 3), .ref (qm 4), .ref (qm 5), .ref (qm 6), .ref (qm 7), .int Pp.1, .ref (qm 8), .ref (qm 9), .ref (qm 10), .ref (qm 11), .ref (qm 12), .ref (qm 13), .ref (qm 14), .int Xx.1, .ref (qm 15), .long oc])) := eF4
      have hFo_4 : F4 o = .inr (8, [.int 0, .ref (qm 0), .ref (qm 1), .ref (qm 2), .ref (qm 3), .ref (qm 4), .ref (qm 5), .ref (qm 6), .ref (qm 7), .int Pp.1, .ref (qm 8), .ref (qm 9), .ref (qm 10), .ref (qm 11), .ref (qm 12), .ref (qm 13), .ref (qm 14), .int Xx.1, .ref (qm 15), .long oc]) := by rw [eF4]; exact va_up_self _ _ _
      have hFqm0_4 : F4 (qm 0) = cI (cy 1) 10 Mm.1 := by rw [eF4, va_up_ne _ _ (pl_ne hF0 hFo rfl)]; exact hF0
      have hFqm1_4 : F4 (qm 1) = cJ (cy 2) 10 Mm.2 := by rw [eF4, va_up_ne _ _ (pl_ne hF1 hFo rfl)]; exact hF1
      have hFqm2_4 : F4 (qm 2) = cD (cy 0) 6 Dd.1 := by rw [eF4, va_up_ne _ _ (pl_ne hF2 hFo rfl)]; exact hF2
      have hFqm3_4 : F4 (qm 3) = cD (cy 0) 6 Dd.2.1 := by rw [eF4, va_up_ne _ _ (pl_ne hF3 hFo rfl)]; exact hF3
      have hFqm4_4 : F4 (qm 4) = cD (cy 0) 6 Dd.2.2.1 := by rw [eF4, va_up_ne _ _ (pl_ne hF4 hFo rfl)]; exact hF4
      have hFqm5_4 : F4 (qm 5) = cJ (cy 2) 6 Dd.2.2.2 := by rw [eF4, va_up_ne _ _ (pl_ne hF5 hFo rfl)]; exact hF5
      have hFqm6_4 : F4 (qm 6) = cI (cy 1) 8 Sl.1 := by rw [eF4, va_up_ne _ _ (pl_ne hF6 hFo rfl)]; exact hF6
      have hFqm7_4 : F4 (qm 7) = cJ (cy 2) 128 Sl.2 := by rw [eF4, va_up_ne _ _ (pl_ne hF7 hFo rfl)]; exact hF7
      have hFqm8_4 : F4 (qm 8) = cI (cy 1) 30 Pp.2.1 := by rw [eF4, va_up_ne _ _ (pl_ne hF8 hFo rfl)]; exact hF8
      have hFqm9_4 : F4 (qm 9) = cI (cy 3) 30 Pp.2.2 := by rw [eF4, va_up_ne _ _ (pl_ne hF9 hFo rfl)]; exact hF9
      have hFqm10_4 : F4 (qm 10) = cI (cy 1) 5 Kr.1 := by rw [eF4, va_up_ne _ _ (pl_ne hF10 hFo rfl)]; exact hF10
      have hFqm11_4 : F4 (qm 11) = cI (cy 3) 5 Kr.2.1 := by rw [eF4, va_up_ne _ _ (pl_ne hF11 hFo rfl)]; exact hF11
      have hFqm12_4 : F4 (qm 12) = cI (cy 1) 60 Kr.2.2 := by rw [eF4, va_up_ne _ _ (pl_ne hF12 hFo rfl)]; exact hF12
      have hFqm13_4 : F4 (qm 13) = cI (cy 1) 4 Bk.1 := by rw [eF4, va_up_ne _ _ (pl_ne hF13 hFo rfl)]; exact hF13
      have hFqm14_4 : F4 (qm 14) = cD (cy 0) 4 Bk.2 := by rw [eF4, va_up_ne _ _ (pl_ne hF14 hFo rfl)]; exact hF14
      have hFqm15_4 : F4 (qm 15) = cI (cy 1) 6 Xx.2 := by rw [eF4, va_up_ne _ _ (pl_ne hF15 hFo rfl)]; exact hF15
      refine lv_iload_n hx hb dX9_weight_5 rfl (lv_at hl 1 rfl) ?_
      refine vp_callSi (W.runS (As := [.int (nI j_rk)]) (rest := []) ⟨hx, hb, hml, hown, hts⟩ (c9_isRack l (nI j_rk)) (va_cwS 1 hts gX9_weight_X9_isRack rfl rfl rfl (by decide +kernel) ⟨Nat.le_of_ble_eq_true rfl, Nat.le_of_ble_eq_true rfl⟩) (preS_of okT (trivial)) rfl rfl hl.1 rfl (lv_room (Nat.le_of_ble_eq_true rfl)) dX9_weight_6 ⟨Nat.le_of_ble_eq_true rfl, Nat.le_of_ble_eq_true rfl⟩) (fun r5 hr5 => ?_)
      rw [isx1 hi_rk] at hr5
      subst hr5
      refine lv_if_ne (tgt := 16) hx hb dX9_weight_9 (by decide) (fun c6 => ?_) (fun c6 => absurd c6 (by decide))
      refine lv_aload_n hx hb dX9_weight_16 rfl (lv_at hl 0 rfl) ?_
      refine lv_aload_n hx hb dX9_weight_17 rfl (lv_at hl 0 rfl) ?_
      refine lv_iload_n hx hb dX9_weight_18 rfl (lv_at hl 1 rfl) ?_
      refine lv_iload_n hx hb dX9_weight_19 rfl (lv_at hl 2 rfl) ?_
      refine vp_callSi (W.runV (As := [.int (nI j_rk), .int i]) (rest := [.ref o]) ⟨hx, hb, hml, hown, hts⟩ (c9_rackCause l G cy L F4 o qm 0 Pp.1 Xx.1 oc hmo hFo_4 Kr.1 hm10 hFqm10_4 j_rk hj_rk i ((hVK j_rk hj_rk).2.1)) (cwV 2 hts gX9_weight_X9_rackCause rfl rfl rfl (by decide +kernel) ⟨Nat.le_of_ble_eq_true rfl, Nat.le_of_ble_eq_true rfl⟩) (preV_of okP (⟨hP, hK, hD.top⟩) (pl_recv hK hP (ci := 8) rfl hmo hFo_4)) rfl rfl hl.1 rfl (lv_room (Nat.le_of_ble_eq_true rfl)) dX9_weight_20 ⟨Nat.le_of_ble_eq_true rfl, Nat.le_of_ble_eq_true rfl⟩) (fun r7 hr7 => ?_)
      rw [hp_i] at hr7
      have hzr7 : r7 = 1 := hr7
      clear hr7
      subst hzr7
      refine pg_put (ci := 8) (v := .int 1) (ty := .int) (C := RX9) (T := TX9) (N := 20) hx hb hts hinX9 tyX9 tyX9_ok nmX9 hown hK hP hD hS hmo hFo_4 rfl 17 (by decide) (hts (.fieldLink RX9 65 "RopeDrumsModel" "failed" "I") (by decide +kernel)) (fun _ h9 => h9) rfl (by decide +kernel) (rfl) (rfl) (Nat.le_of_ble_eq_true rfl) dX9_weight_23 (fun H locs F8 eF8 hP hS => ?_)
      have eF8 : F8 = va_up F4 o (.inr (8, [.int 0, .ref (qm 0), .ref (qm 1), .ref (qm 2), .ref (qm 3), .ref (qm 4), .ref (qm 5), .ref (qm 6), .ref (qm 7), .int Pp.1, .ref (qm 8), .ref (qm 9), .ref (qm 10), .ref (qm 11), .ref (qm 12), .ref (qm 13), .ref (qm 14), .int 1, .ref (qm 15), .long oc])) := eF8
      have hFo_8 : F8 o = .inr (8, [.int 0, .ref (qm 0), .ref (qm 1), .ref (qm 2), .ref (qm 3), .ref (qm 4), .ref (qm 5), .ref (qm 6), .ref (qm 7), .int Pp.1, .ref (qm 8), .ref (qm 9), .ref (qm 10), .ref (qm 11), .ref (qm 12), .ref (qm 13), .ref (qm 14), .int 1, .ref (qm 15), .long oc]) := by rw [eF8]; exact va_up_self _ _ _
      have hFqm0_8 : F8 (qm 0) = cI (cy 1) 10 Mm.1 := by rw [eF8, va_up_ne _ _ (pl_ne hFqm0_4 hFo_4 rfl)]; exact hFqm0_4
      have hFqm1_8 : F8 (qm 1) = cJ (cy 2) 10 Mm.2 := by rw [eF8, va_up_ne _ _ (pl_ne hFqm1_4 hFo_4 rfl)]; exact hFqm1_4
      have hFqm2_8 : F8 (qm 2) = cD (cy 0) 6 Dd.1 := by rw [eF8, va_up_ne _ _ (pl_ne hFqm2_4 hFo_4 rfl)]; exact hFqm2_4
      have hFqm3_8 : F8 (qm 3) = cD (cy 0) 6 Dd.2.1 := by rw [eF8, va_up_ne _ _ (pl_ne hFqm3_4 hFo_4 rfl)]; exact hFqm3_4
      have hFqm4_8 : F8 (qm 4) = cD (cy 0) 6 Dd.2.2.1 := by rw [eF8, va_up_ne _ _ (pl_ne hFqm4_4 hFo_4 rfl)]; exact hFqm4_4
      have hFqm5_8 : F8 (qm 5) = cJ (cy 2) 6 Dd.2.2.2 := by rw [eF8, va_up_ne _ _ (pl_ne hFqm5_4 hFo_4 rfl)]; exact hFqm5_4
      have hFqm6_8 : F8 (qm 6) = cI (cy 1) 8 Sl.1 := by rw [eF8, va_up_ne _ _ (pl_ne hFqm6_4 hFo_4 rfl)]; exact hFqm6_4
      have hFqm7_8 : F8 (qm 7) = cJ (cy 2) 128 Sl.2 := by rw [eF8, va_up_ne _ _ (pl_ne hFqm7_4 hFo_4 rfl)]; exact hFqm7_4
      have hFqm8_8 : F8 (qm 8) = cI (cy 1) 30 Pp.2.1 := by rw [eF8, va_up_ne _ _ (pl_ne hFqm8_4 hFo_4 rfl)]; exact hFqm8_4
      have hFqm9_8 : F8 (qm 9) = cI (cy 3) 30 Pp.2.2 := by rw [eF8, va_up_ne _ _ (pl_ne hFqm9_4 hFo_4 rfl)]; exact hFqm9_4
      have hFqm10_8 : F8 (qm 10) = cI (cy 1) 5 Kr.1 := by rw [eF8, va_up_ne _ _ (pl_ne hFqm10_4 hFo_4 rfl)]; exact hFqm10_4
      have hFqm11_8 : F8 (qm 11) = cI (cy 3) 5 Kr.2.1 := by rw [eF8, va_up_ne _ _ (pl_ne hFqm11_4 hFo_4 rfl)]; exact hFqm11_4
      have hFqm12_8 : F8 (qm 12) = cI (cy 1) 60 Kr.2.2 := by rw [eF8, va_up_ne _ _ (pl_ne hFqm12_4 hFo_4 rfl)]; exact hFqm12_4
      have hFqm13_8 : F8 (qm 13) = cI (cy 1) 4 Bk.1 := by rw [eF8, va_up_ne _ _ (pl_ne hFqm13_4 hFo_4 rfl)]; exact hFqm13_4
      have hFqm14_8 : F8 (qm 14) = cD (cy 0) 4 Bk.2 := by rw [eF8, va_up_ne _ _ (pl_ne hFqm14_4 hFo_4 rfl)]; exact hFqm14_4
      have hFqm15_8 : F8 (qm 15) = cI (cy 1) 6 Xx.2 := by rw [eF8, va_up_ne _ _ (pl_ne hFqm15_4 hFo_4 rfl)]; exact hFqm15_4
      refine lv_aload_n hx hb dX9_weight_26 rfl (lv_at hl 0 rfl) ?_
      refine pg_get (ci := 8) (C := RX9) (T := TX9) (N := 20) hx hb hts hinX9 hown hK hP hmo hFo_8 rfl 17 (by decide) (hts (.fieldLink RX9 65 "RopeDrumsModel" "failed" "I") (by decide +kernel)) (fun _ h9 => h9) rfl dX9_weight_27 ?_
      refine lv_if_le (tgt := 39) hx hb dX9_weight_30 (by decide) (fun c9 => absurd c9 (by decide)) (fun c9 => ?_)
      refine lv_aload_n hx hb dX9_weight_33 rfl (lv_at hl 0 rfl) ?_
      refine lv_iconst (v := 0) hx hb dX9_weight_34 (by decide) ?_
      refine va_calli (va_runV (As := [.int 0]) (rest := []) ⟨hx, hb, hml, hown, hts⟩ (c9_answers_1 l G cy L F8 H.size o qm 0 Pp.1 oc hmo hFo_8 Xx.2 hm15 hFqm15_8 0) (cwV 1 hts gX9_weight_X9_answers rfl rfl rfl (by decide +kernel) ⟨Nat.le_of_ble_eq_true rfl, Nat.le_of_ble_eq_true rfl⟩) (preV_of okQ (⟨rfl, hP, hK, hD.top⟩) (pl_recv hK hP (ci := 8) rfl hmo hFo_8)) rfl rfl hl.1 rfl (lv_room (Nat.le_of_ble_eq_true rfl)) dX9_weight_35 ⟨Nat.le_of_ble_eq_true rfl, Nat.le_of_ble_eq_true rfl⟩) hS (fun q _ h => pl_free hD hS hA q h) (pl_free hD hS hA) (fun r11 F10 t H1 locs ht hvm hw hP1 hz1 hk1 hS => ?_)
      have hP1 : va_P G vwCl (va_pl L F10) t.heap := hP1
      rw [ht] at hP1
      have hP := hP1
      generalize H1 = H at hP hS ⊢
      obtain ⟨hqr11, eF10⟩ := hw
      have eF10 : F10 = va_up F8 (qm 15) (cI (cy 1) 6 (upd Xx.2 1 (Xx.2 1 + 1))) := eF10
      have hFo_11 : F10 o = .inr (8, [.int 0, .ref (qm 0), .ref (qm 1), .ref (qm 2), .ref (qm 3), .ref (qm 4), .ref (qm 5), .ref (qm 6), .ref (qm 7), .int Pp.1, .ref (qm 8), .ref (qm 9), .ref (qm 10), .ref (qm 11), .ref (qm 12), .ref (qm 13), .ref (qm 14), .int 1, .ref (qm 15), .long oc]) := by rw [eF10, va_up_ne _ _ (pl_ne hFo_8 hFqm15_8 rfl)]; exact hFo_8
      have hFqm0_11 : F10 (qm 0) = cI (cy 1) 10 Mm.1 := by rw [eF10, va_up_ne _ _ (pl_ne hFqm0_8 hFqm15_8 rfl)]; exact hFqm0_8
      have hFqm1_11 : F10 (qm 1) = cJ (cy 2) 10 Mm.2 := by rw [eF10, va_up_ne _ _ (pl_ne hFqm1_8 hFqm15_8 rfl)]; exact hFqm1_8
      have hFqm2_11 : F10 (qm 2) = cD (cy 0) 6 Dd.1 := by rw [eF10, va_up_ne _ _ (pl_ne hFqm2_8 hFqm15_8 rfl)]; exact hFqm2_8
      have hFqm3_11 : F10 (qm 3) = cD (cy 0) 6 Dd.2.1 := by rw [eF10, va_up_ne _ _ (pl_ne hFqm3_8 hFqm15_8 rfl)]; exact hFqm3_8
      have hFqm4_11 : F10 (qm 4) = cD (cy 0) 6 Dd.2.2.1 := by rw [eF10, va_up_ne _ _ (pl_ne hFqm4_8 hFqm15_8 rfl)]; exact hFqm4_8
      have hFqm5_11 : F10 (qm 5) = cJ (cy 2) 6 Dd.2.2.2 := by rw [eF10, va_up_ne _ _ (pl_ne hFqm5_8 hFqm15_8 rfl)]; exact hFqm5_8
      have hFqm6_11 : F10 (qm 6) = cI (cy 1) 8 Sl.1 := by rw [eF10, va_up_ne _ _ (pl_ne hFqm6_8 hFqm15_8 rfl)]; exact hFqm6_8
      have hFqm7_11 : F10 (qm 7) = cJ (cy 2) 128 Sl.2 := by rw [eF10, va_up_ne _ _ (pl_ne hFqm7_8 hFqm15_8 rfl)]; exact hFqm7_8
      have hFqm8_11 : F10 (qm 8) = cI (cy 1) 30 Pp.2.1 := by rw [eF10, va_up_ne _ _ (pl_ne hFqm8_8 hFqm15_8 rfl)]; exact hFqm8_8
      have hFqm9_11 : F10 (qm 9) = cI (cy 3) 30 Pp.2.2 := by rw [eF10, va_up_ne _ _ (pl_ne hFqm9_8 hFqm15_8 rfl)]; exact hFqm9_8
      have hFqm10_11 : F10 (qm 10) = cI (cy 1) 5 Kr.1 := by rw [eF10, va_up_ne _ _ (pl_ne hFqm10_8 hFqm15_8 rfl)]; exact hFqm10_8
      have hFqm11_11 : F10 (qm 11) = cI (cy 3) 5 Kr.2.1 := by rw [eF10, va_up_ne _ _ (pl_ne hFqm11_8 hFqm15_8 rfl)]; exact hFqm11_8
      have hFqm12_11 : F10 (qm 12) = cI (cy 1) 60 Kr.2.2 := by rw [eF10, va_up_ne _ _ (pl_ne hFqm12_8 hFqm15_8 rfl)]; exact hFqm12_8
      have hFqm13_11 : F10 (qm 13) = cI (cy 1) 4 Bk.1 := by rw [eF10, va_up_ne _ _ (pl_ne hFqm13_8 hFqm15_8 rfl)]; exact hFqm13_8
      have hFqm14_11 : F10 (qm 14) = cD (cy 0) 4 Bk.2 := by rw [eF10, va_up_ne _ _ (pl_ne hFqm14_8 hFqm15_8 rfl)]; exact hFqm14_8
      have hFqm15_11 : F10 (qm 15) = cI (cy 1) 6 (upd Xx.2 1 (Xx.2 1 + 1)) := by rw [eF10]; exact va_up_self _ _ _
      have hr11 := hqr11
      exact W.iret (v := r11) hx hb hr (fun t ht hW => ⟨⟨r11, F10, rfl, (by subst hr11; have hsp : sp_weight Pp Kr Xx (nI j_rk) i re = (-10 - 1, failX Xx 1) := (by unfold sp_weight; rw [hi_rk]; exact (if_neg hp0_i).trans (by rw [hp_i]; rfl)); rw [hsp]; exact ⟨rfl, (by exact ⟨⟨_, _, hmo, hFo_11⟩, ⟨hm0, hFqm0_11⟩, ⟨hm1, hFqm1_11⟩, ⟨hm2, hFqm2_11⟩, ⟨hm3, hFqm3_11⟩, ⟨hm4, hFqm4_11⟩, ⟨hm5, hFqm5_11⟩, ⟨hm6, hFqm6_11⟩, ⟨hm7, hFqm7_11⟩, ⟨hm8, hFqm8_11⟩, ⟨hm9, hFqm9_11⟩, ⟨hm10, hFqm10_11⟩, ⟨hm11, hFqm11_11⟩, ⟨hm12, hFqm12_11⟩, ⟨hm13, hFqm13_11⟩, ⟨hm14, hFqm14_11⟩, ⟨hm15, hFqm15_11⟩, hne⟩)⟩), (by show va_P _ _ _ t.heap; rw [ht]; exact hP)⟩, hS.F ht⟩) hS.2.2 dX9_weight_38
    · have hp0_i : ¬ pl0 (Kr.1 j_rk) i = 0 := by rw [hp_i]; decide
      refine lv_aload_n hx hb dX9_weight_0 rfl (lv_at hl 0 rfl) ?_
      refine lv_iconst (v := 0) hx hb dX9_weight_1 (by decide) ?_
      refine pg_put (ci := 8) (v := .int 0) (ty := .int) (C := RX9) (T := TX9) (N := 20) hx hb hts hinX9 tyX9 tyX9_ok nmX9 hown hK hP hD hS hmo hFo rfl 0 (by decide) (hts (.fieldLink RX9 61 "RopeDrumsModel" "thrown" "I") (by decide +kernel)) (fun _ h9 => h9) rfl (by decide +kernel) (rfl) (rfl) (Nat.le_of_ble_eq_true rfl) dX9_weight_2 (fun H locs F12 eF12 hP hS => ?_)
      have eF12 : F12 = va_up F o (.inr (8, [.int 0, .ref (qm 0), .ref (qm 1), .ref (qm 2), .ref (qm 3), .ref (qm 4), .ref (qm 5), .ref (qm 6), .ref (qm 7), .int Pp.1, .ref (qm 8), .ref (qm 9), .ref (qm 10), .ref (qm 11), .ref (qm 12), .ref (qm 13), .ref (qm 14), .int Xx.1, .ref (qm 15), .long oc])) := eF12
      have hFo_12 : F12 o = .inr (8, [.int 0, .ref (qm 0), .ref (qm 1), .ref (qm 2), .ref (qm 3), .ref (qm 4), .ref (qm 5), .ref (qm 6), .ref (qm 7), .int Pp.1, .ref (qm 8), .ref (qm 9), .ref (qm 10), .ref (qm 11), .ref (qm 12), .ref (qm 13), .ref (qm 14), .int Xx.1, .ref (qm 15), .long oc]) := by rw [eF12]; exact va_up_self _ _ _
      have hFqm0_12 : F12 (qm 0) = cI (cy 1) 10 Mm.1 := by rw [eF12, va_up_ne _ _ (pl_ne hF0 hFo rfl)]; exact hF0
      have hFqm1_12 : F12 (qm 1) = cJ (cy 2) 10 Mm.2 := by rw [eF12, va_up_ne _ _ (pl_ne hF1 hFo rfl)]; exact hF1
      have hFqm2_12 : F12 (qm 2) = cD (cy 0) 6 Dd.1 := by rw [eF12, va_up_ne _ _ (pl_ne hF2 hFo rfl)]; exact hF2
      have hFqm3_12 : F12 (qm 3) = cD (cy 0) 6 Dd.2.1 := by rw [eF12, va_up_ne _ _ (pl_ne hF3 hFo rfl)]; exact hF3
      have hFqm4_12 : F12 (qm 4) = cD (cy 0) 6 Dd.2.2.1 := by rw [eF12, va_up_ne _ _ (pl_ne hF4 hFo rfl)]; exact hF4
      have hFqm5_12 : F12 (qm 5) = cJ (cy 2) 6 Dd.2.2.2 := by rw [eF12, va_up_ne _ _ (pl_ne hF5 hFo rfl)]; exact hF5
      have hFqm6_12 : F12 (qm 6) = cI (cy 1) 8 Sl.1 := by rw [eF12, va_up_ne _ _ (pl_ne hF6 hFo rfl)]; exact hF6
      have hFqm7_12 : F12 (qm 7) = cJ (cy 2) 128 Sl.2 := by rw [eF12, va_up_ne _ _ (pl_ne hF7 hFo rfl)]; exact hF7
      have hFqm8_12 : F12 (qm 8) = cI (cy 1) 30 Pp.2.1 := by rw [eF12, va_up_ne _ _ (pl_ne hF8 hFo rfl)]; exact hF8
      have hFqm9_12 : F12 (qm 9) = cI (cy 3) 30 Pp.2.2 := by rw [eF12, va_up_ne _ _ (pl_ne hF9 hFo rfl)]; exact hF9
      have hFqm10_12 : F12 (qm 10) = cI (cy 1) 5 Kr.1 := by rw [eF12, va_up_ne _ _ (pl_ne hF10 hFo rfl)]; exact hF10
      have hFqm11_12 : F12 (qm 11) = cI (cy 3) 5 Kr.2.1 := by rw [eF12, va_up_ne _ _ (pl_ne hF11 hFo rfl)]; exact hF11
      have hFqm12_12 : F12 (qm 12) = cI (cy 1) 60 Kr.2.2 := by rw [eF12, va_up_ne _ _ (pl_ne hF12 hFo rfl)]; exact hF12
      have hFqm13_12 : F12 (qm 13) = cI (cy 1) 4 Bk.1 := by rw [eF12, va_up_ne _ _ (pl_ne hF13 hFo rfl)]; exact hF13
      have hFqm14_12 : F12 (qm 14) = cD (cy 0) 4 Bk.2 := by rw [eF12, va_up_ne _ _ (pl_ne hF14 hFo rfl)]; exact hF14
      have hFqm15_12 : F12 (qm 15) = cI (cy 1) 6 Xx.2 := by rw [eF12, va_up_ne _ _ (pl_ne hF15 hFo rfl)]; exact hF15
      refine lv_iload_n hx hb dX9_weight_5 rfl (lv_at hl 1 rfl) ?_
      refine vp_callSi (W.runS (As := [.int (nI j_rk)]) (rest := []) ⟨hx, hb, hml, hown, hts⟩ (c9_isRack l (nI j_rk)) (va_cwS 1 hts gX9_weight_X9_isRack rfl rfl rfl (by decide +kernel) ⟨Nat.le_of_ble_eq_true rfl, Nat.le_of_ble_eq_true rfl⟩) (preS_of okT (trivial)) rfl rfl hl.1 rfl (lv_room (Nat.le_of_ble_eq_true rfl)) dX9_weight_6 ⟨Nat.le_of_ble_eq_true rfl, Nat.le_of_ble_eq_true rfl⟩) (fun r13 hr13 => ?_)
      rw [isx1 hi_rk] at hr13
      subst hr13
      refine lv_if_ne (tgt := 16) hx hb dX9_weight_9 (by decide) (fun c14 => ?_) (fun c14 => absurd c14 (by decide))
      refine lv_aload_n hx hb dX9_weight_16 rfl (lv_at hl 0 rfl) ?_
      refine lv_aload_n hx hb dX9_weight_17 rfl (lv_at hl 0 rfl) ?_
      refine lv_iload_n hx hb dX9_weight_18 rfl (lv_at hl 1 rfl) ?_
      refine lv_iload_n hx hb dX9_weight_19 rfl (lv_at hl 2 rfl) ?_
      refine vp_callSi (W.runV (As := [.int (nI j_rk), .int i]) (rest := [.ref o]) ⟨hx, hb, hml, hown, hts⟩ (c9_rackCause l G cy L F12 o qm 0 Pp.1 Xx.1 oc hmo hFo_12 Kr.1 hm10 hFqm10_12 j_rk hj_rk i ((hVK j_rk hj_rk).2.1)) (cwV 2 hts gX9_weight_X9_rackCause rfl rfl rfl (by decide +kernel) ⟨Nat.le_of_ble_eq_true rfl, Nat.le_of_ble_eq_true rfl⟩) (preV_of okP (⟨hP, hK, hD.top⟩) (pl_recv hK hP (ci := 8) rfl hmo hFo_12)) rfl rfl hl.1 rfl (lv_room (Nat.le_of_ble_eq_true rfl)) dX9_weight_20 ⟨Nat.le_of_ble_eq_true rfl, Nat.le_of_ble_eq_true rfl⟩) (fun r15 hr15 => ?_)
      rw [hp_i] at hr15
      have hzr15 : r15 = 2 := hr15
      clear hr15
      subst hzr15
      refine pg_put (ci := 8) (v := .int 2) (ty := .int) (C := RX9) (T := TX9) (N := 20) hx hb hts hinX9 tyX9 tyX9_ok nmX9 hown hK hP hD hS hmo hFo_12 rfl 17 (by decide) (hts (.fieldLink RX9 65 "RopeDrumsModel" "failed" "I") (by decide +kernel)) (fun _ h9 => h9) rfl (by decide +kernel) (rfl) (rfl) (Nat.le_of_ble_eq_true rfl) dX9_weight_23 (fun H locs F16 eF16 hP hS => ?_)
      have eF16 : F16 = va_up F12 o (.inr (8, [.int 0, .ref (qm 0), .ref (qm 1), .ref (qm 2), .ref (qm 3), .ref (qm 4), .ref (qm 5), .ref (qm 6), .ref (qm 7), .int Pp.1, .ref (qm 8), .ref (qm 9), .ref (qm 10), .ref (qm 11), .ref (qm 12), .ref (qm 13), .ref (qm 14), .int 2, .ref (qm 15), .long oc])) := eF16
      have hFo_16 : F16 o = .inr (8, [.int 0, .ref (qm 0), .ref (qm 1), .ref (qm 2), .ref (qm 3), .ref (qm 4), .ref (qm 5), .ref (qm 6), .ref (qm 7), .int Pp.1, .ref (qm 8), .ref (qm 9), .ref (qm 10), .ref (qm 11), .ref (qm 12), .ref (qm 13), .ref (qm 14), .int 2, .ref (qm 15), .long oc]) := by rw [eF16]; exact va_up_self _ _ _
      have hFqm0_16 : F16 (qm 0) = cI (cy 1) 10 Mm.1 := by rw [eF16, va_up_ne _ _ (pl_ne hFqm0_12 hFo_12 rfl)]; exact hFqm0_12
      have hFqm1_16 : F16 (qm 1) = cJ (cy 2) 10 Mm.2 := by rw [eF16, va_up_ne _ _ (pl_ne hFqm1_12 hFo_12 rfl)]; exact hFqm1_12
      have hFqm2_16 : F16 (qm 2) = cD (cy 0) 6 Dd.1 := by rw [eF16, va_up_ne _ _ (pl_ne hFqm2_12 hFo_12 rfl)]; exact hFqm2_12
      have hFqm3_16 : F16 (qm 3) = cD (cy 0) 6 Dd.2.1 := by rw [eF16, va_up_ne _ _ (pl_ne hFqm3_12 hFo_12 rfl)]; exact hFqm3_12
      have hFqm4_16 : F16 (qm 4) = cD (cy 0) 6 Dd.2.2.1 := by rw [eF16, va_up_ne _ _ (pl_ne hFqm4_12 hFo_12 rfl)]; exact hFqm4_12
      have hFqm5_16 : F16 (qm 5) = cJ (cy 2) 6 Dd.2.2.2 := by rw [eF16, va_up_ne _ _ (pl_ne hFqm5_12 hFo_12 rfl)]; exact hFqm5_12
      have hFqm6_16 : F16 (qm 6) = cI (cy 1) 8 Sl.1 := by rw [eF16, va_up_ne _ _ (pl_ne hFqm6_12 hFo_12 rfl)]; exact hFqm6_12
      have hFqm7_16 : F16 (qm 7) = cJ (cy 2) 128 Sl.2 := by rw [eF16, va_up_ne _ _ (pl_ne hFqm7_12 hFo_12 rfl)]; exact hFqm7_12
      have hFqm8_16 : F16 (qm 8) = cI (cy 1) 30 Pp.2.1 := by rw [eF16, va_up_ne _ _ (pl_ne hFqm8_12 hFo_12 rfl)]; exact hFqm8_12
      have hFqm9_16 : F16 (qm 9) = cI (cy 3) 30 Pp.2.2 := by rw [eF16, va_up_ne _ _ (pl_ne hFqm9_12 hFo_12 rfl)]; exact hFqm9_12
      have hFqm10_16 : F16 (qm 10) = cI (cy 1) 5 Kr.1 := by rw [eF16, va_up_ne _ _ (pl_ne hFqm10_12 hFo_12 rfl)]; exact hFqm10_12
      have hFqm11_16 : F16 (qm 11) = cI (cy 3) 5 Kr.2.1 := by rw [eF16, va_up_ne _ _ (pl_ne hFqm11_12 hFo_12 rfl)]; exact hFqm11_12
      have hFqm12_16 : F16 (qm 12) = cI (cy 1) 60 Kr.2.2 := by rw [eF16, va_up_ne _ _ (pl_ne hFqm12_12 hFo_12 rfl)]; exact hFqm12_12
      have hFqm13_16 : F16 (qm 13) = cI (cy 1) 4 Bk.1 := by rw [eF16, va_up_ne _ _ (pl_ne hFqm13_12 hFo_12 rfl)]; exact hFqm13_12
      have hFqm14_16 : F16 (qm 14) = cD (cy 0) 4 Bk.2 := by rw [eF16, va_up_ne _ _ (pl_ne hFqm14_12 hFo_12 rfl)]; exact hFqm14_12
      have hFqm15_16 : F16 (qm 15) = cI (cy 1) 6 Xx.2 := by rw [eF16, va_up_ne _ _ (pl_ne hFqm15_12 hFo_12 rfl)]; exact hFqm15_12
      refine lv_aload_n hx hb dX9_weight_26 rfl (lv_at hl 0 rfl) ?_
      refine pg_get (ci := 8) (C := RX9) (T := TX9) (N := 20) hx hb hts hinX9 hown hK hP hmo hFo_16 rfl 17 (by decide) (hts (.fieldLink RX9 65 "RopeDrumsModel" "failed" "I") (by decide +kernel)) (fun _ h9 => h9) rfl dX9_weight_27 ?_
      refine lv_if_le (tgt := 39) hx hb dX9_weight_30 (by decide) (fun c17 => absurd c17 (by decide)) (fun c17 => ?_)
      refine lv_aload_n hx hb dX9_weight_33 rfl (lv_at hl 0 rfl) ?_
      refine lv_iconst (v := 0) hx hb dX9_weight_34 (by decide) ?_
      refine va_calli (va_runV (As := [.int 0]) (rest := []) ⟨hx, hb, hml, hown, hts⟩ (c9_answers_2 l G cy L F16 H.size o qm 0 Pp.1 oc hmo hFo_16 Xx.2 hm15 hFqm15_16 0) (cwV 1 hts gX9_weight_X9_answers rfl rfl rfl (by decide +kernel) ⟨Nat.le_of_ble_eq_true rfl, Nat.le_of_ble_eq_true rfl⟩) (preV_of okQ (⟨rfl, hP, hK, hD.top⟩) (pl_recv hK hP (ci := 8) rfl hmo hFo_16)) rfl rfl hl.1 rfl (lv_room (Nat.le_of_ble_eq_true rfl)) dX9_weight_35 ⟨Nat.le_of_ble_eq_true rfl, Nat.le_of_ble_eq_true rfl⟩) hS (fun q _ h => pl_free hD hS hA q h) (pl_free hD hS hA) (fun r19 F18 t H1 locs ht hvm hw hP1 hz1 hk1 hS => ?_)
      have hP1 : va_P G vwCl (va_pl L F18) t.heap := hP1
      rw [ht] at hP1
      have hP := hP1
      generalize H1 = H at hP hS ⊢
      obtain ⟨hqr19, eF18⟩ := hw
      have eF18 : F18 = va_up F16 (qm 15) (cI (cy 1) 6 (upd Xx.2 2 (Xx.2 2 + 1))) := eF18
      have hFo_19 : F18 o = .inr (8, [.int 0, .ref (qm 0), .ref (qm 1), .ref (qm 2), .ref (qm 3), .ref (qm 4), .ref (qm 5), .ref (qm 6), .ref (qm 7), .int Pp.1, .ref (qm 8), .ref (qm 9), .ref (qm 10), .ref (qm 11), .ref (qm 12), .ref (qm 13), .ref (qm 14), .int 2, .ref (qm 15), .long oc]) := by rw [eF18, va_up_ne _ _ (pl_ne hFo_16 hFqm15_16 rfl)]; exact hFo_16
      have hFqm0_19 : F18 (qm 0) = cI (cy 1) 10 Mm.1 := by rw [eF18, va_up_ne _ _ (pl_ne hFqm0_16 hFqm15_16 rfl)]; exact hFqm0_16
      have hFqm1_19 : F18 (qm 1) = cJ (cy 2) 10 Mm.2 := by rw [eF18, va_up_ne _ _ (pl_ne hFqm1_16 hFqm15_16 rfl)]; exact hFqm1_16
      have hFqm2_19 : F18 (qm 2) = cD (cy 0) 6 Dd.1 := by rw [eF18, va_up_ne _ _ (pl_ne hFqm2_16 hFqm15_16 rfl)]; exact hFqm2_16
      have hFqm3_19 : F18 (qm 3) = cD (cy 0) 6 Dd.2.1 := by rw [eF18, va_up_ne _ _ (pl_ne hFqm3_16 hFqm15_16 rfl)]; exact hFqm3_16
      have hFqm4_19 : F18 (qm 4) = cD (cy 0) 6 Dd.2.2.1 := by rw [eF18, va_up_ne _ _ (pl_ne hFqm4_16 hFqm15_16 rfl)]; exact hFqm4_16
      have hFqm5_19 : F18 (qm 5) = cJ (cy 2) 6 Dd.2.2.2 := by rw [eF18, va_up_ne _ _ (pl_ne hFqm5_16 hFqm15_16 rfl)]; exact hFqm5_16
      have hFqm6_19 : F18 (qm 6) = cI (cy 1) 8 Sl.1 := by rw [eF18, va_up_ne _ _ (pl_ne hFqm6_16 hFqm15_16 rfl)]; exact hFqm6_16
      have hFqm7_19 : F18 (qm 7) = cJ (cy 2) 128 Sl.2 := by rw [eF18, va_up_ne _ _ (pl_ne hFqm7_16 hFqm15_16 rfl)]; exact hFqm7_16
      have hFqm8_19 : F18 (qm 8) = cI (cy 1) 30 Pp.2.1 := by rw [eF18, va_up_ne _ _ (pl_ne hFqm8_16 hFqm15_16 rfl)]; exact hFqm8_16
      have hFqm9_19 : F18 (qm 9) = cI (cy 3) 30 Pp.2.2 := by rw [eF18, va_up_ne _ _ (pl_ne hFqm9_16 hFqm15_16 rfl)]; exact hFqm9_16
      have hFqm10_19 : F18 (qm 10) = cI (cy 1) 5 Kr.1 := by rw [eF18, va_up_ne _ _ (pl_ne hFqm10_16 hFqm15_16 rfl)]; exact hFqm10_16
      have hFqm11_19 : F18 (qm 11) = cI (cy 3) 5 Kr.2.1 := by rw [eF18, va_up_ne _ _ (pl_ne hFqm11_16 hFqm15_16 rfl)]; exact hFqm11_16
      have hFqm12_19 : F18 (qm 12) = cI (cy 1) 60 Kr.2.2 := by rw [eF18, va_up_ne _ _ (pl_ne hFqm12_16 hFqm15_16 rfl)]; exact hFqm12_16
      have hFqm13_19 : F18 (qm 13) = cI (cy 1) 4 Bk.1 := by rw [eF18, va_up_ne _ _ (pl_ne hFqm13_16 hFqm15_16 rfl)]; exact hFqm13_16
      have hFqm14_19 : F18 (qm 14) = cD (cy 0) 4 Bk.2 := by rw [eF18, va_up_ne _ _ (pl_ne hFqm14_16 hFqm15_16 rfl)]; exact hFqm14_16
      have hFqm15_19 : F18 (qm 15) = cI (cy 1) 6 (upd Xx.2 2 (Xx.2 2 + 1)) := by rw [eF18]; exact va_up_self _ _ _
      have hr19 := hqr19
      exact W.iret (v := r19) hx hb hr (fun t ht hW => ⟨⟨r19, F18, rfl, (by subst hr19; have hsp : sp_weight Pp Kr Xx (nI j_rk) i re = (-10 - 2, failX Xx 2) := (by unfold sp_weight; rw [hi_rk]; exact (if_neg hp0_i).trans (by rw [hp_i]; rfl)); rw [hsp]; exact ⟨rfl, (by exact ⟨⟨_, _, hmo, hFo_19⟩, ⟨hm0, hFqm0_19⟩, ⟨hm1, hFqm1_19⟩, ⟨hm2, hFqm2_19⟩, ⟨hm3, hFqm3_19⟩, ⟨hm4, hFqm4_19⟩, ⟨hm5, hFqm5_19⟩, ⟨hm6, hFqm6_19⟩, ⟨hm7, hFqm7_19⟩, ⟨hm8, hFqm8_19⟩, ⟨hm9, hFqm9_19⟩, ⟨hm10, hFqm10_19⟩, ⟨hm11, hFqm11_19⟩, ⟨hm12, hFqm12_19⟩, ⟨hm13, hFqm13_19⟩, ⟨hm14, hFqm14_19⟩, ⟨hm15, hFqm15_19⟩, hne⟩)⟩), (by show va_P _ _ _ t.heap; rw [ht]; exact hP)⟩, hS.F ht⟩) hS.2.2 dX9_weight_38
    · subst ei_i
      refine lv_aload_n hx hb dX9_weight_0 rfl (lv_at hl 0 rfl) ?_
      refine lv_iconst (v := 0) hx hb dX9_weight_1 (by decide) ?_
      refine pg_put (ci := 8) (v := .int 0) (ty := .int) (C := RX9) (T := TX9) (N := 20) hx hb hts hinX9 tyX9 tyX9_ok nmX9 hown hK hP hD hS hmo hFo rfl 0 (by decide) (hts (.fieldLink RX9 61 "RopeDrumsModel" "thrown" "I") (by decide +kernel)) (fun _ h9 => h9) rfl (by decide +kernel) (rfl) (rfl) (Nat.le_of_ble_eq_true rfl) dX9_weight_2 (fun H locs F20 eF20 hP hS => ?_)
      have eF20 : F20 = va_up F o (.inr (8, [.int 0, .ref (qm 0), .ref (qm 1), .ref (qm 2), .ref (qm 3), .ref (qm 4), .ref (qm 5), .ref (qm 6), .ref (qm 7), .int Pp.1, .ref (qm 8), .ref (qm 9), .ref (qm 10), .ref (qm 11), .ref (qm 12), .ref (qm 13), .ref (qm 14), .int Xx.1, .ref (qm 15), .long oc])) := eF20
      have hFo_20 : F20 o = .inr (8, [.int 0, .ref (qm 0), .ref (qm 1), .ref (qm 2), .ref (qm 3), .ref (qm 4), .ref (qm 5), .ref (qm 6), .ref (qm 7), .int Pp.1, .ref (qm 8), .ref (qm 9), .ref (qm 10), .ref (qm 11), .ref (qm 12), .ref (qm 13), .ref (qm 14), .int Xx.1, .ref (qm 15), .long oc]) := by rw [eF20]; exact va_up_self _ _ _
      have hFqm0_20 : F20 (qm 0) = cI (cy 1) 10 Mm.1 := by rw [eF20, va_up_ne _ _ (pl_ne hF0 hFo rfl)]; exact hF0
      have hFqm1_20 : F20 (qm 1) = cJ (cy 2) 10 Mm.2 := by rw [eF20, va_up_ne _ _ (pl_ne hF1 hFo rfl)]; exact hF1
      have hFqm2_20 : F20 (qm 2) = cD (cy 0) 6 Dd.1 := by rw [eF20, va_up_ne _ _ (pl_ne hF2 hFo rfl)]; exact hF2
      have hFqm3_20 : F20 (qm 3) = cD (cy 0) 6 Dd.2.1 := by rw [eF20, va_up_ne _ _ (pl_ne hF3 hFo rfl)]; exact hF3
      have hFqm4_20 : F20 (qm 4) = cD (cy 0) 6 Dd.2.2.1 := by rw [eF20, va_up_ne _ _ (pl_ne hF4 hFo rfl)]; exact hF4
      have hFqm5_20 : F20 (qm 5) = cJ (cy 2) 6 Dd.2.2.2 := by rw [eF20, va_up_ne _ _ (pl_ne hF5 hFo rfl)]; exact hF5
      have hFqm6_20 : F20 (qm 6) = cI (cy 1) 8 Sl.1 := by rw [eF20, va_up_ne _ _ (pl_ne hF6 hFo rfl)]; exact hF6
      have hFqm7_20 : F20 (qm 7) = cJ (cy 2) 128 Sl.2 := by rw [eF20, va_up_ne _ _ (pl_ne hF7 hFo rfl)]; exact hF7
      have hFqm8_20 : F20 (qm 8) = cI (cy 1) 30 Pp.2.1 := by rw [eF20, va_up_ne _ _ (pl_ne hF8 hFo rfl)]; exact hF8
      have hFqm9_20 : F20 (qm 9) = cI (cy 3) 30 Pp.2.2 := by rw [eF20, va_up_ne _ _ (pl_ne hF9 hFo rfl)]; exact hF9
      have hFqm10_20 : F20 (qm 10) = cI (cy 1) 5 Kr.1 := by rw [eF20, va_up_ne _ _ (pl_ne hF10 hFo rfl)]; exact hF10
      have hFqm11_20 : F20 (qm 11) = cI (cy 3) 5 Kr.2.1 := by rw [eF20, va_up_ne _ _ (pl_ne hF11 hFo rfl)]; exact hF11
      have hFqm12_20 : F20 (qm 12) = cI (cy 1) 60 Kr.2.2 := by rw [eF20, va_up_ne _ _ (pl_ne hF12 hFo rfl)]; exact hF12
      have hFqm13_20 : F20 (qm 13) = cI (cy 1) 4 Bk.1 := by rw [eF20, va_up_ne _ _ (pl_ne hF13 hFo rfl)]; exact hF13
      have hFqm14_20 : F20 (qm 14) = cD (cy 0) 4 Bk.2 := by rw [eF20, va_up_ne _ _ (pl_ne hF14 hFo rfl)]; exact hF14
      have hFqm15_20 : F20 (qm 15) = cI (cy 1) 6 Xx.2 := by rw [eF20, va_up_ne _ _ (pl_ne hF15 hFo rfl)]; exact hF15
      refine lv_iload_n hx hb dX9_weight_5 rfl (lv_at hl 1 rfl) ?_
      refine vp_callSi (W.runS (As := [.int (nI j_rk)]) (rest := []) ⟨hx, hb, hml, hown, hts⟩ (c9_isRack l (nI j_rk)) (va_cwS 1 hts gX9_weight_X9_isRack rfl rfl rfl (by decide +kernel) ⟨Nat.le_of_ble_eq_true rfl, Nat.le_of_ble_eq_true rfl⟩) (preS_of okT (trivial)) rfl rfl hl.1 rfl (lv_room (Nat.le_of_ble_eq_true rfl)) dX9_weight_6 ⟨Nat.le_of_ble_eq_true rfl, Nat.le_of_ble_eq_true rfl⟩) (fun r21 hr21 => ?_)
      rw [isx1 hi_rk] at hr21
      subst hr21
      refine lv_if_ne (tgt := 16) hx hb dX9_weight_9 (by decide) (fun c22 => ?_) (fun c22 => absurd c22 (by decide))
      refine lv_aload_n hx hb dX9_weight_16 rfl (lv_at hl 0 rfl) ?_
      refine lv_aload_n hx hb dX9_weight_17 rfl (lv_at hl 0 rfl) ?_
      refine lv_iload_n hx hb dX9_weight_18 rfl (lv_at hl 1 rfl) ?_
      refine lv_iload_n hx hb dX9_weight_19 rfl (lv_at hl 2 rfl) ?_
      refine vp_callSi (W.runV (As := [.int (nI j_rk), .int (nI q_i)]) (rest := [.ref o]) ⟨hx, hb, hml, hown, hts⟩ (c9_rackCause l G cy L F20 o qm 0 Pp.1 Xx.1 oc hmo hFo_20 Kr.1 hm10 hFqm10_20 j_rk hj_rk (nI q_i) ((hVK j_rk hj_rk).2.1)) (cwV 2 hts gX9_weight_X9_rackCause rfl rfl rfl (by decide +kernel) ⟨Nat.le_of_ble_eq_true rfl, Nat.le_of_ble_eq_true rfl⟩) (preV_of okP (⟨hP, hK, hD.top⟩) (pl_recv hK hP (ci := 8) rfl hmo hFo_20)) rfl rfl hl.1 rfl (lv_room (Nat.le_of_ble_eq_true rfl)) dX9_weight_20 ⟨Nat.le_of_ble_eq_true rfl, Nat.le_of_ble_eq_true rfl⟩) (fun r23 hr23 => ?_)
      rw [hp_i] at hr23
      have hzr23 : r23 = 0 := hr23
      clear hr23
      subst hzr23
      refine pg_put (ci := 8) (v := .int 0) (ty := .int) (C := RX9) (T := TX9) (N := 20) hx hb hts hinX9 tyX9 tyX9_ok nmX9 hown hK hP hD hS hmo hFo_20 rfl 17 (by decide) (hts (.fieldLink RX9 65 "RopeDrumsModel" "failed" "I") (by decide +kernel)) (fun _ h9 => h9) rfl (by decide +kernel) (rfl) (rfl) (Nat.le_of_ble_eq_true rfl) dX9_weight_23 (fun H locs F24 eF24 hP hS => ?_)
      have eF24 : F24 = va_up F20 o (.inr (8, [.int 0, .ref (qm 0), .ref (qm 1), .ref (qm 2), .ref (qm 3), .ref (qm 4), .ref (qm 5), .ref (qm 6), .ref (qm 7), .int Pp.1, .ref (qm 8), .ref (qm 9), .ref (qm 10), .ref (qm 11), .ref (qm 12), .ref (qm 13), .ref (qm 14), .int 0, .ref (qm 15), .long oc])) := eF24
      have hFo_24 : F24 o = .inr (8, [.int 0, .ref (qm 0), .ref (qm 1), .ref (qm 2), .ref (qm 3), .ref (qm 4), .ref (qm 5), .ref (qm 6), .ref (qm 7), .int Pp.1, .ref (qm 8), .ref (qm 9), .ref (qm 10), .ref (qm 11), .ref (qm 12), .ref (qm 13), .ref (qm 14), .int 0, .ref (qm 15), .long oc]) := by rw [eF24]; exact va_up_self _ _ _
      have hFqm0_24 : F24 (qm 0) = cI (cy 1) 10 Mm.1 := by rw [eF24, va_up_ne _ _ (pl_ne hFqm0_20 hFo_20 rfl)]; exact hFqm0_20
      have hFqm1_24 : F24 (qm 1) = cJ (cy 2) 10 Mm.2 := by rw [eF24, va_up_ne _ _ (pl_ne hFqm1_20 hFo_20 rfl)]; exact hFqm1_20
      have hFqm2_24 : F24 (qm 2) = cD (cy 0) 6 Dd.1 := by rw [eF24, va_up_ne _ _ (pl_ne hFqm2_20 hFo_20 rfl)]; exact hFqm2_20
      have hFqm3_24 : F24 (qm 3) = cD (cy 0) 6 Dd.2.1 := by rw [eF24, va_up_ne _ _ (pl_ne hFqm3_20 hFo_20 rfl)]; exact hFqm3_20
      have hFqm4_24 : F24 (qm 4) = cD (cy 0) 6 Dd.2.2.1 := by rw [eF24, va_up_ne _ _ (pl_ne hFqm4_20 hFo_20 rfl)]; exact hFqm4_20
      have hFqm5_24 : F24 (qm 5) = cJ (cy 2) 6 Dd.2.2.2 := by rw [eF24, va_up_ne _ _ (pl_ne hFqm5_20 hFo_20 rfl)]; exact hFqm5_20
      have hFqm6_24 : F24 (qm 6) = cI (cy 1) 8 Sl.1 := by rw [eF24, va_up_ne _ _ (pl_ne hFqm6_20 hFo_20 rfl)]; exact hFqm6_20
      have hFqm7_24 : F24 (qm 7) = cJ (cy 2) 128 Sl.2 := by rw [eF24, va_up_ne _ _ (pl_ne hFqm7_20 hFo_20 rfl)]; exact hFqm7_20
      have hFqm8_24 : F24 (qm 8) = cI (cy 1) 30 Pp.2.1 := by rw [eF24, va_up_ne _ _ (pl_ne hFqm8_20 hFo_20 rfl)]; exact hFqm8_20
      have hFqm9_24 : F24 (qm 9) = cI (cy 3) 30 Pp.2.2 := by rw [eF24, va_up_ne _ _ (pl_ne hFqm9_20 hFo_20 rfl)]; exact hFqm9_20
      have hFqm10_24 : F24 (qm 10) = cI (cy 1) 5 Kr.1 := by rw [eF24, va_up_ne _ _ (pl_ne hFqm10_20 hFo_20 rfl)]; exact hFqm10_20
      have hFqm11_24 : F24 (qm 11) = cI (cy 3) 5 Kr.2.1 := by rw [eF24, va_up_ne _ _ (pl_ne hFqm11_20 hFo_20 rfl)]; exact hFqm11_20
      have hFqm12_24 : F24 (qm 12) = cI (cy 1) 60 Kr.2.2 := by rw [eF24, va_up_ne _ _ (pl_ne hFqm12_20 hFo_20 rfl)]; exact hFqm12_20
      have hFqm13_24 : F24 (qm 13) = cI (cy 1) 4 Bk.1 := by rw [eF24, va_up_ne _ _ (pl_ne hFqm13_20 hFo_20 rfl)]; exact hFqm13_20
      have hFqm14_24 : F24 (qm 14) = cD (cy 0) 4 Bk.2 := by rw [eF24, va_up_ne _ _ (pl_ne hFqm14_20 hFo_20 rfl)]; exact hFqm14_20
      have hFqm15_24 : F24 (qm 15) = cI (cy 1) 6 Xx.2 := by rw [eF24, va_up_ne _ _ (pl_ne hFqm15_20 hFo_20 rfl)]; exact hFqm15_20
      refine lv_aload_n hx hb dX9_weight_26 rfl (lv_at hl 0 rfl) ?_
      refine pg_get (ci := 8) (C := RX9) (T := TX9) (N := 20) hx hb hts hinX9 hown hK hP hmo hFo_24 rfl 17 (by decide) (hts (.fieldLink RX9 65 "RopeDrumsModel" "failed" "I") (by decide +kernel)) (fun _ h9 => h9) rfl dX9_weight_27 ?_
      refine lv_if_le (tgt := 39) hx hb dX9_weight_30 (by decide) (fun c25 => ?_) (fun c25 => absurd (by decide) c25)
      refine lv_aload_n hx hb dX9_weight_39 rfl (lv_at hl 0 rfl) ?_
      refine pg_get (ci := 8) (C := RX9) (T := TX9) (N := 20) hx hb hts hinX9 hown hK hP hmo hFo_24 rfl 14 (by decide) (hts (.fieldLink RX9 49 "RopeDrumsModel" "standing" "[I") (by decide +kernel)) (fun _ h9 => h9) rfl dX9_weight_40 ?_
      refine lv_bipush (v := 12) hx hb dX9_weight_43 (by decide) ?_
      refine lv_iload_n hx hb dX9_weight_45 rfl (lv_at hl 1 rfl) ?_
      refine lv_imul hx hb dX9_weight_46 ?_
      refine lv_topi (fun v26 ev26 => ?_)
      refine lv_iload_n hx hb dX9_weight_47 rfl (lv_at hl 2 rfl) ?_
      refine lv_iadd hx hb dX9_weight_48 ?_
      refine lv_topi (fun v27 ev27 => ?_)
      rw [ev26, nI12] at ev27
      subst ev27
      refine pg_iald hx hb hK hP 1 hm12 hFqm12_24 rfl (vp_in_nI (by omega) (by decide)) dX9_weight_49 ?_
      refine lv_topi (fun v28 ev28 => ?_)
      rw [nI_clamp (by omega)] at ev28
      rcases (hVK j_rk hj_rk).2.2 q_i hs_i with hx0 | ⟨ks, hks, hx0⟩
      · rw [hx0] at ev28
        subst ev28
        refine lv_istore (lv' := [(4, .int (-1)), (0, .ref o), (1, .int (nI j_rk)), (2, .int (nI q_i)), (3, .int re)]) hx hb dX9_weight_50 hl (by decide) rfl (fun ls hl => ?_)
        refine lv_aload_n hx hb dX9_weight_52 rfl (lv_at hl 1 rfl) ?_
        refine lv_iload hx hb dX9_weight_53 (lv_at hl 0 rfl) ?_
        refine lv_iconst (v := -1) hx hb dX9_weight_55 (by decide) ?_
        refine lv_icmp_ne (tgt := 63) hx hb dX9_weight_56 (by decide) (fun c29 => absurd (by decide) c29) (fun c29 => ?_)
        refine lv_iconst (v := 1) hx hb dX9_weight_59 (by decide) ?_
        refine lv_goto (tgt := 82) hx hb dX9_weight_60 (by decide) ?_
        refine pg_put (ci := 8) (v := .int 1) (ty := .int) (C := RX9) (T := TX9) (N := 20) hx hb hts hinX9 tyX9 tyX9_ok nmX9 hown hK hP hD hS hmo hFo_24 rfl 17 (by decide) (hts (.fieldLink RX9 65 "RopeDrumsModel" "failed" "I") (by decide +kernel)) (fun _ h9 => h9) rfl (by decide +kernel) (rfl) (rfl) (Nat.le_of_ble_eq_true rfl) dX9_weight_82 (fun H locs F30 eF30 hP hS => ?_)
        have eF30 : F30 = va_up F24 o (.inr (8, [.int 0, .ref (qm 0), .ref (qm 1), .ref (qm 2), .ref (qm 3), .ref (qm 4), .ref (qm 5), .ref (qm 6), .ref (qm 7), .int Pp.1, .ref (qm 8), .ref (qm 9), .ref (qm 10), .ref (qm 11), .ref (qm 12), .ref (qm 13), .ref (qm 14), .int 1, .ref (qm 15), .long oc])) := eF30
        have hFo_30 : F30 o = .inr (8, [.int 0, .ref (qm 0), .ref (qm 1), .ref (qm 2), .ref (qm 3), .ref (qm 4), .ref (qm 5), .ref (qm 6), .ref (qm 7), .int Pp.1, .ref (qm 8), .ref (qm 9), .ref (qm 10), .ref (qm 11), .ref (qm 12), .ref (qm 13), .ref (qm 14), .int 1, .ref (qm 15), .long oc]) := by rw [eF30]; exact va_up_self _ _ _
        have hFqm0_30 : F30 (qm 0) = cI (cy 1) 10 Mm.1 := by rw [eF30, va_up_ne _ _ (pl_ne hFqm0_24 hFo_24 rfl)]; exact hFqm0_24
        have hFqm1_30 : F30 (qm 1) = cJ (cy 2) 10 Mm.2 := by rw [eF30, va_up_ne _ _ (pl_ne hFqm1_24 hFo_24 rfl)]; exact hFqm1_24
        have hFqm2_30 : F30 (qm 2) = cD (cy 0) 6 Dd.1 := by rw [eF30, va_up_ne _ _ (pl_ne hFqm2_24 hFo_24 rfl)]; exact hFqm2_24
        have hFqm3_30 : F30 (qm 3) = cD (cy 0) 6 Dd.2.1 := by rw [eF30, va_up_ne _ _ (pl_ne hFqm3_24 hFo_24 rfl)]; exact hFqm3_24
        have hFqm4_30 : F30 (qm 4) = cD (cy 0) 6 Dd.2.2.1 := by rw [eF30, va_up_ne _ _ (pl_ne hFqm4_24 hFo_24 rfl)]; exact hFqm4_24
        have hFqm5_30 : F30 (qm 5) = cJ (cy 2) 6 Dd.2.2.2 := by rw [eF30, va_up_ne _ _ (pl_ne hFqm5_24 hFo_24 rfl)]; exact hFqm5_24
        have hFqm6_30 : F30 (qm 6) = cI (cy 1) 8 Sl.1 := by rw [eF30, va_up_ne _ _ (pl_ne hFqm6_24 hFo_24 rfl)]; exact hFqm6_24
        have hFqm7_30 : F30 (qm 7) = cJ (cy 2) 128 Sl.2 := by rw [eF30, va_up_ne _ _ (pl_ne hFqm7_24 hFo_24 rfl)]; exact hFqm7_24
        have hFqm8_30 : F30 (qm 8) = cI (cy 1) 30 Pp.2.1 := by rw [eF30, va_up_ne _ _ (pl_ne hFqm8_24 hFo_24 rfl)]; exact hFqm8_24
        have hFqm9_30 : F30 (qm 9) = cI (cy 3) 30 Pp.2.2 := by rw [eF30, va_up_ne _ _ (pl_ne hFqm9_24 hFo_24 rfl)]; exact hFqm9_24
        have hFqm10_30 : F30 (qm 10) = cI (cy 1) 5 Kr.1 := by rw [eF30, va_up_ne _ _ (pl_ne hFqm10_24 hFo_24 rfl)]; exact hFqm10_24
        have hFqm11_30 : F30 (qm 11) = cI (cy 3) 5 Kr.2.1 := by rw [eF30, va_up_ne _ _ (pl_ne hFqm11_24 hFo_24 rfl)]; exact hFqm11_24
        have hFqm12_30 : F30 (qm 12) = cI (cy 1) 60 Kr.2.2 := by rw [eF30, va_up_ne _ _ (pl_ne hFqm12_24 hFo_24 rfl)]; exact hFqm12_24
        have hFqm13_30 : F30 (qm 13) = cI (cy 1) 4 Bk.1 := by rw [eF30, va_up_ne _ _ (pl_ne hFqm13_24 hFo_24 rfl)]; exact hFqm13_24
        have hFqm14_30 : F30 (qm 14) = cD (cy 0) 4 Bk.2 := by rw [eF30, va_up_ne _ _ (pl_ne hFqm14_24 hFo_24 rfl)]; exact hFqm14_24
        have hFqm15_30 : F30 (qm 15) = cI (cy 1) 6 Xx.2 := by rw [eF30, va_up_ne _ _ (pl_ne hFqm15_24 hFo_24 rfl)]; exact hFqm15_24
        refine lv_aload_n hx hb dX9_weight_85 rfl (lv_at hl 1 rfl) ?_
        refine pg_get (ci := 8) (C := RX9) (T := TX9) (N := 20) hx hb hts hinX9 hown hK hP hmo hFo_30 rfl 17 (by decide) (hts (.fieldLink RX9 65 "RopeDrumsModel" "failed" "I") (by decide +kernel)) (fun _ h9 => h9) rfl dX9_weight_86 ?_
        refine lv_if_le (tgt := 100) hx hb dX9_weight_89 (by decide) (fun c31 => absurd c31 (by decide)) (fun c31 => ?_)
        refine lv_aload_n hx hb dX9_weight_92 rfl (lv_at hl 1 rfl) ?_
        refine lv_iconst (v := 0) hx hb dX9_weight_93 (by decide) ?_
        refine va_calli (va_runV (As := [.int 0]) (rest := []) ⟨hx, hb, hml, hown, hts⟩ (c9_answers_1 l G cy L F30 H.size o qm 0 Pp.1 oc hmo hFo_30 Xx.2 hm15 hFqm15_30 0) (cwV 1 hts gX9_weight_X9_answers rfl rfl rfl (by decide +kernel) ⟨Nat.le_of_ble_eq_true rfl, Nat.le_of_ble_eq_true rfl⟩) (preV_of okQ (⟨rfl, hP, hK, hD.top⟩) (pl_recv hK hP (ci := 8) rfl hmo hFo_30)) rfl rfl hl.1 rfl (lv_room (Nat.le_of_ble_eq_true rfl)) dX9_weight_94 ⟨Nat.le_of_ble_eq_true rfl, Nat.le_of_ble_eq_true rfl⟩) hS (fun q _ h => pl_free hD hS hA q h) (pl_free hD hS hA) (fun r33 F32 t H1 locs ht hvm hw hP1 hz1 hk1 hS => ?_)
        have hP1 : va_P G vwCl (va_pl L F32) t.heap := hP1
        rw [ht] at hP1
        have hP := hP1
        generalize H1 = H at hP hS ⊢
        obtain ⟨hqr33, eF32⟩ := hw
        have eF32 : F32 = va_up F30 (qm 15) (cI (cy 1) 6 (upd Xx.2 1 (Xx.2 1 + 1))) := eF32
        have hFo_33 : F32 o = .inr (8, [.int 0, .ref (qm 0), .ref (qm 1), .ref (qm 2), .ref (qm 3), .ref (qm 4), .ref (qm 5), .ref (qm 6), .ref (qm 7), .int Pp.1, .ref (qm 8), .ref (qm 9), .ref (qm 10), .ref (qm 11), .ref (qm 12), .ref (qm 13), .ref (qm 14), .int 1, .ref (qm 15), .long oc]) := by rw [eF32, va_up_ne _ _ (pl_ne hFo_30 hFqm15_30 rfl)]; exact hFo_30
        have hFqm0_33 : F32 (qm 0) = cI (cy 1) 10 Mm.1 := by rw [eF32, va_up_ne _ _ (pl_ne hFqm0_30 hFqm15_30 rfl)]; exact hFqm0_30
        have hFqm1_33 : F32 (qm 1) = cJ (cy 2) 10 Mm.2 := by rw [eF32, va_up_ne _ _ (pl_ne hFqm1_30 hFqm15_30 rfl)]; exact hFqm1_30
        have hFqm2_33 : F32 (qm 2) = cD (cy 0) 6 Dd.1 := by rw [eF32, va_up_ne _ _ (pl_ne hFqm2_30 hFqm15_30 rfl)]; exact hFqm2_30
        have hFqm3_33 : F32 (qm 3) = cD (cy 0) 6 Dd.2.1 := by rw [eF32, va_up_ne _ _ (pl_ne hFqm3_30 hFqm15_30 rfl)]; exact hFqm3_30
        have hFqm4_33 : F32 (qm 4) = cD (cy 0) 6 Dd.2.2.1 := by rw [eF32, va_up_ne _ _ (pl_ne hFqm4_30 hFqm15_30 rfl)]; exact hFqm4_30
        have hFqm5_33 : F32 (qm 5) = cJ (cy 2) 6 Dd.2.2.2 := by rw [eF32, va_up_ne _ _ (pl_ne hFqm5_30 hFqm15_30 rfl)]; exact hFqm5_30
        have hFqm6_33 : F32 (qm 6) = cI (cy 1) 8 Sl.1 := by rw [eF32, va_up_ne _ _ (pl_ne hFqm6_30 hFqm15_30 rfl)]; exact hFqm6_30
        have hFqm7_33 : F32 (qm 7) = cJ (cy 2) 128 Sl.2 := by rw [eF32, va_up_ne _ _ (pl_ne hFqm7_30 hFqm15_30 rfl)]; exact hFqm7_30
        have hFqm8_33 : F32 (qm 8) = cI (cy 1) 30 Pp.2.1 := by rw [eF32, va_up_ne _ _ (pl_ne hFqm8_30 hFqm15_30 rfl)]; exact hFqm8_30
        have hFqm9_33 : F32 (qm 9) = cI (cy 3) 30 Pp.2.2 := by rw [eF32, va_up_ne _ _ (pl_ne hFqm9_30 hFqm15_30 rfl)]; exact hFqm9_30
        have hFqm10_33 : F32 (qm 10) = cI (cy 1) 5 Kr.1 := by rw [eF32, va_up_ne _ _ (pl_ne hFqm10_30 hFqm15_30 rfl)]; exact hFqm10_30
        have hFqm11_33 : F32 (qm 11) = cI (cy 3) 5 Kr.2.1 := by rw [eF32, va_up_ne _ _ (pl_ne hFqm11_30 hFqm15_30 rfl)]; exact hFqm11_30
        have hFqm12_33 : F32 (qm 12) = cI (cy 1) 60 Kr.2.2 := by rw [eF32, va_up_ne _ _ (pl_ne hFqm12_30 hFqm15_30 rfl)]; exact hFqm12_30
        have hFqm13_33 : F32 (qm 13) = cI (cy 1) 4 Bk.1 := by rw [eF32, va_up_ne _ _ (pl_ne hFqm13_30 hFqm15_30 rfl)]; exact hFqm13_30
        have hFqm14_33 : F32 (qm 14) = cD (cy 0) 4 Bk.2 := by rw [eF32, va_up_ne _ _ (pl_ne hFqm14_30 hFqm15_30 rfl)]; exact hFqm14_30
        have hFqm15_33 : F32 (qm 15) = cI (cy 1) 6 (upd Xx.2 1 (Xx.2 1 + 1)) := by rw [eF32]; exact va_up_self _ _ _
        have hr33 := hqr33
        refine lv_goto (tgt := 125) hx hb dX9_weight_97 (by decide) ?_
        exact W.iret (v := r33) hx hb hr (fun t ht hW => ⟨⟨r33, F32, rfl, (by subst hr33 ev26; have hsp : sp_weight Pp Kr Xx (nI j_rk) (nI q_i) re = (-10 - 1, failX Xx 1) := (by unfold sp_weight; rw [hi_rk]; refine (if_pos hp_i).trans ?_; rw [nI_tn (q := q_i) (by omega), hx0]; unfold wtX; exact if_pos rfl); rw [hsp]; exact ⟨rfl, (by exact ⟨⟨_, _, hmo, hFo_33⟩, ⟨hm0, hFqm0_33⟩, ⟨hm1, hFqm1_33⟩, ⟨hm2, hFqm2_33⟩, ⟨hm3, hFqm3_33⟩, ⟨hm4, hFqm4_33⟩, ⟨hm5, hFqm5_33⟩, ⟨hm6, hFqm6_33⟩, ⟨hm7, hFqm7_33⟩, ⟨hm8, hFqm8_33⟩, ⟨hm9, hFqm9_33⟩, ⟨hm10, hFqm10_33⟩, ⟨hm11, hFqm11_33⟩, ⟨hm12, hFqm12_33⟩, ⟨hm13, hFqm13_33⟩, ⟨hm14, hFqm14_33⟩, ⟨hm15, hFqm15_33⟩, hne⟩)⟩), (by show va_P _ _ _ t.heap; rw [ht]; exact hP)⟩, hS.F ht⟩) hS.2.2 dX9_weight_125
      · rw [hx0] at ev28
        subst ev28
        refine lv_istore (lv' := [(4, .int (nI ks)), (0, .ref o), (1, .int (nI j_rk)), (2, .int (nI q_i)), (3, .int re)]) hx hb dX9_weight_50 hl (by decide) rfl (fun ls hl => ?_)
        refine lv_aload_n hx hb dX9_weight_52 rfl (lv_at hl 1 rfl) ?_
        refine lv_iload hx hb dX9_weight_53 (lv_at hl 0 rfl) ?_
        refine lv_iconst (v := -1) hx hb dX9_weight_55 (by decide) ?_
        refine lv_icmp_ne (tgt := 63) hx hb dX9_weight_56 (by decide) (fun c34 => ?_) (fun c34 => absurd c34 (nI_neg (by omega)))
        refine lv_iload_n hx hb dX9_weight_63 rfl (lv_at hl 4 rfl) ?_
        refine lv_if_eq (tgt := 81) hx hb dX9_weight_64 (by decide) (fun c35 => ?_) (fun c35 => ?_)
        · refine lv_iconst (v := 0) hx hb dX9_weight_81 (by decide) ?_
          refine pg_put (ci := 8) (v := .int 0) (ty := .int) (C := RX9) (T := TX9) (N := 20) hx hb hts hinX9 tyX9 tyX9_ok nmX9 hown hK hP hD hS hmo hFo_24 rfl 17 (by decide) (hts (.fieldLink RX9 65 "RopeDrumsModel" "failed" "I") (by decide +kernel)) (fun _ h9 => h9) rfl (by decide +kernel) (rfl) (rfl) (Nat.le_of_ble_eq_true rfl) dX9_weight_82 (fun H locs F36 eF36 hP hS => ?_)
          have eF36 : F36 = va_up F24 o (.inr (8, [.int 0, .ref (qm 0), .ref (qm 1), .ref (qm 2), .ref (qm 3), .ref (qm 4), .ref (qm 5), .ref (qm 6), .ref (qm 7), .int Pp.1, .ref (qm 8), .ref (qm 9), .ref (qm 10), .ref (qm 11), .ref (qm 12), .ref (qm 13), .ref (qm 14), .int 0, .ref (qm 15), .long oc])) := eF36
          have hFo_36 : F36 o = .inr (8, [.int 0, .ref (qm 0), .ref (qm 1), .ref (qm 2), .ref (qm 3), .ref (qm 4), .ref (qm 5), .ref (qm 6), .ref (qm 7), .int Pp.1, .ref (qm 8), .ref (qm 9), .ref (qm 10), .ref (qm 11), .ref (qm 12), .ref (qm 13), .ref (qm 14), .int 0, .ref (qm 15), .long oc]) := by rw [eF36]; exact va_up_self _ _ _
          have hFqm0_36 : F36 (qm 0) = cI (cy 1) 10 Mm.1 := by rw [eF36, va_up_ne _ _ (pl_ne hFqm0_24 hFo_24 rfl)]; exact hFqm0_24
          have hFqm1_36 : F36 (qm 1) = cJ (cy 2) 10 Mm.2 := by rw [eF36, va_up_ne _ _ (pl_ne hFqm1_24 hFo_24 rfl)]; exact hFqm1_24
          have hFqm2_36 : F36 (qm 2) = cD (cy 0) 6 Dd.1 := by rw [eF36, va_up_ne _ _ (pl_ne hFqm2_24 hFo_24 rfl)]; exact hFqm2_24
          have hFqm3_36 : F36 (qm 3) = cD (cy 0) 6 Dd.2.1 := by rw [eF36, va_up_ne _ _ (pl_ne hFqm3_24 hFo_24 rfl)]; exact hFqm3_24
          have hFqm4_36 : F36 (qm 4) = cD (cy 0) 6 Dd.2.2.1 := by rw [eF36, va_up_ne _ _ (pl_ne hFqm4_24 hFo_24 rfl)]; exact hFqm4_24
          have hFqm5_36 : F36 (qm 5) = cJ (cy 2) 6 Dd.2.2.2 := by rw [eF36, va_up_ne _ _ (pl_ne hFqm5_24 hFo_24 rfl)]; exact hFqm5_24
          have hFqm6_36 : F36 (qm 6) = cI (cy 1) 8 Sl.1 := by rw [eF36, va_up_ne _ _ (pl_ne hFqm6_24 hFo_24 rfl)]; exact hFqm6_24
          have hFqm7_36 : F36 (qm 7) = cJ (cy 2) 128 Sl.2 := by rw [eF36, va_up_ne _ _ (pl_ne hFqm7_24 hFo_24 rfl)]; exact hFqm7_24
          have hFqm8_36 : F36 (qm 8) = cI (cy 1) 30 Pp.2.1 := by rw [eF36, va_up_ne _ _ (pl_ne hFqm8_24 hFo_24 rfl)]; exact hFqm8_24
          have hFqm9_36 : F36 (qm 9) = cI (cy 3) 30 Pp.2.2 := by rw [eF36, va_up_ne _ _ (pl_ne hFqm9_24 hFo_24 rfl)]; exact hFqm9_24
          have hFqm10_36 : F36 (qm 10) = cI (cy 1) 5 Kr.1 := by rw [eF36, va_up_ne _ _ (pl_ne hFqm10_24 hFo_24 rfl)]; exact hFqm10_24
          have hFqm11_36 : F36 (qm 11) = cI (cy 3) 5 Kr.2.1 := by rw [eF36, va_up_ne _ _ (pl_ne hFqm11_24 hFo_24 rfl)]; exact hFqm11_24
          have hFqm12_36 : F36 (qm 12) = cI (cy 1) 60 Kr.2.2 := by rw [eF36, va_up_ne _ _ (pl_ne hFqm12_24 hFo_24 rfl)]; exact hFqm12_24
          have hFqm13_36 : F36 (qm 13) = cI (cy 1) 4 Bk.1 := by rw [eF36, va_up_ne _ _ (pl_ne hFqm13_24 hFo_24 rfl)]; exact hFqm13_24
          have hFqm14_36 : F36 (qm 14) = cD (cy 0) 4 Bk.2 := by rw [eF36, va_up_ne _ _ (pl_ne hFqm14_24 hFo_24 rfl)]; exact hFqm14_24
          have hFqm15_36 : F36 (qm 15) = cI (cy 1) 6 Xx.2 := by rw [eF36, va_up_ne _ _ (pl_ne hFqm15_24 hFo_24 rfl)]; exact hFqm15_24
          refine lv_aload_n hx hb dX9_weight_85 rfl (lv_at hl 1 rfl) ?_
          refine pg_get (ci := 8) (C := RX9) (T := TX9) (N := 20) hx hb hts hinX9 hown hK hP hmo hFo_36 rfl 17 (by decide) (hts (.fieldLink RX9 65 "RopeDrumsModel" "failed" "I") (by decide +kernel)) (fun _ h9 => h9) rfl dX9_weight_86 ?_
          refine lv_if_le (tgt := 100) hx hb dX9_weight_89 (by decide) (fun c37 => ?_) (fun c37 => absurd (by decide) c37)
          refine lv_iload_n hx hb dX9_weight_100 rfl (lv_at hl 4 rfl) ?_
          refine lv_if_eq (tgt := 118) hx hb dX9_weight_101 (by decide) (fun c38 => ?_) (fun c38 => absurd (c35) c38)
          refine lv_aload_n hx hb dX9_weight_118 rfl (lv_at hl 1 rfl) ?_
          refine pg_get (ci := 8) (C := RX9) (T := TX9) (N := 20) hx hb hts hinX9 hown hK hP hmo hFo_36 rfl 10 (by decide) (hts (.fieldLink RX9 36 "RopeDrumsModel" "weightOf" "[I") (by decide +kernel)) (fun _ h9 => h9) rfl dX9_weight_119 ?_
          refine lv_iload hx hb dX9_weight_122 (lv_at hl 0 rfl) ?_
          refine pg_iald hx hb hK hP 1 hm8 hFqm8_36 rfl (vp_in_nI (by omega) (by decide)) dX9_weight_124 ?_
          refine lv_topi (fun v39 ev39 => ?_)
          rw [nI_clamp (by omega)] at ev39
          exact W.iret (v := v39) hx hb hr (fun t ht hW => ⟨⟨v39, F36, rfl, (by subst ev39 ev26; have hc64 := c35; have hsp : sp_weight Pp Kr Xx (nI j_rk) (nI q_i) re = (Pp.2.1 ks, goodX Xx) := (by unfold sp_weight; rw [hi_rk]; refine (if_pos hp_i).trans ?_; rw [nI_tn (q := q_i) (by omega), hx0]; unfold wtX; rw [if_neg (nI_neg (by omega)), nI_tn (q := ks) (by omega)]; rw [if_neg (fun q => q.1 hc64), if_pos hc64]); rw [hsp]; exact ⟨rfl, (by exact ⟨⟨_, _, hmo, hFo_36⟩, ⟨hm0, hFqm0_36⟩, ⟨hm1, hFqm1_36⟩, ⟨hm2, hFqm2_36⟩, ⟨hm3, hFqm3_36⟩, ⟨hm4, hFqm4_36⟩, ⟨hm5, hFqm5_36⟩, ⟨hm6, hFqm6_36⟩, ⟨hm7, hFqm7_36⟩, ⟨hm8, hFqm8_36⟩, ⟨hm9, hFqm9_36⟩, ⟨hm10, hFqm10_36⟩, ⟨hm11, hFqm11_36⟩, ⟨hm12, hFqm12_36⟩, ⟨hm13, hFqm13_36⟩, ⟨hm14, hFqm14_36⟩, ⟨hm15, hFqm15_36⟩, hne⟩)⟩), (by show va_P _ _ _ t.heap; rw [ht]; exact hP)⟩, hS.F ht⟩) hS.2.2 dX9_weight_125
        · refine lv_aload_n hx hb dX9_weight_67 rfl (lv_at hl 1 rfl) ?_
          refine pg_get (ci := 8) (C := RX9) (T := TX9) (N := 20) hx hb hts hinX9 hown hK hP hmo hFo_24 rfl 11 (by decide) (hts (.fieldLink RX9 39 "RopeDrumsModel" "isReel" "[Z") (by decide +kernel)) (fun _ h9 => h9) rfl dX9_weight_68 ?_
          refine lv_iload hx hb dX9_weight_71 (lv_at hl 0 rfl) ?_
          refine pg_zald hx hb hK hP 3 hm9 hFqm9_24 rfl (vp_in_nI (by omega) (by decide)) dX9_weight_73 ?_
          refine lv_topi (fun v40 ev40 => ?_)
          rw [nI_clamp (by omega)] at ev40
          refine lv_if_ne (tgt := 81) hx hb dX9_weight_74 (by decide) (fun c41 => ?_) (fun c41 => ?_)
          · refine lv_iconst (v := 0) hx hb dX9_weight_81 (by decide) ?_
            refine pg_put (ci := 8) (v := .int 0) (ty := .int) (C := RX9) (T := TX9) (N := 20) hx hb hts hinX9 tyX9 tyX9_ok nmX9 hown hK hP hD hS hmo hFo_24 rfl 17 (by decide) (hts (.fieldLink RX9 65 "RopeDrumsModel" "failed" "I") (by decide +kernel)) (fun _ h9 => h9) rfl (by decide +kernel) (rfl) (rfl) (Nat.le_of_ble_eq_true rfl) dX9_weight_82 (fun H locs F42 eF42 hP hS => ?_)
            have eF42 : F42 = va_up F24 o (.inr (8, [.int 0, .ref (qm 0), .ref (qm 1), .ref (qm 2), .ref (qm 3), .ref (qm 4), .ref (qm 5), .ref (qm 6), .ref (qm 7), .int Pp.1, .ref (qm 8), .ref (qm 9), .ref (qm 10), .ref (qm 11), .ref (qm 12), .ref (qm 13), .ref (qm 14), .int 0, .ref (qm 15), .long oc])) := eF42
            have hFo_42 : F42 o = .inr (8, [.int 0, .ref (qm 0), .ref (qm 1), .ref (qm 2), .ref (qm 3), .ref (qm 4), .ref (qm 5), .ref (qm 6), .ref (qm 7), .int Pp.1, .ref (qm 8), .ref (qm 9), .ref (qm 10), .ref (qm 11), .ref (qm 12), .ref (qm 13), .ref (qm 14), .int 0, .ref (qm 15), .long oc]) := by rw [eF42]; exact va_up_self _ _ _
            have hFqm0_42 : F42 (qm 0) = cI (cy 1) 10 Mm.1 := by rw [eF42, va_up_ne _ _ (pl_ne hFqm0_24 hFo_24 rfl)]; exact hFqm0_24
            have hFqm1_42 : F42 (qm 1) = cJ (cy 2) 10 Mm.2 := by rw [eF42, va_up_ne _ _ (pl_ne hFqm1_24 hFo_24 rfl)]; exact hFqm1_24
            have hFqm2_42 : F42 (qm 2) = cD (cy 0) 6 Dd.1 := by rw [eF42, va_up_ne _ _ (pl_ne hFqm2_24 hFo_24 rfl)]; exact hFqm2_24
            have hFqm3_42 : F42 (qm 3) = cD (cy 0) 6 Dd.2.1 := by rw [eF42, va_up_ne _ _ (pl_ne hFqm3_24 hFo_24 rfl)]; exact hFqm3_24
            have hFqm4_42 : F42 (qm 4) = cD (cy 0) 6 Dd.2.2.1 := by rw [eF42, va_up_ne _ _ (pl_ne hFqm4_24 hFo_24 rfl)]; exact hFqm4_24
            have hFqm5_42 : F42 (qm 5) = cJ (cy 2) 6 Dd.2.2.2 := by rw [eF42, va_up_ne _ _ (pl_ne hFqm5_24 hFo_24 rfl)]; exact hFqm5_24
            have hFqm6_42 : F42 (qm 6) = cI (cy 1) 8 Sl.1 := by rw [eF42, va_up_ne _ _ (pl_ne hFqm6_24 hFo_24 rfl)]; exact hFqm6_24
            have hFqm7_42 : F42 (qm 7) = cJ (cy 2) 128 Sl.2 := by rw [eF42, va_up_ne _ _ (pl_ne hFqm7_24 hFo_24 rfl)]; exact hFqm7_24
            have hFqm8_42 : F42 (qm 8) = cI (cy 1) 30 Pp.2.1 := by rw [eF42, va_up_ne _ _ (pl_ne hFqm8_24 hFo_24 rfl)]; exact hFqm8_24
            have hFqm9_42 : F42 (qm 9) = cI (cy 3) 30 Pp.2.2 := by rw [eF42, va_up_ne _ _ (pl_ne hFqm9_24 hFo_24 rfl)]; exact hFqm9_24
            have hFqm10_42 : F42 (qm 10) = cI (cy 1) 5 Kr.1 := by rw [eF42, va_up_ne _ _ (pl_ne hFqm10_24 hFo_24 rfl)]; exact hFqm10_24
            have hFqm11_42 : F42 (qm 11) = cI (cy 3) 5 Kr.2.1 := by rw [eF42, va_up_ne _ _ (pl_ne hFqm11_24 hFo_24 rfl)]; exact hFqm11_24
            have hFqm12_42 : F42 (qm 12) = cI (cy 1) 60 Kr.2.2 := by rw [eF42, va_up_ne _ _ (pl_ne hFqm12_24 hFo_24 rfl)]; exact hFqm12_24
            have hFqm13_42 : F42 (qm 13) = cI (cy 1) 4 Bk.1 := by rw [eF42, va_up_ne _ _ (pl_ne hFqm13_24 hFo_24 rfl)]; exact hFqm13_24
            have hFqm14_42 : F42 (qm 14) = cD (cy 0) 4 Bk.2 := by rw [eF42, va_up_ne _ _ (pl_ne hFqm14_24 hFo_24 rfl)]; exact hFqm14_24
            have hFqm15_42 : F42 (qm 15) = cI (cy 1) 6 Xx.2 := by rw [eF42, va_up_ne _ _ (pl_ne hFqm15_24 hFo_24 rfl)]; exact hFqm15_24
            refine lv_aload_n hx hb dX9_weight_85 rfl (lv_at hl 1 rfl) ?_
            refine pg_get (ci := 8) (C := RX9) (T := TX9) (N := 20) hx hb hts hinX9 hown hK hP hmo hFo_42 rfl 17 (by decide) (hts (.fieldLink RX9 65 "RopeDrumsModel" "failed" "I") (by decide +kernel)) (fun _ h9 => h9) rfl dX9_weight_86 ?_
            refine lv_if_le (tgt := 100) hx hb dX9_weight_89 (by decide) (fun c43 => ?_) (fun c43 => absurd (by decide) c43)
            refine lv_iload_n hx hb dX9_weight_100 rfl (lv_at hl 4 rfl) ?_
            refine lv_if_eq (tgt := 118) hx hb dX9_weight_101 (by decide) (fun c44 => absurd c44 (c35)) (fun c44 => ?_)
            refine lv_iconst (v := 2) hx hb dX9_weight_104 (by decide) ?_
            refine lv_aload_n hx hb dX9_weight_105 rfl (lv_at hl 1 rfl) ?_
            refine pg_get (ci := 8) (C := RX9) (T := TX9) (N := 20) hx hb hts hinX9 hown hK hP hmo hFo_42 rfl 10 (by decide) (hts (.fieldLink RX9 36 "RopeDrumsModel" "weightOf" "[I") (by decide +kernel)) (fun _ h9 => h9) rfl dX9_weight_106 ?_
            refine lv_iload hx hb dX9_weight_109 (lv_at hl 0 rfl) ?_
            refine pg_iald hx hb hK hP 1 hm8 hFqm8_42 rfl (vp_in_nI (by omega) (by decide)) dX9_weight_111 ?_
            refine lv_topi (fun v45 ev45 => ?_)
            rw [nI_clamp (by omega)] at ev45
            refine lv_imul hx hb dX9_weight_112 ?_
            refine lv_topi (fun v46 ev46 => ?_)
            refine lv_iconst (v := 1) hx hb dX9_weight_113 (by decide) ?_
            refine lv_iadd hx hb dX9_weight_114 ?_
            refine lv_topi (fun v47 ev47 => ?_)
            refine lv_goto (tgt := 125) hx hb dX9_weight_115 (by decide) ?_
            exact W.iret (v := v47) hx hb hr (fun t ht hW => ⟨⟨v47, F42, rfl, (by subst ev47 ev46 ev45 ev40 ev26; have hc64 := c35; have hc74 := c41; have hsp : sp_weight Pp Kr Xx (nI j_rk) (nI q_i) re = (2 * Pp.2.1 ks + 1, goodX Xx) := (by unfold sp_weight; rw [hi_rk]; refine (if_pos hp_i).trans ?_; rw [nI_tn (q := q_i) (by omega), hx0]; unfold wtX; rw [if_neg (nI_neg (by omega)), nI_tn (q := ks) (by omega)]; rw [if_neg (fun q => hc74 q.2), if_neg hc64]); rw [hsp]; exact ⟨rfl, (by exact ⟨⟨_, _, hmo, hFo_42⟩, ⟨hm0, hFqm0_42⟩, ⟨hm1, hFqm1_42⟩, ⟨hm2, hFqm2_42⟩, ⟨hm3, hFqm3_42⟩, ⟨hm4, hFqm4_42⟩, ⟨hm5, hFqm5_42⟩, ⟨hm6, hFqm6_42⟩, ⟨hm7, hFqm7_42⟩, ⟨hm8, hFqm8_42⟩, ⟨hm9, hFqm9_42⟩, ⟨hm10, hFqm10_42⟩, ⟨hm11, hFqm11_42⟩, ⟨hm12, hFqm12_42⟩, ⟨hm13, hFqm13_42⟩, ⟨hm14, hFqm14_42⟩, ⟨hm15, hFqm15_42⟩, hne⟩)⟩), (by show va_P _ _ _ t.heap; rw [ht]; exact hP)⟩, hS.F ht⟩) hS.2.2 dX9_weight_125
          · refine lv_iconst (v := 3) hx hb dX9_weight_77 (by decide) ?_
            refine lv_goto (tgt := 82) hx hb dX9_weight_78 (by decide) ?_
            refine pg_put (ci := 8) (v := .int 3) (ty := .int) (C := RX9) (T := TX9) (N := 20) hx hb hts hinX9 tyX9 tyX9_ok nmX9 hown hK hP hD hS hmo hFo_24 rfl 17 (by decide) (hts (.fieldLink RX9 65 "RopeDrumsModel" "failed" "I") (by decide +kernel)) (fun _ h9 => h9) rfl (by decide +kernel) (rfl) (rfl) (Nat.le_of_ble_eq_true rfl) dX9_weight_82 (fun H locs F48 eF48 hP hS => ?_)
            have eF48 : F48 = va_up F24 o (.inr (8, [.int 0, .ref (qm 0), .ref (qm 1), .ref (qm 2), .ref (qm 3), .ref (qm 4), .ref (qm 5), .ref (qm 6), .ref (qm 7), .int Pp.1, .ref (qm 8), .ref (qm 9), .ref (qm 10), .ref (qm 11), .ref (qm 12), .ref (qm 13), .ref (qm 14), .int 3, .ref (qm 15), .long oc])) := eF48
            have hFo_48 : F48 o = .inr (8, [.int 0, .ref (qm 0), .ref (qm 1), .ref (qm 2), .ref (qm 3), .ref (qm 4), .ref (qm 5), .ref (qm 6), .ref (qm 7), .int Pp.1, .ref (qm 8), .ref (qm 9), .ref (qm 10), .ref (qm 11), .ref (qm 12), .ref (qm 13), .ref (qm 14), .int 3, .ref (qm 15), .long oc]) := by rw [eF48]; exact va_up_self _ _ _
            have hFqm0_48 : F48 (qm 0) = cI (cy 1) 10 Mm.1 := by rw [eF48, va_up_ne _ _ (pl_ne hFqm0_24 hFo_24 rfl)]; exact hFqm0_24
            have hFqm1_48 : F48 (qm 1) = cJ (cy 2) 10 Mm.2 := by rw [eF48, va_up_ne _ _ (pl_ne hFqm1_24 hFo_24 rfl)]; exact hFqm1_24
            have hFqm2_48 : F48 (qm 2) = cD (cy 0) 6 Dd.1 := by rw [eF48, va_up_ne _ _ (pl_ne hFqm2_24 hFo_24 rfl)]; exact hFqm2_24
            have hFqm3_48 : F48 (qm 3) = cD (cy 0) 6 Dd.2.1 := by rw [eF48, va_up_ne _ _ (pl_ne hFqm3_24 hFo_24 rfl)]; exact hFqm3_24
            have hFqm4_48 : F48 (qm 4) = cD (cy 0) 6 Dd.2.2.1 := by rw [eF48, va_up_ne _ _ (pl_ne hFqm4_24 hFo_24 rfl)]; exact hFqm4_24
            have hFqm5_48 : F48 (qm 5) = cJ (cy 2) 6 Dd.2.2.2 := by rw [eF48, va_up_ne _ _ (pl_ne hFqm5_24 hFo_24 rfl)]; exact hFqm5_24
            have hFqm6_48 : F48 (qm 6) = cI (cy 1) 8 Sl.1 := by rw [eF48, va_up_ne _ _ (pl_ne hFqm6_24 hFo_24 rfl)]; exact hFqm6_24
            have hFqm7_48 : F48 (qm 7) = cJ (cy 2) 128 Sl.2 := by rw [eF48, va_up_ne _ _ (pl_ne hFqm7_24 hFo_24 rfl)]; exact hFqm7_24
            have hFqm8_48 : F48 (qm 8) = cI (cy 1) 30 Pp.2.1 := by rw [eF48, va_up_ne _ _ (pl_ne hFqm8_24 hFo_24 rfl)]; exact hFqm8_24
            have hFqm9_48 : F48 (qm 9) = cI (cy 3) 30 Pp.2.2 := by rw [eF48, va_up_ne _ _ (pl_ne hFqm9_24 hFo_24 rfl)]; exact hFqm9_24
            have hFqm10_48 : F48 (qm 10) = cI (cy 1) 5 Kr.1 := by rw [eF48, va_up_ne _ _ (pl_ne hFqm10_24 hFo_24 rfl)]; exact hFqm10_24
            have hFqm11_48 : F48 (qm 11) = cI (cy 3) 5 Kr.2.1 := by rw [eF48, va_up_ne _ _ (pl_ne hFqm11_24 hFo_24 rfl)]; exact hFqm11_24
            have hFqm12_48 : F48 (qm 12) = cI (cy 1) 60 Kr.2.2 := by rw [eF48, va_up_ne _ _ (pl_ne hFqm12_24 hFo_24 rfl)]; exact hFqm12_24
            have hFqm13_48 : F48 (qm 13) = cI (cy 1) 4 Bk.1 := by rw [eF48, va_up_ne _ _ (pl_ne hFqm13_24 hFo_24 rfl)]; exact hFqm13_24
            have hFqm14_48 : F48 (qm 14) = cD (cy 0) 4 Bk.2 := by rw [eF48, va_up_ne _ _ (pl_ne hFqm14_24 hFo_24 rfl)]; exact hFqm14_24
            have hFqm15_48 : F48 (qm 15) = cI (cy 1) 6 Xx.2 := by rw [eF48, va_up_ne _ _ (pl_ne hFqm15_24 hFo_24 rfl)]; exact hFqm15_24
            refine lv_aload_n hx hb dX9_weight_85 rfl (lv_at hl 1 rfl) ?_
            refine pg_get (ci := 8) (C := RX9) (T := TX9) (N := 20) hx hb hts hinX9 hown hK hP hmo hFo_48 rfl 17 (by decide) (hts (.fieldLink RX9 65 "RopeDrumsModel" "failed" "I") (by decide +kernel)) (fun _ h9 => h9) rfl dX9_weight_86 ?_
            refine lv_if_le (tgt := 100) hx hb dX9_weight_89 (by decide) (fun c49 => absurd c49 (by decide)) (fun c49 => ?_)
            refine lv_aload_n hx hb dX9_weight_92 rfl (lv_at hl 1 rfl) ?_
            refine lv_iconst (v := 0) hx hb dX9_weight_93 (by decide) ?_
            refine va_calli (va_runV (As := [.int 0]) (rest := []) ⟨hx, hb, hml, hown, hts⟩ (c9_answers_3 l G cy L F48 H.size o qm 0 Pp.1 oc hmo hFo_48 Xx.2 hm15 hFqm15_48 0) (cwV 1 hts gX9_weight_X9_answers rfl rfl rfl (by decide +kernel) ⟨Nat.le_of_ble_eq_true rfl, Nat.le_of_ble_eq_true rfl⟩) (preV_of okQ (⟨rfl, hP, hK, hD.top⟩) (pl_recv hK hP (ci := 8) rfl hmo hFo_48)) rfl rfl hl.1 rfl (lv_room (Nat.le_of_ble_eq_true rfl)) dX9_weight_94 ⟨Nat.le_of_ble_eq_true rfl, Nat.le_of_ble_eq_true rfl⟩) hS (fun q _ h => pl_free hD hS hA q h) (pl_free hD hS hA) (fun r51 F50 t H1 locs ht hvm hw hP1 hz1 hk1 hS => ?_)
            have hP1 : va_P G vwCl (va_pl L F50) t.heap := hP1
            rw [ht] at hP1
            have hP := hP1
            generalize H1 = H at hP hS ⊢
            obtain ⟨hqr51, eF50⟩ := hw
            have eF50 : F50 = va_up F48 (qm 15) (cI (cy 1) 6 (upd Xx.2 3 (Xx.2 3 + 1))) := eF50
            have hFo_51 : F50 o = .inr (8, [.int 0, .ref (qm 0), .ref (qm 1), .ref (qm 2), .ref (qm 3), .ref (qm 4), .ref (qm 5), .ref (qm 6), .ref (qm 7), .int Pp.1, .ref (qm 8), .ref (qm 9), .ref (qm 10), .ref (qm 11), .ref (qm 12), .ref (qm 13), .ref (qm 14), .int 3, .ref (qm 15), .long oc]) := by rw [eF50, va_up_ne _ _ (pl_ne hFo_48 hFqm15_48 rfl)]; exact hFo_48
            have hFqm0_51 : F50 (qm 0) = cI (cy 1) 10 Mm.1 := by rw [eF50, va_up_ne _ _ (pl_ne hFqm0_48 hFqm15_48 rfl)]; exact hFqm0_48
            have hFqm1_51 : F50 (qm 1) = cJ (cy 2) 10 Mm.2 := by rw [eF50, va_up_ne _ _ (pl_ne hFqm1_48 hFqm15_48 rfl)]; exact hFqm1_48
            have hFqm2_51 : F50 (qm 2) = cD (cy 0) 6 Dd.1 := by rw [eF50, va_up_ne _ _ (pl_ne hFqm2_48 hFqm15_48 rfl)]; exact hFqm2_48
            have hFqm3_51 : F50 (qm 3) = cD (cy 0) 6 Dd.2.1 := by rw [eF50, va_up_ne _ _ (pl_ne hFqm3_48 hFqm15_48 rfl)]; exact hFqm3_48
            have hFqm4_51 : F50 (qm 4) = cD (cy 0) 6 Dd.2.2.1 := by rw [eF50, va_up_ne _ _ (pl_ne hFqm4_48 hFqm15_48 rfl)]; exact hFqm4_48
            have hFqm5_51 : F50 (qm 5) = cJ (cy 2) 6 Dd.2.2.2 := by rw [eF50, va_up_ne _ _ (pl_ne hFqm5_48 hFqm15_48 rfl)]; exact hFqm5_48
            have hFqm6_51 : F50 (qm 6) = cI (cy 1) 8 Sl.1 := by rw [eF50, va_up_ne _ _ (pl_ne hFqm6_48 hFqm15_48 rfl)]; exact hFqm6_48
            have hFqm7_51 : F50 (qm 7) = cJ (cy 2) 128 Sl.2 := by rw [eF50, va_up_ne _ _ (pl_ne hFqm7_48 hFqm15_48 rfl)]; exact hFqm7_48
            have hFqm8_51 : F50 (qm 8) = cI (cy 1) 30 Pp.2.1 := by rw [eF50, va_up_ne _ _ (pl_ne hFqm8_48 hFqm15_48 rfl)]; exact hFqm8_48
            have hFqm9_51 : F50 (qm 9) = cI (cy 3) 30 Pp.2.2 := by rw [eF50, va_up_ne _ _ (pl_ne hFqm9_48 hFqm15_48 rfl)]; exact hFqm9_48
            have hFqm10_51 : F50 (qm 10) = cI (cy 1) 5 Kr.1 := by rw [eF50, va_up_ne _ _ (pl_ne hFqm10_48 hFqm15_48 rfl)]; exact hFqm10_48
            have hFqm11_51 : F50 (qm 11) = cI (cy 3) 5 Kr.2.1 := by rw [eF50, va_up_ne _ _ (pl_ne hFqm11_48 hFqm15_48 rfl)]; exact hFqm11_48
            have hFqm12_51 : F50 (qm 12) = cI (cy 1) 60 Kr.2.2 := by rw [eF50, va_up_ne _ _ (pl_ne hFqm12_48 hFqm15_48 rfl)]; exact hFqm12_48
            have hFqm13_51 : F50 (qm 13) = cI (cy 1) 4 Bk.1 := by rw [eF50, va_up_ne _ _ (pl_ne hFqm13_48 hFqm15_48 rfl)]; exact hFqm13_48
            have hFqm14_51 : F50 (qm 14) = cD (cy 0) 4 Bk.2 := by rw [eF50, va_up_ne _ _ (pl_ne hFqm14_48 hFqm15_48 rfl)]; exact hFqm14_48
            have hFqm15_51 : F50 (qm 15) = cI (cy 1) 6 (upd Xx.2 3 (Xx.2 3 + 1)) := by rw [eF50]; exact va_up_self _ _ _
            have hr51 := hqr51
            refine lv_goto (tgt := 125) hx hb dX9_weight_97 (by decide) ?_
            exact W.iret (v := r51) hx hb hr (fun t ht hW => ⟨⟨r51, F50, rfl, (by subst hr51 ev40 ev26; have hc64 := c35; have hc74 := c41; have hsp : sp_weight Pp Kr Xx (nI j_rk) (nI q_i) re = (-10 - 3, failX Xx 3) := (by unfold sp_weight; rw [hi_rk]; refine (if_pos hp_i).trans ?_; rw [nI_tn (q := q_i) (by omega), hx0]; unfold wtX; rw [if_neg (nI_neg (by omega)), nI_tn (q := ks) (by omega)]; exact if_pos ⟨hc64, hc74⟩); rw [hsp]; exact ⟨rfl, (by exact ⟨⟨_, _, hmo, hFo_51⟩, ⟨hm0, hFqm0_51⟩, ⟨hm1, hFqm1_51⟩, ⟨hm2, hFqm2_51⟩, ⟨hm3, hFqm3_51⟩, ⟨hm4, hFqm4_51⟩, ⟨hm5, hFqm5_51⟩, ⟨hm6, hFqm6_51⟩, ⟨hm7, hFqm7_51⟩, ⟨hm8, hFqm8_51⟩, ⟨hm9, hFqm9_51⟩, ⟨hm10, hFqm10_51⟩, ⟨hm11, hFqm11_51⟩, ⟨hm12, hFqm12_51⟩, ⟨hm13, hFqm13_51⟩, ⟨hm14, hFqm14_51⟩, ⟨hm15, hFqm15_51⟩, hne⟩)⟩), (by show va_P _ _ _ t.heap; rw [ht]; exact hP)⟩, hS.F ht⟩) hS.2.2 dX9_weight_125

set_option maxHeartbeats 8000000 in
set_option maxRecDepth 100000 in
theorem n_brake (l : Launch) (G : va_G) (cy : Nat → ClassId) (L : List Nat) (F : Nat → va_E) (sz : Nat) (o : Nat) (qm : Nat → Nat) (Mm : SM) (Dd : SD) (Sl : SL) (Pp : SP) (Kr : SR) (Bk : SB) (Xx : SX) (hR : RepM cy L o qm Mm Dd Sl Pp Kr Bk Xx F) (hV : Val Mm Dd Sl Pp Kr Bk) (br so : Int32) (n : Nat) (hn : n < 2 ^ 64)  : Met l yX9_brake wsX9_brake ({ frames := 2, cells := 0, slots := 0, locals := 45 }) (va_Pc [.ref o, .int br, .int so, .long (lN n)] (fun U => bQ G cy L F sz U U.heap)) (va_Qi (fun (r : Int32) (F' : Nat → va_E) => r = (sp_brake Bk br so (lN n)).1 ∧ RepM cy L o qm Mm Dd Sl Pp Kr (sp_brake Bk br so (lN n)).2 Xx F') (fun F' t => va_P G vwCl (va_pl L F') t.heap) (va_A (va_pl L F) sz)) 0 0 (va_A (va_pl L F) sz) := by
  refine Met.ofW (cc := cX9_brake) (maxL := 5) (ret := (some .int)) (by decide) rfl ?_
  intro p e s m args below meth c s₁ B hml hv
  obtain ⟨rfl, hsz, hP, hK, hD0⟩ := hv
  have hx := B.exec
  have hb := B.bytes
  have hr := B.returns
  have hts := atoms_spec (ws := wsX9_brake) B.pre
  have hown : s.vm.findClass RX9 = some m.cls := findClass_of_methodNamed B.named
  have hlocks := B.notSynchronized
  have hinX9 : ∀ w ∈ wsX90, w ∈ wsX9_brake := by decide +kernel
  subst hsz
  have hD := hD0.self F s.heap.size
  generalize hAe : va_A (va_pl L F) s.heap.size = A at hD ⊢
  have hA : ∀ q : Nat, s.heap.size ≤ q → A q := fun q h => by rw [← hAe]; exact Or.inr h
  have hS : va_S A s.heap s.heap [] := va_S.rf
  obtain ⟨⟨th, oc, hmo, hFo⟩, ⟨hm0, hF0⟩, ⟨hm1, hF1⟩, ⟨hm2, hF2⟩, ⟨hm3, hF3⟩, ⟨hm4, hF4⟩, ⟨hm5, hF5⟩, ⟨hm6, hF6⟩, ⟨hm7, hF7⟩, ⟨hm8, hF8⟩, ⟨hm9, hF9⟩, ⟨hm10, hF10⟩, ⟨hm11, hF11⟩, ⟨hm12, hF12⟩, ⟨hm13, hF13⟩, ⟨hm14, hF14⟩, ⟨hm15, hF15⟩, hne⟩ := id hR
  obtain ⟨hVM, hVD, hVS, hVP, hVK, hVB⟩ := hV
  have hl := lv_entry ([.ref o, .int br, .int so, .long (lN n)]) (n := 5) (Nat.le_of_ble_eq_true rfl)
  rw [lg_entry_eq]
  generalize (lg_sl ([.ref o, .int br, .int so, .long (lN n)]) ++ List.replicate (5 - (lg_sl ([.ref o, .int br, .int so, .long (lN n)])).length) Slot.unset).toArray = ls at hl ⊢
  have hl : lv_has ls 5 [(0, .ref o), (1, .int br), (2, .int so), (3, .long (lN n))] := hl
  rcases ixc 4 br with hi_br | ⟨j_br, hj_br, hi_br, ei_br⟩
  · refine lv_aload_n hx hb dX9_brake_0 rfl (lv_at hl 0 rfl) ?_
    refine lv_iconst (v := 0) hx hb dX9_brake_1 (by decide) ?_
    refine pg_put (ci := 8) (v := .int 0) (ty := .int) (C := RX9) (T := TX9) (N := 20) hx hb hts hinX9 tyX9 tyX9_ok nmX9 hown hK hP hD hS hmo hFo rfl 0 (by decide) (hts (.fieldLink RX9 61 "RopeDrumsModel" "thrown" "I") (by decide +kernel)) (fun _ h9 => h9) rfl (by decide +kernel) (rfl) (rfl) (Nat.le_of_ble_eq_true rfl) dX9_brake_2 (fun H locs F1 eF1 hP hS => ?_)
    have eF1 : F1 = va_up F o (.inr (8, [.int 0, .ref (qm 0), .ref (qm 1), .ref (qm 2), .ref (qm 3), .ref (qm 4), .ref (qm 5), .ref (qm 6), .ref (qm 7), .int Pp.1, .ref (qm 8), .ref (qm 9), .ref (qm 10), .ref (qm 11), .ref (qm 12), .ref (qm 13), .ref (qm 14), .int Xx.1, .ref (qm 15), .long oc])) := eF1
    have hFo_1 : F1 o = .inr (8, [.int 0, .ref (qm 0), .ref (qm 1), .ref (qm 2), .ref (qm 3), .ref (qm 4), .ref (qm 5), .ref (qm 6), .ref (qm 7), .int Pp.1, .ref (qm 8), .ref (qm 9), .ref (qm 10), .ref (qm 11), .ref (qm 12), .ref (qm 13), .ref (qm 14), .int Xx.1, .ref (qm 15), .long oc]) := by rw [eF1]; exact va_up_self _ _ _
    have hFqm0_1 : F1 (qm 0) = cI (cy 1) 10 Mm.1 := by rw [eF1, va_up_ne _ _ (pl_ne hF0 hFo rfl)]; exact hF0
    have hFqm1_1 : F1 (qm 1) = cJ (cy 2) 10 Mm.2 := by rw [eF1, va_up_ne _ _ (pl_ne hF1 hFo rfl)]; exact hF1
    have hFqm2_1 : F1 (qm 2) = cD (cy 0) 6 Dd.1 := by rw [eF1, va_up_ne _ _ (pl_ne hF2 hFo rfl)]; exact hF2
    have hFqm3_1 : F1 (qm 3) = cD (cy 0) 6 Dd.2.1 := by rw [eF1, va_up_ne _ _ (pl_ne hF3 hFo rfl)]; exact hF3
    have hFqm4_1 : F1 (qm 4) = cD (cy 0) 6 Dd.2.2.1 := by rw [eF1, va_up_ne _ _ (pl_ne hF4 hFo rfl)]; exact hF4
    have hFqm5_1 : F1 (qm 5) = cJ (cy 2) 6 Dd.2.2.2 := by rw [eF1, va_up_ne _ _ (pl_ne hF5 hFo rfl)]; exact hF5
    have hFqm6_1 : F1 (qm 6) = cI (cy 1) 8 Sl.1 := by rw [eF1, va_up_ne _ _ (pl_ne hF6 hFo rfl)]; exact hF6
    have hFqm7_1 : F1 (qm 7) = cJ (cy 2) 128 Sl.2 := by rw [eF1, va_up_ne _ _ (pl_ne hF7 hFo rfl)]; exact hF7
    have hFqm8_1 : F1 (qm 8) = cI (cy 1) 30 Pp.2.1 := by rw [eF1, va_up_ne _ _ (pl_ne hF8 hFo rfl)]; exact hF8
    have hFqm9_1 : F1 (qm 9) = cI (cy 3) 30 Pp.2.2 := by rw [eF1, va_up_ne _ _ (pl_ne hF9 hFo rfl)]; exact hF9
    have hFqm10_1 : F1 (qm 10) = cI (cy 1) 5 Kr.1 := by rw [eF1, va_up_ne _ _ (pl_ne hF10 hFo rfl)]; exact hF10
    have hFqm11_1 : F1 (qm 11) = cI (cy 3) 5 Kr.2.1 := by rw [eF1, va_up_ne _ _ (pl_ne hF11 hFo rfl)]; exact hF11
    have hFqm12_1 : F1 (qm 12) = cI (cy 1) 60 Kr.2.2 := by rw [eF1, va_up_ne _ _ (pl_ne hF12 hFo rfl)]; exact hF12
    have hFqm13_1 : F1 (qm 13) = cI (cy 1) 4 Bk.1 := by rw [eF1, va_up_ne _ _ (pl_ne hF13 hFo rfl)]; exact hF13
    have hFqm14_1 : F1 (qm 14) = cD (cy 0) 4 Bk.2 := by rw [eF1, va_up_ne _ _ (pl_ne hF14 hFo rfl)]; exact hF14
    have hFqm15_1 : F1 (qm 15) = cI (cy 1) 6 Xx.2 := by rw [eF1, va_up_ne _ _ (pl_ne hF15 hFo rfl)]; exact hF15
    refine lv_iload_n hx hb dX9_brake_5 rfl (lv_at hl 1 rfl) ?_
    refine lv_i2l hx hb dX9_brake_6 rfl ?_
    refine lv_topl (fun v2 ev2 => ?_)
    refine lv_lconst (v := 0) hx hb dX9_brake_7 (by decide) ?_
    refine lv_ldc2 hx hb hown (hts (.constantLong RX9 123 (3)) (by decide +kernel)) dX9_brake_8 ?_
    refine vp_callSi (W.runS (As := [.long v2, .long 0, .long 3]) (rest := []) ⟨hx, hb, hml, hown, hts⟩ (c9_in l v2 0 3) (va_cwS 3 hts gX9_brake_X9_in rfl rfl rfl (by decide +kernel) ⟨Nat.le_of_ble_eq_true rfl, Nat.le_of_ble_eq_true rfl⟩) (preS_of okT (trivial)) rfl rfl hl.1 rfl (lv_room (Nat.le_of_ble_eq_true rfl)) dX9_brake_11 ⟨Nat.le_of_ble_eq_true rfl, Nat.le_of_ble_eq_true rfl⟩) (fun r3 hr3 => ?_)
    have hzr3 : r3 = 0 := by rw [hr3, ev2, inq_i (y := 0) (z := 3) (by decide) (by decide)]; exact if_neg ((by have hq := ixn hi_br; omega))
    subst hzr3
    refine lv_if_ne (tgt := 21) hx hb dX9_brake_14 (by decide) (fun c4 => absurd (by decide) c4) (fun c4 => ?_)
    refine lv_sipush (v := -1001) hx hb dX9_brake_17 (by decide) ?_
    exact W.iret (v := -1001) hx hb hr (fun t ht hW => ⟨⟨-1001, F1, rfl, (by subst ev2; have hsp : sp_brake Bk br so (lN n) = (-1001, Bk) := (by unfold sp_brake; rw [hi_br]); rw [hsp]; exact ⟨rfl, (by exact ⟨⟨_, _, hmo, hFo_1⟩, ⟨hm0, hFqm0_1⟩, ⟨hm1, hFqm1_1⟩, ⟨hm2, hFqm2_1⟩, ⟨hm3, hFqm3_1⟩, ⟨hm4, hFqm4_1⟩, ⟨hm5, hFqm5_1⟩, ⟨hm6, hFqm6_1⟩, ⟨hm7, hFqm7_1⟩, ⟨hm8, hFqm8_1⟩, ⟨hm9, hFqm9_1⟩, ⟨hm10, hFqm10_1⟩, ⟨hm11, hFqm11_1⟩, ⟨hm12, hFqm12_1⟩, ⟨hm13, hFqm13_1⟩, ⟨hm14, hFqm14_1⟩, ⟨hm15, hFqm15_1⟩, hne⟩)⟩), (by show va_P _ _ _ t.heap; rw [ht]; exact hP)⟩, hS.F ht⟩) hS.2.2 dX9_brake_20
  · subst ei_br
    by_cases hso : 0 ≤ so.toInt ∧ so.toInt ≤ 2
    · by_cases hs2 : so = 2
      · refine lv_aload_n hx hb dX9_brake_0 rfl (lv_at hl 0 rfl) ?_
        refine lv_iconst (v := 0) hx hb dX9_brake_1 (by decide) ?_
        refine pg_put (ci := 8) (v := .int 0) (ty := .int) (C := RX9) (T := TX9) (N := 20) hx hb hts hinX9 tyX9 tyX9_ok nmX9 hown hK hP hD hS hmo hFo rfl 0 (by decide) (hts (.fieldLink RX9 61 "RopeDrumsModel" "thrown" "I") (by decide +kernel)) (fun _ h9 => h9) rfl (by decide +kernel) (rfl) (rfl) (Nat.le_of_ble_eq_true rfl) dX9_brake_2 (fun H locs F5 eF5 hP hS => ?_)
        have eF5 : F5 = va_up F o (.inr (8, [.int 0, .ref (qm 0), .ref (qm 1), .ref (qm 2), .ref (qm 3), .ref (qm 4), .ref (qm 5), .ref (qm 6), .ref (qm 7), .int Pp.1, .ref (qm 8), .ref (qm 9), .ref (qm 10), .ref (qm 11), .ref (qm 12), .ref (qm 13), .ref (qm 14), .int Xx.1, .ref (qm 15), .long oc])) := eF5
        have hFo_5 : F5 o = .inr (8, [.int 0, .ref (qm 0), .ref (qm 1), .ref (qm 2), .ref (qm 3), .ref (qm 4), .ref (qm 5), .ref (qm 6), .ref (qm 7), .int Pp.1, .ref (qm 8), .ref (qm 9), .ref (qm 10), .ref (qm 11), .ref (qm 12), .ref (qm 13), .ref (qm 14), .int Xx.1, .ref (qm 15), .long oc]) := by rw [eF5]; exact va_up_self _ _ _
        have hFqm0_5 : F5 (qm 0) = cI (cy 1) 10 Mm.1 := by rw [eF5, va_up_ne _ _ (pl_ne hF0 hFo rfl)]; exact hF0
        have hFqm1_5 : F5 (qm 1) = cJ (cy 2) 10 Mm.2 := by rw [eF5, va_up_ne _ _ (pl_ne hF1 hFo rfl)]; exact hF1
        have hFqm2_5 : F5 (qm 2) = cD (cy 0) 6 Dd.1 := by rw [eF5, va_up_ne _ _ (pl_ne hF2 hFo rfl)]; exact hF2
        have hFqm3_5 : F5 (qm 3) = cD (cy 0) 6 Dd.2.1 := by rw [eF5, va_up_ne _ _ (pl_ne hF3 hFo rfl)]; exact hF3
        have hFqm4_5 : F5 (qm 4) = cD (cy 0) 6 Dd.2.2.1 := by rw [eF5, va_up_ne _ _ (pl_ne hF4 hFo rfl)]; exact hF4
        have hFqm5_5 : F5 (qm 5) = cJ (cy 2) 6 Dd.2.2.2 := by rw [eF5, va_up_ne _ _ (pl_ne hF5 hFo rfl)]; exact hF5
        have hFqm6_5 : F5 (qm 6) = cI (cy 1) 8 Sl.1 := by rw [eF5, va_up_ne _ _ (pl_ne hF6 hFo rfl)]; exact hF6
        have hFqm7_5 : F5 (qm 7) = cJ (cy 2) 128 Sl.2 := by rw [eF5, va_up_ne _ _ (pl_ne hF7 hFo rfl)]; exact hF7
        have hFqm8_5 : F5 (qm 8) = cI (cy 1) 30 Pp.2.1 := by rw [eF5, va_up_ne _ _ (pl_ne hF8 hFo rfl)]; exact hF8
        have hFqm9_5 : F5 (qm 9) = cI (cy 3) 30 Pp.2.2 := by rw [eF5, va_up_ne _ _ (pl_ne hF9 hFo rfl)]; exact hF9
        have hFqm10_5 : F5 (qm 10) = cI (cy 1) 5 Kr.1 := by rw [eF5, va_up_ne _ _ (pl_ne hF10 hFo rfl)]; exact hF10
        have hFqm11_5 : F5 (qm 11) = cI (cy 3) 5 Kr.2.1 := by rw [eF5, va_up_ne _ _ (pl_ne hF11 hFo rfl)]; exact hF11
        have hFqm12_5 : F5 (qm 12) = cI (cy 1) 60 Kr.2.2 := by rw [eF5, va_up_ne _ _ (pl_ne hF12 hFo rfl)]; exact hF12
        have hFqm13_5 : F5 (qm 13) = cI (cy 1) 4 Bk.1 := by rw [eF5, va_up_ne _ _ (pl_ne hF13 hFo rfl)]; exact hF13
        have hFqm14_5 : F5 (qm 14) = cD (cy 0) 4 Bk.2 := by rw [eF5, va_up_ne _ _ (pl_ne hF14 hFo rfl)]; exact hF14
        have hFqm15_5 : F5 (qm 15) = cI (cy 1) 6 Xx.2 := by rw [eF5, va_up_ne _ _ (pl_ne hF15 hFo rfl)]; exact hF15
        refine lv_iload_n hx hb dX9_brake_5 rfl (lv_at hl 1 rfl) ?_
        refine lv_i2l hx hb dX9_brake_6 rfl ?_
        refine lv_topl (fun v6 ev6 => ?_)
        refine lv_lconst (v := 0) hx hb dX9_brake_7 (by decide) ?_
        refine lv_ldc2 hx hb hown (hts (.constantLong RX9 123 (3)) (by decide +kernel)) dX9_brake_8 ?_
        refine vp_callSi (W.runS (As := [.long v6, .long 0, .long 3]) (rest := []) ⟨hx, hb, hml, hown, hts⟩ (c9_in l v6 0 3) (va_cwS 3 hts gX9_brake_X9_in rfl rfl rfl (by decide +kernel) ⟨Nat.le_of_ble_eq_true rfl, Nat.le_of_ble_eq_true rfl⟩) (preS_of okT (trivial)) rfl rfl hl.1 rfl (lv_room (Nat.le_of_ble_eq_true rfl)) dX9_brake_11 ⟨Nat.le_of_ble_eq_true rfl, Nat.le_of_ble_eq_true rfl⟩) (fun r7 hr7 => ?_)
        have hzr7 : r7 = 1 := by rw [hr7, ev6, inq_i (y := 0) (z := 3) (by decide) (by decide)]; exact if_pos (by rw [nI_toInt (by omega)]; omega)
        subst hzr7
        refine lv_if_ne (tgt := 21) hx hb dX9_brake_14 (by decide) (fun c8 => ?_) (fun c8 => absurd c8 (by decide))
        refine lv_iload_n hx hb dX9_brake_21 rfl (lv_at hl 2 rfl) ?_
        refine lv_i2l hx hb dX9_brake_22 rfl ?_
        refine lv_topl (fun v9 ev9 => ?_)
        refine lv_lconst (v := 0) hx hb dX9_brake_23 (by decide) ?_
        refine lv_ldc2 hx hb hown (hts (.constantLong RX9 208 (2)) (by decide +kernel)) dX9_brake_24 ?_
        refine vp_callSi (W.runS (As := [.long v9, .long 0, .long 2]) (rest := []) ⟨hx, hb, hml, hown, hts⟩ (c9_in l v9 0 2) (va_cwS 3 hts gX9_brake_X9_in rfl rfl rfl (by decide +kernel) ⟨Nat.le_of_ble_eq_true rfl, Nat.le_of_ble_eq_true rfl⟩) (preS_of okT (trivial)) rfl rfl hl.1 rfl (lv_room (Nat.le_of_ble_eq_true rfl)) dX9_brake_27 ⟨Nat.le_of_ble_eq_true rfl, Nat.le_of_ble_eq_true rfl⟩) (fun r10 hr10 => ?_)
        have hzr10 : r10 = 1 := by rw [hr10, ev9, inq_i (y := 0) (z := 2) (by decide) (by decide)]; exact if_pos (hso)
        subst hzr10
        refine lv_if_eq (tgt := 46) hx hb dX9_brake_30 (by decide) (fun c11 => absurd c11 (by decide)) (fun c11 => ?_)
        refine lv_iload_n hx hb dX9_brake_33 rfl (lv_at hl 2 rfl) ?_
        refine lv_iconst (v := 2) hx hb dX9_brake_34 (by decide) ?_
        refine lv_icmp_ge (tgt := 50) hx hb dX9_brake_35 (by decide) (fun c12 => ?_) (fun c12 => absurd (by rw [hs2]; decide) c12)
        refine lv_aload_n hx hb dX9_brake_50 rfl (lv_at hl 0 rfl) ?_
        refine pg_get (ci := 8) (C := RX9) (T := TX9) (N := 20) hx hb hts hinX9 hown hK hP hmo hFo_5 rfl 15 (by decide) (hts (.fieldLink RX9 52 "RopeDrumsModel" "brakeSort" "[I") (by decide +kernel)) (fun _ h9 => h9) rfl dX9_brake_51 ?_
        refine lv_iload_n hx hb dX9_brake_54 rfl (lv_at hl 1 rfl) ?_
        refine lv_iload_n hx hb dX9_brake_55 rfl (lv_at hl 2 rfl) ?_
        refine pg_iast hx hb hK hP hD hS 1 hm13 hFqm13_5 rfl (vp_in_nI (by omega) (by decide)) dX9_brake_56 (fun H locs F13 eF13 hP hS => ?_)
        rw [nI_clamp (by omega)] at eF13
        have hFo_13 : F13 o = .inr (8, [.int 0, .ref (qm 0), .ref (qm 1), .ref (qm 2), .ref (qm 3), .ref (qm 4), .ref (qm 5), .ref (qm 6), .ref (qm 7), .int Pp.1, .ref (qm 8), .ref (qm 9), .ref (qm 10), .ref (qm 11), .ref (qm 12), .ref (qm 13), .ref (qm 14), .int Xx.1, .ref (qm 15), .long oc]) := by rw [eF13, va_up_ne _ _ (pl_ne hFo_5 hFqm13_5 rfl)]; exact hFo_5
        have hFqm0_13 : F13 (qm 0) = cI (cy 1) 10 Mm.1 := by rw [eF13, va_up_ne _ _ (pl_ne hFqm0_5 hFqm13_5 rfl)]; exact hFqm0_5
        have hFqm1_13 : F13 (qm 1) = cJ (cy 2) 10 Mm.2 := by rw [eF13, va_up_ne _ _ (pl_ne hFqm1_5 hFqm13_5 rfl)]; exact hFqm1_5
        have hFqm2_13 : F13 (qm 2) = cD (cy 0) 6 Dd.1 := by rw [eF13, va_up_ne _ _ (pl_ne hFqm2_5 hFqm13_5 rfl)]; exact hFqm2_5
        have hFqm3_13 : F13 (qm 3) = cD (cy 0) 6 Dd.2.1 := by rw [eF13, va_up_ne _ _ (pl_ne hFqm3_5 hFqm13_5 rfl)]; exact hFqm3_5
        have hFqm4_13 : F13 (qm 4) = cD (cy 0) 6 Dd.2.2.1 := by rw [eF13, va_up_ne _ _ (pl_ne hFqm4_5 hFqm13_5 rfl)]; exact hFqm4_5
        have hFqm5_13 : F13 (qm 5) = cJ (cy 2) 6 Dd.2.2.2 := by rw [eF13, va_up_ne _ _ (pl_ne hFqm5_5 hFqm13_5 rfl)]; exact hFqm5_5
        have hFqm6_13 : F13 (qm 6) = cI (cy 1) 8 Sl.1 := by rw [eF13, va_up_ne _ _ (pl_ne hFqm6_5 hFqm13_5 rfl)]; exact hFqm6_5
        have hFqm7_13 : F13 (qm 7) = cJ (cy 2) 128 Sl.2 := by rw [eF13, va_up_ne _ _ (pl_ne hFqm7_5 hFqm13_5 rfl)]; exact hFqm7_5
        have hFqm8_13 : F13 (qm 8) = cI (cy 1) 30 Pp.2.1 := by rw [eF13, va_up_ne _ _ (pl_ne hFqm8_5 hFqm13_5 rfl)]; exact hFqm8_5
        have hFqm9_13 : F13 (qm 9) = cI (cy 3) 30 Pp.2.2 := by rw [eF13, va_up_ne _ _ (pl_ne hFqm9_5 hFqm13_5 rfl)]; exact hFqm9_5
        have hFqm10_13 : F13 (qm 10) = cI (cy 1) 5 Kr.1 := by rw [eF13, va_up_ne _ _ (pl_ne hFqm10_5 hFqm13_5 rfl)]; exact hFqm10_5
        have hFqm11_13 : F13 (qm 11) = cI (cy 3) 5 Kr.2.1 := by rw [eF13, va_up_ne _ _ (pl_ne hFqm11_5 hFqm13_5 rfl)]; exact hFqm11_5
        have hFqm12_13 : F13 (qm 12) = cI (cy 1) 60 Kr.2.2 := by rw [eF13, va_up_ne _ _ (pl_ne hFqm12_5 hFqm13_5 rfl)]; exact hFqm12_5
        have hFqm13_13 : F13 (qm 13) = cI (cy 1) 4 (upd Bk.1 j_br so) := by rw [eF13]; exact va_up_self _ _ _
        have hFqm14_13 : F13 (qm 14) = cD (cy 0) 4 Bk.2 := by rw [eF13, va_up_ne _ _ (pl_ne hFqm14_5 hFqm13_5 rfl)]; exact hFqm14_5
        have hFqm15_13 : F13 (qm 15) = cI (cy 1) 6 Xx.2 := by rw [eF13, va_up_ne _ _ (pl_ne hFqm15_5 hFqm13_5 rfl)]; exact hFqm15_5
        refine lv_aload_n hx hb dX9_brake_57 rfl (lv_at hl 0 rfl) ?_
        refine pg_get (ci := 8) (C := RX9) (T := TX9) (N := 20) hx hb hts hinX9 hown hK hP hmo hFo_13 rfl 16 (by decide) (hts (.fieldLink RX9 55 "RopeDrumsModel" "grip" "[D") (by decide +kernel)) (fun _ h9 => h9) rfl dX9_brake_58 ?_
        refine lv_iload_n hx hb dX9_brake_61 rfl (lv_at hl 1 rfl) ?_
        refine lv_iload_n hx hb dX9_brake_62 rfl (lv_at hl 2 rfl) ?_
        refine lv_iconst (v := 2) hx hb dX9_brake_63 (by decide) ?_
        refine lv_icmp_ge (tgt := 74) hx hb dX9_brake_64 (by decide) (fun c14 => ?_) (fun c14 => absurd (by rw [hs2]; decide) c14)
        refine lv_dconst0 hx hb dX9_brake_74 ?_
        refine pg_dast hx hb hK hP hD hS 0 hm14 hFqm14_13 rfl (vp_in_nI (by omega) (by decide)) dX9_brake_75 (fun H locs F15 eF15 hP hS => ?_)
        rw [nI_clamp (by omega)] at eF15
        have hFo_15 : F15 o = .inr (8, [.int 0, .ref (qm 0), .ref (qm 1), .ref (qm 2), .ref (qm 3), .ref (qm 4), .ref (qm 5), .ref (qm 6), .ref (qm 7), .int Pp.1, .ref (qm 8), .ref (qm 9), .ref (qm 10), .ref (qm 11), .ref (qm 12), .ref (qm 13), .ref (qm 14), .int Xx.1, .ref (qm 15), .long oc]) := by rw [eF15, va_up_ne _ _ (pl_ne hFo_13 hFqm14_13 rfl)]; exact hFo_13
        have hFqm0_15 : F15 (qm 0) = cI (cy 1) 10 Mm.1 := by rw [eF15, va_up_ne _ _ (pl_ne hFqm0_13 hFqm14_13 rfl)]; exact hFqm0_13
        have hFqm1_15 : F15 (qm 1) = cJ (cy 2) 10 Mm.2 := by rw [eF15, va_up_ne _ _ (pl_ne hFqm1_13 hFqm14_13 rfl)]; exact hFqm1_13
        have hFqm2_15 : F15 (qm 2) = cD (cy 0) 6 Dd.1 := by rw [eF15, va_up_ne _ _ (pl_ne hFqm2_13 hFqm14_13 rfl)]; exact hFqm2_13
        have hFqm3_15 : F15 (qm 3) = cD (cy 0) 6 Dd.2.1 := by rw [eF15, va_up_ne _ _ (pl_ne hFqm3_13 hFqm14_13 rfl)]; exact hFqm3_13
        have hFqm4_15 : F15 (qm 4) = cD (cy 0) 6 Dd.2.2.1 := by rw [eF15, va_up_ne _ _ (pl_ne hFqm4_13 hFqm14_13 rfl)]; exact hFqm4_13
        have hFqm5_15 : F15 (qm 5) = cJ (cy 2) 6 Dd.2.2.2 := by rw [eF15, va_up_ne _ _ (pl_ne hFqm5_13 hFqm14_13 rfl)]; exact hFqm5_13
        have hFqm6_15 : F15 (qm 6) = cI (cy 1) 8 Sl.1 := by rw [eF15, va_up_ne _ _ (pl_ne hFqm6_13 hFqm14_13 rfl)]; exact hFqm6_13
        have hFqm7_15 : F15 (qm 7) = cJ (cy 2) 128 Sl.2 := by rw [eF15, va_up_ne _ _ (pl_ne hFqm7_13 hFqm14_13 rfl)]; exact hFqm7_13
        have hFqm8_15 : F15 (qm 8) = cI (cy 1) 30 Pp.2.1 := by rw [eF15, va_up_ne _ _ (pl_ne hFqm8_13 hFqm14_13 rfl)]; exact hFqm8_13
        have hFqm9_15 : F15 (qm 9) = cI (cy 3) 30 Pp.2.2 := by rw [eF15, va_up_ne _ _ (pl_ne hFqm9_13 hFqm14_13 rfl)]; exact hFqm9_13
        have hFqm10_15 : F15 (qm 10) = cI (cy 1) 5 Kr.1 := by rw [eF15, va_up_ne _ _ (pl_ne hFqm10_13 hFqm14_13 rfl)]; exact hFqm10_13
        have hFqm11_15 : F15 (qm 11) = cI (cy 3) 5 Kr.2.1 := by rw [eF15, va_up_ne _ _ (pl_ne hFqm11_13 hFqm14_13 rfl)]; exact hFqm11_13
        have hFqm12_15 : F15 (qm 12) = cI (cy 1) 60 Kr.2.2 := by rw [eF15, va_up_ne _ _ (pl_ne hFqm12_13 hFqm14_13 rfl)]; exact hFqm12_13
        have hFqm13_15 : F15 (qm 13) = cI (cy 1) 4 (upd Bk.1 j_br so) := by rw [eF15, va_up_ne _ _ (pl_ne hFqm13_13 hFqm14_13 rfl)]; exact hFqm13_13
        have hFqm14_15 : F15 (qm 14) = cD (cy 0) 4 (vf_upd Bk.2 j_br FP.dconst0) := by rw [eF15]; exact va_up_self _ _ _
        have hFqm15_15 : F15 (qm 15) = cI (cy 1) 6 Xx.2 := by rw [eF15, va_up_ne _ _ (pl_ne hFqm15_13 hFqm14_13 rfl)]; exact hFqm15_13
        refine lv_iconst (v := 1) hx hb dX9_brake_76 (by decide) ?_
        exact W.iret (v := 1) hx hb hr (fun t ht hW => ⟨⟨1, F15, rfl, (by subst ev9 ev6; have hsp : sp_brake Bk (nI j_br) so (lN n) = (1, upd Bk.1 j_br so, vf_upd Bk.2 j_br 0) := (by unfold sp_brake; rw [hi_br]; exact (if_pos hso).trans ((if_pos hs2).trans (by rw [hs2]))); rw [hsp]; exact ⟨rfl, (by exact ⟨⟨_, _, hmo, hFo_15⟩, ⟨hm0, hFqm0_15⟩, ⟨hm1, hFqm1_15⟩, ⟨hm2, hFqm2_15⟩, ⟨hm3, hFqm3_15⟩, ⟨hm4, hFqm4_15⟩, ⟨hm5, hFqm5_15⟩, ⟨hm6, hFqm6_15⟩, ⟨hm7, hFqm7_15⟩, ⟨hm8, hFqm8_15⟩, ⟨hm9, hFqm9_15⟩, ⟨hm10, hFqm10_15⟩, ⟨hm11, hFqm11_15⟩, ⟨hm12, hFqm12_15⟩, ⟨hm13, hFqm13_15⟩, ⟨hm14, hFqm14_15⟩, ⟨hm15, hFqm15_15⟩, hne⟩)⟩), (by show va_P _ _ _ t.heap; rw [ht]; exact hP)⟩, hS.F ht⟩) hS.2.2 dX9_brake_77
      · by_cases hnum : numB 3 (lN n) = true
        · refine lv_aload_n hx hb dX9_brake_0 rfl (lv_at hl 0 rfl) ?_
          refine lv_iconst (v := 0) hx hb dX9_brake_1 (by decide) ?_
          refine pg_put (ci := 8) (v := .int 0) (ty := .int) (C := RX9) (T := TX9) (N := 20) hx hb hts hinX9 tyX9 tyX9_ok nmX9 hown hK hP hD hS hmo hFo rfl 0 (by decide) (hts (.fieldLink RX9 61 "RopeDrumsModel" "thrown" "I") (by decide +kernel)) (fun _ h9 => h9) rfl (by decide +kernel) (rfl) (rfl) (Nat.le_of_ble_eq_true rfl) dX9_brake_2 (fun H locs F16 eF16 hP hS => ?_)
          have eF16 : F16 = va_up F o (.inr (8, [.int 0, .ref (qm 0), .ref (qm 1), .ref (qm 2), .ref (qm 3), .ref (qm 4), .ref (qm 5), .ref (qm 6), .ref (qm 7), .int Pp.1, .ref (qm 8), .ref (qm 9), .ref (qm 10), .ref (qm 11), .ref (qm 12), .ref (qm 13), .ref (qm 14), .int Xx.1, .ref (qm 15), .long oc])) := eF16
          have hFo_16 : F16 o = .inr (8, [.int 0, .ref (qm 0), .ref (qm 1), .ref (qm 2), .ref (qm 3), .ref (qm 4), .ref (qm 5), .ref (qm 6), .ref (qm 7), .int Pp.1, .ref (qm 8), .ref (qm 9), .ref (qm 10), .ref (qm 11), .ref (qm 12), .ref (qm 13), .ref (qm 14), .int Xx.1, .ref (qm 15), .long oc]) := by rw [eF16]; exact va_up_self _ _ _
          have hFqm0_16 : F16 (qm 0) = cI (cy 1) 10 Mm.1 := by rw [eF16, va_up_ne _ _ (pl_ne hF0 hFo rfl)]; exact hF0
          have hFqm1_16 : F16 (qm 1) = cJ (cy 2) 10 Mm.2 := by rw [eF16, va_up_ne _ _ (pl_ne hF1 hFo rfl)]; exact hF1
          have hFqm2_16 : F16 (qm 2) = cD (cy 0) 6 Dd.1 := by rw [eF16, va_up_ne _ _ (pl_ne hF2 hFo rfl)]; exact hF2
          have hFqm3_16 : F16 (qm 3) = cD (cy 0) 6 Dd.2.1 := by rw [eF16, va_up_ne _ _ (pl_ne hF3 hFo rfl)]; exact hF3
          have hFqm4_16 : F16 (qm 4) = cD (cy 0) 6 Dd.2.2.1 := by rw [eF16, va_up_ne _ _ (pl_ne hF4 hFo rfl)]; exact hF4
          have hFqm5_16 : F16 (qm 5) = cJ (cy 2) 6 Dd.2.2.2 := by rw [eF16, va_up_ne _ _ (pl_ne hF5 hFo rfl)]; exact hF5
          have hFqm6_16 : F16 (qm 6) = cI (cy 1) 8 Sl.1 := by rw [eF16, va_up_ne _ _ (pl_ne hF6 hFo rfl)]; exact hF6
          have hFqm7_16 : F16 (qm 7) = cJ (cy 2) 128 Sl.2 := by rw [eF16, va_up_ne _ _ (pl_ne hF7 hFo rfl)]; exact hF7
          have hFqm8_16 : F16 (qm 8) = cI (cy 1) 30 Pp.2.1 := by rw [eF16, va_up_ne _ _ (pl_ne hF8 hFo rfl)]; exact hF8
          have hFqm9_16 : F16 (qm 9) = cI (cy 3) 30 Pp.2.2 := by rw [eF16, va_up_ne _ _ (pl_ne hF9 hFo rfl)]; exact hF9
          have hFqm10_16 : F16 (qm 10) = cI (cy 1) 5 Kr.1 := by rw [eF16, va_up_ne _ _ (pl_ne hF10 hFo rfl)]; exact hF10
          have hFqm11_16 : F16 (qm 11) = cI (cy 3) 5 Kr.2.1 := by rw [eF16, va_up_ne _ _ (pl_ne hF11 hFo rfl)]; exact hF11
          have hFqm12_16 : F16 (qm 12) = cI (cy 1) 60 Kr.2.2 := by rw [eF16, va_up_ne _ _ (pl_ne hF12 hFo rfl)]; exact hF12
          have hFqm13_16 : F16 (qm 13) = cI (cy 1) 4 Bk.1 := by rw [eF16, va_up_ne _ _ (pl_ne hF13 hFo rfl)]; exact hF13
          have hFqm14_16 : F16 (qm 14) = cD (cy 0) 4 Bk.2 := by rw [eF16, va_up_ne _ _ (pl_ne hF14 hFo rfl)]; exact hF14
          have hFqm15_16 : F16 (qm 15) = cI (cy 1) 6 Xx.2 := by rw [eF16, va_up_ne _ _ (pl_ne hF15 hFo rfl)]; exact hF15
          refine lv_iload_n hx hb dX9_brake_5 rfl (lv_at hl 1 rfl) ?_
          refine lv_i2l hx hb dX9_brake_6 rfl ?_
          refine lv_topl (fun v17 ev17 => ?_)
          refine lv_lconst (v := 0) hx hb dX9_brake_7 (by decide) ?_
          refine lv_ldc2 hx hb hown (hts (.constantLong RX9 123 (3)) (by decide +kernel)) dX9_brake_8 ?_
          refine vp_callSi (W.runS (As := [.long v17, .long 0, .long 3]) (rest := []) ⟨hx, hb, hml, hown, hts⟩ (c9_in l v17 0 3) (va_cwS 3 hts gX9_brake_X9_in rfl rfl rfl (by decide +kernel) ⟨Nat.le_of_ble_eq_true rfl, Nat.le_of_ble_eq_true rfl⟩) (preS_of okT (trivial)) rfl rfl hl.1 rfl (lv_room (Nat.le_of_ble_eq_true rfl)) dX9_brake_11 ⟨Nat.le_of_ble_eq_true rfl, Nat.le_of_ble_eq_true rfl⟩) (fun r18 hr18 => ?_)
          have hzr18 : r18 = 1 := by rw [hr18, ev17, inq_i (y := 0) (z := 3) (by decide) (by decide)]; exact if_pos (by rw [nI_toInt (by omega)]; omega)
          subst hzr18
          refine lv_if_ne (tgt := 21) hx hb dX9_brake_14 (by decide) (fun c19 => ?_) (fun c19 => absurd c19 (by decide))
          refine lv_iload_n hx hb dX9_brake_21 rfl (lv_at hl 2 rfl) ?_
          refine lv_i2l hx hb dX9_brake_22 rfl ?_
          refine lv_topl (fun v20 ev20 => ?_)
          refine lv_lconst (v := 0) hx hb dX9_brake_23 (by decide) ?_
          refine lv_ldc2 hx hb hown (hts (.constantLong RX9 208 (2)) (by decide +kernel)) dX9_brake_24 ?_
          refine vp_callSi (W.runS (As := [.long v20, .long 0, .long 2]) (rest := []) ⟨hx, hb, hml, hown, hts⟩ (c9_in l v20 0 2) (va_cwS 3 hts gX9_brake_X9_in rfl rfl rfl (by decide +kernel) ⟨Nat.le_of_ble_eq_true rfl, Nat.le_of_ble_eq_true rfl⟩) (preS_of okT (trivial)) rfl rfl hl.1 rfl (lv_room (Nat.le_of_ble_eq_true rfl)) dX9_brake_27 ⟨Nat.le_of_ble_eq_true rfl, Nat.le_of_ble_eq_true rfl⟩) (fun r21 hr21 => ?_)
          have hzr21 : r21 = 1 := by rw [hr21, ev20, inq_i (y := 0) (z := 2) (by decide) (by decide)]; exact if_pos (hso)
          subst hzr21
          refine lv_if_eq (tgt := 46) hx hb dX9_brake_30 (by decide) (fun c22 => absurd c22 (by decide)) (fun c22 => ?_)
          refine lv_iload_n hx hb dX9_brake_33 rfl (lv_at hl 2 rfl) ?_
          refine lv_iconst (v := 2) hx hb dX9_brake_34 (by decide) ?_
          refine lv_icmp_ge (tgt := 50) hx hb dX9_brake_35 (by decide) (fun c23 => absurd c23 (fun q => by have hq := hs2; rw [fa_le] at q; rw [fa_eq] at hq; have h2 : (2 : Int32).toInt = 2 := (by decide); omega)) (fun c23 => ?_)
          refine lv_iconst (v := 3) hx hb dX9_brake_38 (by decide) ?_
          refine lv_lload_n hx hb dX9_brake_39 rfl (lv_at hl 3 rfl) ?_
          refine vp_callSi (W.runS (As := [.int 3, .long (lN n)]) (rest := []) ⟨hx, hb, hml, hown, hts⟩ (c9_isNumber l 3 n hn) (va_cwS 2 hts gX9_brake_X9_isNumber rfl rfl rfl (by decide +kernel) ⟨Nat.le_of_ble_eq_true rfl, Nat.le_of_ble_eq_true rfl⟩) (preS_of okT (trivial)) rfl rfl hl.1 rfl (lv_room (Nat.le_of_ble_eq_true rfl)) dX9_brake_40 ⟨Nat.le_of_ble_eq_true rfl, Nat.le_of_ble_eq_true rfl⟩) (fun r24 hr24 => ?_)
          rw [if_pos hnum] at hr24
          subst hr24
          have hv9 := numB3g hn hnum
          refine lv_if_ne (tgt := 50) hx hb dX9_brake_43 (by decide) (fun c25 => ?_) (fun c25 => absurd c25 (by decide))
          refine lv_aload_n hx hb dX9_brake_50 rfl (lv_at hl 0 rfl) ?_
          refine pg_get (ci := 8) (C := RX9) (T := TX9) (N := 20) hx hb hts hinX9 hown hK hP hmo hFo_16 rfl 15 (by decide) (hts (.fieldLink RX9 52 "RopeDrumsModel" "brakeSort" "[I") (by decide +kernel)) (fun _ h9 => h9) rfl dX9_brake_51 ?_
          refine lv_iload_n hx hb dX9_brake_54 rfl (lv_at hl 1 rfl) ?_
          refine lv_iload_n hx hb dX9_brake_55 rfl (lv_at hl 2 rfl) ?_
          refine pg_iast hx hb hK hP hD hS 1 hm13 hFqm13_16 rfl (vp_in_nI (by omega) (by decide)) dX9_brake_56 (fun H locs F26 eF26 hP hS => ?_)
          rw [nI_clamp (by omega)] at eF26
          have hFo_26 : F26 o = .inr (8, [.int 0, .ref (qm 0), .ref (qm 1), .ref (qm 2), .ref (qm 3), .ref (qm 4), .ref (qm 5), .ref (qm 6), .ref (qm 7), .int Pp.1, .ref (qm 8), .ref (qm 9), .ref (qm 10), .ref (qm 11), .ref (qm 12), .ref (qm 13), .ref (qm 14), .int Xx.1, .ref (qm 15), .long oc]) := by rw [eF26, va_up_ne _ _ (pl_ne hFo_16 hFqm13_16 rfl)]; exact hFo_16
          have hFqm0_26 : F26 (qm 0) = cI (cy 1) 10 Mm.1 := by rw [eF26, va_up_ne _ _ (pl_ne hFqm0_16 hFqm13_16 rfl)]; exact hFqm0_16
          have hFqm1_26 : F26 (qm 1) = cJ (cy 2) 10 Mm.2 := by rw [eF26, va_up_ne _ _ (pl_ne hFqm1_16 hFqm13_16 rfl)]; exact hFqm1_16
          have hFqm2_26 : F26 (qm 2) = cD (cy 0) 6 Dd.1 := by rw [eF26, va_up_ne _ _ (pl_ne hFqm2_16 hFqm13_16 rfl)]; exact hFqm2_16
          have hFqm3_26 : F26 (qm 3) = cD (cy 0) 6 Dd.2.1 := by rw [eF26, va_up_ne _ _ (pl_ne hFqm3_16 hFqm13_16 rfl)]; exact hFqm3_16
          have hFqm4_26 : F26 (qm 4) = cD (cy 0) 6 Dd.2.2.1 := by rw [eF26, va_up_ne _ _ (pl_ne hFqm4_16 hFqm13_16 rfl)]; exact hFqm4_16
          have hFqm5_26 : F26 (qm 5) = cJ (cy 2) 6 Dd.2.2.2 := by rw [eF26, va_up_ne _ _ (pl_ne hFqm5_16 hFqm13_16 rfl)]; exact hFqm5_16
          have hFqm6_26 : F26 (qm 6) = cI (cy 1) 8 Sl.1 := by rw [eF26, va_up_ne _ _ (pl_ne hFqm6_16 hFqm13_16 rfl)]; exact hFqm6_16
          have hFqm7_26 : F26 (qm 7) = cJ (cy 2) 128 Sl.2 := by rw [eF26, va_up_ne _ _ (pl_ne hFqm7_16 hFqm13_16 rfl)]; exact hFqm7_16
          have hFqm8_26 : F26 (qm 8) = cI (cy 1) 30 Pp.2.1 := by rw [eF26, va_up_ne _ _ (pl_ne hFqm8_16 hFqm13_16 rfl)]; exact hFqm8_16
          have hFqm9_26 : F26 (qm 9) = cI (cy 3) 30 Pp.2.2 := by rw [eF26, va_up_ne _ _ (pl_ne hFqm9_16 hFqm13_16 rfl)]; exact hFqm9_16
          have hFqm10_26 : F26 (qm 10) = cI (cy 1) 5 Kr.1 := by rw [eF26, va_up_ne _ _ (pl_ne hFqm10_16 hFqm13_16 rfl)]; exact hFqm10_16
          have hFqm11_26 : F26 (qm 11) = cI (cy 3) 5 Kr.2.1 := by rw [eF26, va_up_ne _ _ (pl_ne hFqm11_16 hFqm13_16 rfl)]; exact hFqm11_16
          have hFqm12_26 : F26 (qm 12) = cI (cy 1) 60 Kr.2.2 := by rw [eF26, va_up_ne _ _ (pl_ne hFqm12_16 hFqm13_16 rfl)]; exact hFqm12_16
          have hFqm13_26 : F26 (qm 13) = cI (cy 1) 4 (upd Bk.1 j_br so) := by rw [eF26]; exact va_up_self _ _ _
          have hFqm14_26 : F26 (qm 14) = cD (cy 0) 4 Bk.2 := by rw [eF26, va_up_ne _ _ (pl_ne hFqm14_16 hFqm13_16 rfl)]; exact hFqm14_16
          have hFqm15_26 : F26 (qm 15) = cI (cy 1) 6 Xx.2 := by rw [eF26, va_up_ne _ _ (pl_ne hFqm15_16 hFqm13_16 rfl)]; exact hFqm15_16
          refine lv_aload_n hx hb dX9_brake_57 rfl (lv_at hl 0 rfl) ?_
          refine pg_get (ci := 8) (C := RX9) (T := TX9) (N := 20) hx hb hts hinX9 hown hK hP hmo hFo_26 rfl 16 (by decide) (hts (.fieldLink RX9 55 "RopeDrumsModel" "grip" "[D") (by decide +kernel)) (fun _ h9 => h9) rfl dX9_brake_58 ?_
          refine lv_iload_n hx hb dX9_brake_61 rfl (lv_at hl 1 rfl) ?_
          refine lv_iload_n hx hb dX9_brake_62 rfl (lv_at hl 2 rfl) ?_
          refine lv_iconst (v := 2) hx hb dX9_brake_63 (by decide) ?_
          refine lv_icmp_ge (tgt := 74) hx hb dX9_brake_64 (by decide) (fun c27 => absurd c27 (fun q => by have hq := hs2; rw [fa_le] at q; rw [fa_eq] at hq; have h2 : (2 : Int32).toInt = 2 := (by decide); omega)) (fun c27 => ?_)
          refine lv_lload_n hx hb dX9_brake_67 rfl (lv_at hl 3 rfl) ?_
          refine vp_callSd (W.runS (As := [.long (lN n)]) (rest := [.int (nI j_br), .ref (qm 14)]) ⟨hx, hb, hml, hown, hts⟩ (c9_doubleOf l (lN n) (by exact hv9)) (va_cwS 1 hts gX9_brake_X9_doubleOf rfl rfl rfl (by decide +kernel) ⟨Nat.le_of_ble_eq_true rfl, Nat.le_of_ble_eq_true rfl⟩) (preS_of okT (trivial)) rfl rfl hl.1 rfl (lv_room (Nat.le_of_ble_eq_true rfl)) dX9_brake_68 ⟨Nat.le_of_ble_eq_true rfl, Nat.le_of_ble_eq_true rfl⟩) (fun r28 hr28 => ?_)
          refine lv_goto (tgt := 75) hx hb dX9_brake_71 (by decide) ?_
          refine pg_dast hx hb hK hP hD hS 0 hm14 hFqm14_26 rfl (vp_in_nI (by omega) (by decide)) dX9_brake_75 (fun H locs F29 eF29 hP hS => ?_)
          rw [nI_clamp (by omega)] at eF29
          have hFo_29 : F29 o = .inr (8, [.int 0, .ref (qm 0), .ref (qm 1), .ref (qm 2), .ref (qm 3), .ref (qm 4), .ref (qm 5), .ref (qm 6), .ref (qm 7), .int Pp.1, .ref (qm 8), .ref (qm 9), .ref (qm 10), .ref (qm 11), .ref (qm 12), .ref (qm 13), .ref (qm 14), .int Xx.1, .ref (qm 15), .long oc]) := by rw [eF29, va_up_ne _ _ (pl_ne hFo_26 hFqm14_26 rfl)]; exact hFo_26
          have hFqm0_29 : F29 (qm 0) = cI (cy 1) 10 Mm.1 := by rw [eF29, va_up_ne _ _ (pl_ne hFqm0_26 hFqm14_26 rfl)]; exact hFqm0_26
          have hFqm1_29 : F29 (qm 1) = cJ (cy 2) 10 Mm.2 := by rw [eF29, va_up_ne _ _ (pl_ne hFqm1_26 hFqm14_26 rfl)]; exact hFqm1_26
          have hFqm2_29 : F29 (qm 2) = cD (cy 0) 6 Dd.1 := by rw [eF29, va_up_ne _ _ (pl_ne hFqm2_26 hFqm14_26 rfl)]; exact hFqm2_26
          have hFqm3_29 : F29 (qm 3) = cD (cy 0) 6 Dd.2.1 := by rw [eF29, va_up_ne _ _ (pl_ne hFqm3_26 hFqm14_26 rfl)]; exact hFqm3_26
          have hFqm4_29 : F29 (qm 4) = cD (cy 0) 6 Dd.2.2.1 := by rw [eF29, va_up_ne _ _ (pl_ne hFqm4_26 hFqm14_26 rfl)]; exact hFqm4_26
          have hFqm5_29 : F29 (qm 5) = cJ (cy 2) 6 Dd.2.2.2 := by rw [eF29, va_up_ne _ _ (pl_ne hFqm5_26 hFqm14_26 rfl)]; exact hFqm5_26
          have hFqm6_29 : F29 (qm 6) = cI (cy 1) 8 Sl.1 := by rw [eF29, va_up_ne _ _ (pl_ne hFqm6_26 hFqm14_26 rfl)]; exact hFqm6_26
          have hFqm7_29 : F29 (qm 7) = cJ (cy 2) 128 Sl.2 := by rw [eF29, va_up_ne _ _ (pl_ne hFqm7_26 hFqm14_26 rfl)]; exact hFqm7_26
          have hFqm8_29 : F29 (qm 8) = cI (cy 1) 30 Pp.2.1 := by rw [eF29, va_up_ne _ _ (pl_ne hFqm8_26 hFqm14_26 rfl)]; exact hFqm8_26
          have hFqm9_29 : F29 (qm 9) = cI (cy 3) 30 Pp.2.2 := by rw [eF29, va_up_ne _ _ (pl_ne hFqm9_26 hFqm14_26 rfl)]; exact hFqm9_26
          have hFqm10_29 : F29 (qm 10) = cI (cy 1) 5 Kr.1 := by rw [eF29, va_up_ne _ _ (pl_ne hFqm10_26 hFqm14_26 rfl)]; exact hFqm10_26
          have hFqm11_29 : F29 (qm 11) = cI (cy 3) 5 Kr.2.1 := by rw [eF29, va_up_ne _ _ (pl_ne hFqm11_26 hFqm14_26 rfl)]; exact hFqm11_26
          have hFqm12_29 : F29 (qm 12) = cI (cy 1) 60 Kr.2.2 := by rw [eF29, va_up_ne _ _ (pl_ne hFqm12_26 hFqm14_26 rfl)]; exact hFqm12_26
          have hFqm13_29 : F29 (qm 13) = cI (cy 1) 4 (upd Bk.1 j_br so) := by rw [eF29, va_up_ne _ _ (pl_ne hFqm13_26 hFqm14_26 rfl)]; exact hFqm13_26
          have hFqm14_29 : F29 (qm 14) = cD (cy 0) 4 (vf_upd Bk.2 j_br r28) := by rw [eF29]; exact va_up_self _ _ _
          have hFqm15_29 : F29 (qm 15) = cI (cy 1) 6 Xx.2 := by rw [eF29, va_up_ne _ _ (pl_ne hFqm15_26 hFqm14_26 rfl)]; exact hFqm15_26
          refine lv_iconst (v := 1) hx hb dX9_brake_76 (by decide) ?_
          exact W.iret (v := 1) hx hb hr (fun t ht hW => ⟨⟨1, F29, rfl, (by subst hr28 ev20 ev17; have hsp : sp_brake Bk (nI j_br) so (lN n) = (1, upd Bk.1 j_br so, vf_upd Bk.2 j_br (db (lN n))) := (by unfold sp_brake; rw [hi_br]; exact (if_pos hso).trans ((if_neg hs2).trans (if_pos hnum))); rw [hsp]; exact ⟨rfl, (by exact ⟨⟨_, _, hmo, hFo_29⟩, ⟨hm0, hFqm0_29⟩, ⟨hm1, hFqm1_29⟩, ⟨hm2, hFqm2_29⟩, ⟨hm3, hFqm3_29⟩, ⟨hm4, hFqm4_29⟩, ⟨hm5, hFqm5_29⟩, ⟨hm6, hFqm6_29⟩, ⟨hm7, hFqm7_29⟩, ⟨hm8, hFqm8_29⟩, ⟨hm9, hFqm9_29⟩, ⟨hm10, hFqm10_29⟩, ⟨hm11, hFqm11_29⟩, ⟨hm12, hFqm12_29⟩, ⟨hm13, hFqm13_29⟩, ⟨hm14, hFqm14_29⟩, ⟨hm15, hFqm15_29⟩, hne⟩)⟩), (by show va_P _ _ _ t.heap; rw [ht]; exact hP)⟩, hS.F ht⟩) hS.2.2 dX9_brake_77
        · refine lv_aload_n hx hb dX9_brake_0 rfl (lv_at hl 0 rfl) ?_
          refine lv_iconst (v := 0) hx hb dX9_brake_1 (by decide) ?_
          refine pg_put (ci := 8) (v := .int 0) (ty := .int) (C := RX9) (T := TX9) (N := 20) hx hb hts hinX9 tyX9 tyX9_ok nmX9 hown hK hP hD hS hmo hFo rfl 0 (by decide) (hts (.fieldLink RX9 61 "RopeDrumsModel" "thrown" "I") (by decide +kernel)) (fun _ h9 => h9) rfl (by decide +kernel) (rfl) (rfl) (Nat.le_of_ble_eq_true rfl) dX9_brake_2 (fun H locs F30 eF30 hP hS => ?_)
          have eF30 : F30 = va_up F o (.inr (8, [.int 0, .ref (qm 0), .ref (qm 1), .ref (qm 2), .ref (qm 3), .ref (qm 4), .ref (qm 5), .ref (qm 6), .ref (qm 7), .int Pp.1, .ref (qm 8), .ref (qm 9), .ref (qm 10), .ref (qm 11), .ref (qm 12), .ref (qm 13), .ref (qm 14), .int Xx.1, .ref (qm 15), .long oc])) := eF30
          have hFo_30 : F30 o = .inr (8, [.int 0, .ref (qm 0), .ref (qm 1), .ref (qm 2), .ref (qm 3), .ref (qm 4), .ref (qm 5), .ref (qm 6), .ref (qm 7), .int Pp.1, .ref (qm 8), .ref (qm 9), .ref (qm 10), .ref (qm 11), .ref (qm 12), .ref (qm 13), .ref (qm 14), .int Xx.1, .ref (qm 15), .long oc]) := by rw [eF30]; exact va_up_self _ _ _
          have hFqm0_30 : F30 (qm 0) = cI (cy 1) 10 Mm.1 := by rw [eF30, va_up_ne _ _ (pl_ne hF0 hFo rfl)]; exact hF0
          have hFqm1_30 : F30 (qm 1) = cJ (cy 2) 10 Mm.2 := by rw [eF30, va_up_ne _ _ (pl_ne hF1 hFo rfl)]; exact hF1
          have hFqm2_30 : F30 (qm 2) = cD (cy 0) 6 Dd.1 := by rw [eF30, va_up_ne _ _ (pl_ne hF2 hFo rfl)]; exact hF2
          have hFqm3_30 : F30 (qm 3) = cD (cy 0) 6 Dd.2.1 := by rw [eF30, va_up_ne _ _ (pl_ne hF3 hFo rfl)]; exact hF3
          have hFqm4_30 : F30 (qm 4) = cD (cy 0) 6 Dd.2.2.1 := by rw [eF30, va_up_ne _ _ (pl_ne hF4 hFo rfl)]; exact hF4
          have hFqm5_30 : F30 (qm 5) = cJ (cy 2) 6 Dd.2.2.2 := by rw [eF30, va_up_ne _ _ (pl_ne hF5 hFo rfl)]; exact hF5
          have hFqm6_30 : F30 (qm 6) = cI (cy 1) 8 Sl.1 := by rw [eF30, va_up_ne _ _ (pl_ne hF6 hFo rfl)]; exact hF6
          have hFqm7_30 : F30 (qm 7) = cJ (cy 2) 128 Sl.2 := by rw [eF30, va_up_ne _ _ (pl_ne hF7 hFo rfl)]; exact hF7
          have hFqm8_30 : F30 (qm 8) = cI (cy 1) 30 Pp.2.1 := by rw [eF30, va_up_ne _ _ (pl_ne hF8 hFo rfl)]; exact hF8
          have hFqm9_30 : F30 (qm 9) = cI (cy 3) 30 Pp.2.2 := by rw [eF30, va_up_ne _ _ (pl_ne hF9 hFo rfl)]; exact hF9
          have hFqm10_30 : F30 (qm 10) = cI (cy 1) 5 Kr.1 := by rw [eF30, va_up_ne _ _ (pl_ne hF10 hFo rfl)]; exact hF10
          have hFqm11_30 : F30 (qm 11) = cI (cy 3) 5 Kr.2.1 := by rw [eF30, va_up_ne _ _ (pl_ne hF11 hFo rfl)]; exact hF11
          have hFqm12_30 : F30 (qm 12) = cI (cy 1) 60 Kr.2.2 := by rw [eF30, va_up_ne _ _ (pl_ne hF12 hFo rfl)]; exact hF12
          have hFqm13_30 : F30 (qm 13) = cI (cy 1) 4 Bk.1 := by rw [eF30, va_up_ne _ _ (pl_ne hF13 hFo rfl)]; exact hF13
          have hFqm14_30 : F30 (qm 14) = cD (cy 0) 4 Bk.2 := by rw [eF30, va_up_ne _ _ (pl_ne hF14 hFo rfl)]; exact hF14
          have hFqm15_30 : F30 (qm 15) = cI (cy 1) 6 Xx.2 := by rw [eF30, va_up_ne _ _ (pl_ne hF15 hFo rfl)]; exact hF15
          refine lv_iload_n hx hb dX9_brake_5 rfl (lv_at hl 1 rfl) ?_
          refine lv_i2l hx hb dX9_brake_6 rfl ?_
          refine lv_topl (fun v31 ev31 => ?_)
          refine lv_lconst (v := 0) hx hb dX9_brake_7 (by decide) ?_
          refine lv_ldc2 hx hb hown (hts (.constantLong RX9 123 (3)) (by decide +kernel)) dX9_brake_8 ?_
          refine vp_callSi (W.runS (As := [.long v31, .long 0, .long 3]) (rest := []) ⟨hx, hb, hml, hown, hts⟩ (c9_in l v31 0 3) (va_cwS 3 hts gX9_brake_X9_in rfl rfl rfl (by decide +kernel) ⟨Nat.le_of_ble_eq_true rfl, Nat.le_of_ble_eq_true rfl⟩) (preS_of okT (trivial)) rfl rfl hl.1 rfl (lv_room (Nat.le_of_ble_eq_true rfl)) dX9_brake_11 ⟨Nat.le_of_ble_eq_true rfl, Nat.le_of_ble_eq_true rfl⟩) (fun r32 hr32 => ?_)
          have hzr32 : r32 = 1 := by rw [hr32, ev31, inq_i (y := 0) (z := 3) (by decide) (by decide)]; exact if_pos (by rw [nI_toInt (by omega)]; omega)
          subst hzr32
          refine lv_if_ne (tgt := 21) hx hb dX9_brake_14 (by decide) (fun c33 => ?_) (fun c33 => absurd c33 (by decide))
          refine lv_iload_n hx hb dX9_brake_21 rfl (lv_at hl 2 rfl) ?_
          refine lv_i2l hx hb dX9_brake_22 rfl ?_
          refine lv_topl (fun v34 ev34 => ?_)
          refine lv_lconst (v := 0) hx hb dX9_brake_23 (by decide) ?_
          refine lv_ldc2 hx hb hown (hts (.constantLong RX9 208 (2)) (by decide +kernel)) dX9_brake_24 ?_
          refine vp_callSi (W.runS (As := [.long v34, .long 0, .long 2]) (rest := []) ⟨hx, hb, hml, hown, hts⟩ (c9_in l v34 0 2) (va_cwS 3 hts gX9_brake_X9_in rfl rfl rfl (by decide +kernel) ⟨Nat.le_of_ble_eq_true rfl, Nat.le_of_ble_eq_true rfl⟩) (preS_of okT (trivial)) rfl rfl hl.1 rfl (lv_room (Nat.le_of_ble_eq_true rfl)) dX9_brake_27 ⟨Nat.le_of_ble_eq_true rfl, Nat.le_of_ble_eq_true rfl⟩) (fun r35 hr35 => ?_)
          have hzr35 : r35 = 1 := by rw [hr35, ev34, inq_i (y := 0) (z := 2) (by decide) (by decide)]; exact if_pos (hso)
          subst hzr35
          refine lv_if_eq (tgt := 46) hx hb dX9_brake_30 (by decide) (fun c36 => absurd c36 (by decide)) (fun c36 => ?_)
          refine lv_iload_n hx hb dX9_brake_33 rfl (lv_at hl 2 rfl) ?_
          refine lv_iconst (v := 2) hx hb dX9_brake_34 (by decide) ?_
          refine lv_icmp_ge (tgt := 50) hx hb dX9_brake_35 (by decide) (fun c37 => absurd c37 (fun q => by have hq := hs2; rw [fa_le] at q; rw [fa_eq] at hq; have h2 : (2 : Int32).toInt = 2 := (by decide); omega)) (fun c37 => ?_)
          refine lv_iconst (v := 3) hx hb dX9_brake_38 (by decide) ?_
          refine lv_lload_n hx hb dX9_brake_39 rfl (lv_at hl 3 rfl) ?_
          refine vp_callSi (W.runS (As := [.int 3, .long (lN n)]) (rest := []) ⟨hx, hb, hml, hown, hts⟩ (c9_isNumber l 3 n hn) (va_cwS 2 hts gX9_brake_X9_isNumber rfl rfl rfl (by decide +kernel) ⟨Nat.le_of_ble_eq_true rfl, Nat.le_of_ble_eq_true rfl⟩) (preS_of okT (trivial)) rfl rfl hl.1 rfl (lv_room (Nat.le_of_ble_eq_true rfl)) dX9_brake_40 ⟨Nat.le_of_ble_eq_true rfl, Nat.le_of_ble_eq_true rfl⟩) (fun r38 hr38 => ?_)
          rw [if_neg hnum] at hr38
          subst hr38
          refine lv_if_ne (tgt := 50) hx hb dX9_brake_43 (by decide) (fun c39 => absurd (by decide) c39) (fun c39 => ?_)
          refine lv_sipush (v := -1002) hx hb dX9_brake_46 (by decide) ?_
          exact W.iret (v := -1002) hx hb hr (fun t ht hW => ⟨⟨-1002, F30, rfl, (by subst ev34 ev31; have hsp : sp_brake Bk (nI j_br) so (lN n) = (-1002, Bk) := (by unfold sp_brake; rw [hi_br]; exact (if_pos hso).trans ((if_neg hs2).trans (if_neg hnum))); rw [hsp]; exact ⟨rfl, (by exact ⟨⟨_, _, hmo, hFo_30⟩, ⟨hm0, hFqm0_30⟩, ⟨hm1, hFqm1_30⟩, ⟨hm2, hFqm2_30⟩, ⟨hm3, hFqm3_30⟩, ⟨hm4, hFqm4_30⟩, ⟨hm5, hFqm5_30⟩, ⟨hm6, hFqm6_30⟩, ⟨hm7, hFqm7_30⟩, ⟨hm8, hFqm8_30⟩, ⟨hm9, hFqm9_30⟩, ⟨hm10, hFqm10_30⟩, ⟨hm11, hFqm11_30⟩, ⟨hm12, hFqm12_30⟩, ⟨hm13, hFqm13_30⟩, ⟨hm14, hFqm14_30⟩, ⟨hm15, hFqm15_30⟩, hne⟩)⟩), (by show va_P _ _ _ t.heap; rw [ht]; exact hP)⟩, hS.F ht⟩) hS.2.2 dX9_brake_49
    · refine lv_aload_n hx hb dX9_brake_0 rfl (lv_at hl 0 rfl) ?_
      refine lv_iconst (v := 0) hx hb dX9_brake_1 (by decide) ?_
      refine pg_put (ci := 8) (v := .int 0) (ty := .int) (C := RX9) (T := TX9) (N := 20) hx hb hts hinX9 tyX9 tyX9_ok nmX9 hown hK hP hD hS hmo hFo rfl 0 (by decide) (hts (.fieldLink RX9 61 "RopeDrumsModel" "thrown" "I") (by decide +kernel)) (fun _ h9 => h9) rfl (by decide +kernel) (rfl) (rfl) (Nat.le_of_ble_eq_true rfl) dX9_brake_2 (fun H locs F40 eF40 hP hS => ?_)
      have eF40 : F40 = va_up F o (.inr (8, [.int 0, .ref (qm 0), .ref (qm 1), .ref (qm 2), .ref (qm 3), .ref (qm 4), .ref (qm 5), .ref (qm 6), .ref (qm 7), .int Pp.1, .ref (qm 8), .ref (qm 9), .ref (qm 10), .ref (qm 11), .ref (qm 12), .ref (qm 13), .ref (qm 14), .int Xx.1, .ref (qm 15), .long oc])) := eF40
      have hFo_40 : F40 o = .inr (8, [.int 0, .ref (qm 0), .ref (qm 1), .ref (qm 2), .ref (qm 3), .ref (qm 4), .ref (qm 5), .ref (qm 6), .ref (qm 7), .int Pp.1, .ref (qm 8), .ref (qm 9), .ref (qm 10), .ref (qm 11), .ref (qm 12), .ref (qm 13), .ref (qm 14), .int Xx.1, .ref (qm 15), .long oc]) := by rw [eF40]; exact va_up_self _ _ _
      have hFqm0_40 : F40 (qm 0) = cI (cy 1) 10 Mm.1 := by rw [eF40, va_up_ne _ _ (pl_ne hF0 hFo rfl)]; exact hF0
      have hFqm1_40 : F40 (qm 1) = cJ (cy 2) 10 Mm.2 := by rw [eF40, va_up_ne _ _ (pl_ne hF1 hFo rfl)]; exact hF1
      have hFqm2_40 : F40 (qm 2) = cD (cy 0) 6 Dd.1 := by rw [eF40, va_up_ne _ _ (pl_ne hF2 hFo rfl)]; exact hF2
      have hFqm3_40 : F40 (qm 3) = cD (cy 0) 6 Dd.2.1 := by rw [eF40, va_up_ne _ _ (pl_ne hF3 hFo rfl)]; exact hF3
      have hFqm4_40 : F40 (qm 4) = cD (cy 0) 6 Dd.2.2.1 := by rw [eF40, va_up_ne _ _ (pl_ne hF4 hFo rfl)]; exact hF4
      have hFqm5_40 : F40 (qm 5) = cJ (cy 2) 6 Dd.2.2.2 := by rw [eF40, va_up_ne _ _ (pl_ne hF5 hFo rfl)]; exact hF5
      have hFqm6_40 : F40 (qm 6) = cI (cy 1) 8 Sl.1 := by rw [eF40, va_up_ne _ _ (pl_ne hF6 hFo rfl)]; exact hF6
      have hFqm7_40 : F40 (qm 7) = cJ (cy 2) 128 Sl.2 := by rw [eF40, va_up_ne _ _ (pl_ne hF7 hFo rfl)]; exact hF7
      have hFqm8_40 : F40 (qm 8) = cI (cy 1) 30 Pp.2.1 := by rw [eF40, va_up_ne _ _ (pl_ne hF8 hFo rfl)]; exact hF8
      have hFqm9_40 : F40 (qm 9) = cI (cy 3) 30 Pp.2.2 := by rw [eF40, va_up_ne _ _ (pl_ne hF9 hFo rfl)]; exact hF9
      have hFqm10_40 : F40 (qm 10) = cI (cy 1) 5 Kr.1 := by rw [eF40, va_up_ne _ _ (pl_ne hF10 hFo rfl)]; exact hF10
      have hFqm11_40 : F40 (qm 11) = cI (cy 3) 5 Kr.2.1 := by rw [eF40, va_up_ne _ _ (pl_ne hF11 hFo rfl)]; exact hF11
      have hFqm12_40 : F40 (qm 12) = cI (cy 1) 60 Kr.2.2 := by rw [eF40, va_up_ne _ _ (pl_ne hF12 hFo rfl)]; exact hF12
      have hFqm13_40 : F40 (qm 13) = cI (cy 1) 4 Bk.1 := by rw [eF40, va_up_ne _ _ (pl_ne hF13 hFo rfl)]; exact hF13
      have hFqm14_40 : F40 (qm 14) = cD (cy 0) 4 Bk.2 := by rw [eF40, va_up_ne _ _ (pl_ne hF14 hFo rfl)]; exact hF14
      have hFqm15_40 : F40 (qm 15) = cI (cy 1) 6 Xx.2 := by rw [eF40, va_up_ne _ _ (pl_ne hF15 hFo rfl)]; exact hF15
      refine lv_iload_n hx hb dX9_brake_5 rfl (lv_at hl 1 rfl) ?_
      refine lv_i2l hx hb dX9_brake_6 rfl ?_
      refine lv_topl (fun v41 ev41 => ?_)
      refine lv_lconst (v := 0) hx hb dX9_brake_7 (by decide) ?_
      refine lv_ldc2 hx hb hown (hts (.constantLong RX9 123 (3)) (by decide +kernel)) dX9_brake_8 ?_
      refine vp_callSi (W.runS (As := [.long v41, .long 0, .long 3]) (rest := []) ⟨hx, hb, hml, hown, hts⟩ (c9_in l v41 0 3) (va_cwS 3 hts gX9_brake_X9_in rfl rfl rfl (by decide +kernel) ⟨Nat.le_of_ble_eq_true rfl, Nat.le_of_ble_eq_true rfl⟩) (preS_of okT (trivial)) rfl rfl hl.1 rfl (lv_room (Nat.le_of_ble_eq_true rfl)) dX9_brake_11 ⟨Nat.le_of_ble_eq_true rfl, Nat.le_of_ble_eq_true rfl⟩) (fun r42 hr42 => ?_)
      have hzr42 : r42 = 1 := by rw [hr42, ev41, inq_i (y := 0) (z := 3) (by decide) (by decide)]; exact if_pos (by rw [nI_toInt (by omega)]; omega)
      subst hzr42
      refine lv_if_ne (tgt := 21) hx hb dX9_brake_14 (by decide) (fun c43 => ?_) (fun c43 => absurd c43 (by decide))
      refine lv_iload_n hx hb dX9_brake_21 rfl (lv_at hl 2 rfl) ?_
      refine lv_i2l hx hb dX9_brake_22 rfl ?_
      refine lv_topl (fun v44 ev44 => ?_)
      refine lv_lconst (v := 0) hx hb dX9_brake_23 (by decide) ?_
      refine lv_ldc2 hx hb hown (hts (.constantLong RX9 208 (2)) (by decide +kernel)) dX9_brake_24 ?_
      refine vp_callSi (W.runS (As := [.long v44, .long 0, .long 2]) (rest := []) ⟨hx, hb, hml, hown, hts⟩ (c9_in l v44 0 2) (va_cwS 3 hts gX9_brake_X9_in rfl rfl rfl (by decide +kernel) ⟨Nat.le_of_ble_eq_true rfl, Nat.le_of_ble_eq_true rfl⟩) (preS_of okT (trivial)) rfl rfl hl.1 rfl (lv_room (Nat.le_of_ble_eq_true rfl)) dX9_brake_27 ⟨Nat.le_of_ble_eq_true rfl, Nat.le_of_ble_eq_true rfl⟩) (fun r45 hr45 => ?_)
      have hzr45 : r45 = 0 := by rw [hr45, ev44, inq_i (y := 0) (z := 2) (by decide) (by decide)]; exact if_neg (hso)
      subst hzr45
      refine lv_if_eq (tgt := 46) hx hb dX9_brake_30 (by decide) (fun c46 => ?_) (fun c46 => absurd (by decide) c46)
      refine lv_sipush (v := -1002) hx hb dX9_brake_46 (by decide) ?_
      exact W.iret (v := -1002) hx hb hr (fun t ht hW => ⟨⟨-1002, F40, rfl, (by subst ev44 ev41; have hsp : sp_brake Bk (nI j_br) so (lN n) = (-1002, Bk) := (by unfold sp_brake; rw [hi_br]; exact if_neg hso); rw [hsp]; exact ⟨rfl, (by exact ⟨⟨_, _, hmo, hFo_40⟩, ⟨hm0, hFqm0_40⟩, ⟨hm1, hFqm1_40⟩, ⟨hm2, hFqm2_40⟩, ⟨hm3, hFqm3_40⟩, ⟨hm4, hFqm4_40⟩, ⟨hm5, hFqm5_40⟩, ⟨hm6, hFqm6_40⟩, ⟨hm7, hFqm7_40⟩, ⟨hm8, hFqm8_40⟩, ⟨hm9, hFqm9_40⟩, ⟨hm10, hFqm10_40⟩, ⟨hm11, hFqm11_40⟩, ⟨hm12, hFqm12_40⟩, ⟨hm13, hFqm13_40⟩, ⟨hm14, hFqm14_40⟩, ⟨hm15, hFqm15_40⟩, hne⟩)⟩), (by show va_P _ _ _ t.heap; rw [ht]; exact hP)⟩, hS.F ht⟩) hS.2.2 dX9_brake_49

set_option maxHeartbeats 8000000 in
set_option maxRecDepth 100000 in
theorem n_slow (l : Launch) (G : va_G) (cy : Nat → ClassId) (L : List Nat) (F : Nat → va_E) (sz : Nat) (o : Nat) (qm : Nat → Nat) (Mm : SM) (Dd : SD) (Sl : SL) (Pp : SP) (Kr : SR) (Bk : SB) (Xx : SX) (hR : RepM cy L o qm Mm Dd Sl Pp Kr Bk Xx F) (hV : Val Mm Dd Sl Pp Kr Bk) (br me : Int32)  : Met l yX9_slow wsX9_slow ({ frames := 4, cells := 0, slots := 0, locals := 91 }) (va_Pc [.ref o, .int br, .int me] (fun U => bQ G cy L F sz U U.heap)) (va_Qi (fun (r : Int32) (F' : Nat → va_E) => r = (sp_slow Mm Bk Xx br me).1 ∧ RepM cy L o qm (sp_slow Mm Bk Xx br me).2.1 Dd Sl Pp Kr Bk (sp_slow Mm Bk Xx br me).2.2 F') (fun F' t => va_P G vwCl (va_pl L F') t.heap) (va_A (va_pl L F) sz)) 0 0 (va_A (va_pl L F) sz) := by
  refine Met.ofW (cc := cX9_slow) (maxL := 3) (ret := (some .int)) (by decide) rfl ?_
  intro p e s m args below meth c s₁ B hml hv
  obtain ⟨rfl, hsz, hP, hK, hD0⟩ := hv
  have hx := B.exec
  have hb := B.bytes
  have hr := B.returns
  have hts := atoms_spec (ws := wsX9_slow) B.pre
  have hown : s.vm.findClass RX9 = some m.cls := findClass_of_methodNamed B.named
  have hlocks := B.notSynchronized
  have hinX9 : ∀ w ∈ wsX90, w ∈ wsX9_slow := by decide +kernel
  subst hsz
  have hD := hD0.self F s.heap.size
  generalize hAe : va_A (va_pl L F) s.heap.size = A at hD ⊢
  have hA : ∀ q : Nat, s.heap.size ≤ q → A q := fun q h => by rw [← hAe]; exact Or.inr h
  have hS : va_S A s.heap s.heap [] := va_S.rf
  obtain ⟨⟨th, oc, hmo, hFo⟩, ⟨hm0, hF0⟩, ⟨hm1, hF1⟩, ⟨hm2, hF2⟩, ⟨hm3, hF3⟩, ⟨hm4, hF4⟩, ⟨hm5, hF5⟩, ⟨hm6, hF6⟩, ⟨hm7, hF7⟩, ⟨hm8, hF8⟩, ⟨hm9, hF9⟩, ⟨hm10, hF10⟩, ⟨hm11, hF11⟩, ⟨hm12, hF12⟩, ⟨hm13, hF13⟩, ⟨hm14, hF14⟩, ⟨hm15, hF15⟩, hne⟩ := id hR
  obtain ⟨hVM, hVD, hVS, hVP, hVK, hVB⟩ := hV
  have hl := lv_entry ([.ref o, .int br, .int me]) (n := 3) (Nat.le_of_ble_eq_true rfl)
  rw [lg_entry_eq]
  generalize (lg_sl ([.ref o, .int br, .int me]) ++ List.replicate (3 - (lg_sl ([.ref o, .int br, .int me])).length) Slot.unset).toArray = ls at hl ⊢
  have hl : lv_has ls 3 [(0, .ref o), (1, .int br), (2, .int me)] := hl
  rcases ixc 4 br with hi_br | ⟨j_br, hj_br, hi_br, ei_br⟩
  · rcases ixc 10 me with hi_me | ⟨j_me, hj_me, hi_me, ei_me⟩
    · refine lv_aload_n hx hb dX9_slow_0 rfl (lv_at hl 0 rfl) ?_
      refine lv_iconst (v := 0) hx hb dX9_slow_1 (by decide) ?_
      refine pg_put (ci := 8) (v := .int 0) (ty := .int) (C := RX9) (T := TX9) (N := 20) hx hb hts hinX9 tyX9 tyX9_ok nmX9 hown hK hP hD hS hmo hFo rfl 0 (by decide) (hts (.fieldLink RX9 61 "RopeDrumsModel" "thrown" "I") (by decide +kernel)) (fun _ h9 => h9) rfl (by decide +kernel) (rfl) (rfl) (Nat.le_of_ble_eq_true rfl) dX9_slow_2 (fun H locs F1 eF1 hP hS => ?_)
      have eF1 : F1 = va_up F o (.inr (8, [.int 0, .ref (qm 0), .ref (qm 1), .ref (qm 2), .ref (qm 3), .ref (qm 4), .ref (qm 5), .ref (qm 6), .ref (qm 7), .int Pp.1, .ref (qm 8), .ref (qm 9), .ref (qm 10), .ref (qm 11), .ref (qm 12), .ref (qm 13), .ref (qm 14), .int Xx.1, .ref (qm 15), .long oc])) := eF1
      have hFo_1 : F1 o = .inr (8, [.int 0, .ref (qm 0), .ref (qm 1), .ref (qm 2), .ref (qm 3), .ref (qm 4), .ref (qm 5), .ref (qm 6), .ref (qm 7), .int Pp.1, .ref (qm 8), .ref (qm 9), .ref (qm 10), .ref (qm 11), .ref (qm 12), .ref (qm 13), .ref (qm 14), .int Xx.1, .ref (qm 15), .long oc]) := by rw [eF1]; exact va_up_self _ _ _
      have hFqm0_1 : F1 (qm 0) = cI (cy 1) 10 Mm.1 := by rw [eF1, va_up_ne _ _ (pl_ne hF0 hFo rfl)]; exact hF0
      have hFqm1_1 : F1 (qm 1) = cJ (cy 2) 10 Mm.2 := by rw [eF1, va_up_ne _ _ (pl_ne hF1 hFo rfl)]; exact hF1
      have hFqm2_1 : F1 (qm 2) = cD (cy 0) 6 Dd.1 := by rw [eF1, va_up_ne _ _ (pl_ne hF2 hFo rfl)]; exact hF2
      have hFqm3_1 : F1 (qm 3) = cD (cy 0) 6 Dd.2.1 := by rw [eF1, va_up_ne _ _ (pl_ne hF3 hFo rfl)]; exact hF3
      have hFqm4_1 : F1 (qm 4) = cD (cy 0) 6 Dd.2.2.1 := by rw [eF1, va_up_ne _ _ (pl_ne hF4 hFo rfl)]; exact hF4
      have hFqm5_1 : F1 (qm 5) = cJ (cy 2) 6 Dd.2.2.2 := by rw [eF1, va_up_ne _ _ (pl_ne hF5 hFo rfl)]; exact hF5
      have hFqm6_1 : F1 (qm 6) = cI (cy 1) 8 Sl.1 := by rw [eF1, va_up_ne _ _ (pl_ne hF6 hFo rfl)]; exact hF6
      have hFqm7_1 : F1 (qm 7) = cJ (cy 2) 128 Sl.2 := by rw [eF1, va_up_ne _ _ (pl_ne hF7 hFo rfl)]; exact hF7
      have hFqm8_1 : F1 (qm 8) = cI (cy 1) 30 Pp.2.1 := by rw [eF1, va_up_ne _ _ (pl_ne hF8 hFo rfl)]; exact hF8
      have hFqm9_1 : F1 (qm 9) = cI (cy 3) 30 Pp.2.2 := by rw [eF1, va_up_ne _ _ (pl_ne hF9 hFo rfl)]; exact hF9
      have hFqm10_1 : F1 (qm 10) = cI (cy 1) 5 Kr.1 := by rw [eF1, va_up_ne _ _ (pl_ne hF10 hFo rfl)]; exact hF10
      have hFqm11_1 : F1 (qm 11) = cI (cy 3) 5 Kr.2.1 := by rw [eF1, va_up_ne _ _ (pl_ne hF11 hFo rfl)]; exact hF11
      have hFqm12_1 : F1 (qm 12) = cI (cy 1) 60 Kr.2.2 := by rw [eF1, va_up_ne _ _ (pl_ne hF12 hFo rfl)]; exact hF12
      have hFqm13_1 : F1 (qm 13) = cI (cy 1) 4 Bk.1 := by rw [eF1, va_up_ne _ _ (pl_ne hF13 hFo rfl)]; exact hF13
      have hFqm14_1 : F1 (qm 14) = cD (cy 0) 4 Bk.2 := by rw [eF1, va_up_ne _ _ (pl_ne hF14 hFo rfl)]; exact hF14
      have hFqm15_1 : F1 (qm 15) = cI (cy 1) 6 Xx.2 := by rw [eF1, va_up_ne _ _ (pl_ne hF15 hFo rfl)]; exact hF15
      refine lv_iload_n hx hb dX9_slow_5 rfl (lv_at hl 1 rfl) ?_
      refine lv_i2l hx hb dX9_slow_6 rfl ?_
      refine lv_topl (fun v2 ev2 => ?_)
      refine lv_lconst (v := 0) hx hb dX9_slow_7 (by decide) ?_
      refine lv_ldc2 hx hb hown (hts (.constantLong RX9 123 (3)) (by decide +kernel)) dX9_slow_8 ?_
      refine vp_callSi (W.runS (As := [.long v2, .long 0, .long 3]) (rest := []) ⟨hx, hb, hml, hown, hts⟩ (c9_in l v2 0 3) (va_cwS 3 hts gX9_slow_X9_in rfl rfl rfl (by decide +kernel) ⟨Nat.le_of_ble_eq_true rfl, Nat.le_of_ble_eq_true rfl⟩) (preS_of okT (trivial)) rfl rfl hl.1 rfl (lv_room (Nat.le_of_ble_eq_true rfl)) dX9_slow_11 ⟨Nat.le_of_ble_eq_true rfl, Nat.le_of_ble_eq_true rfl⟩) (fun r3 hr3 => ?_)
      have hzr3 : r3 = 0 := by rw [hr3, ev2, inq_i (y := 0) (z := 3) (by decide) (by decide)]; exact if_neg ((by have hq := ixn hi_br; omega))
      subst hzr3
      refine lv_if_eq (tgt := 24) hx hb dX9_slow_14 (by decide) (fun c4 => ?_) (fun c4 => absurd (by decide) c4)
      refine lv_sipush (v := -1001) hx hb dX9_slow_24 (by decide) ?_
      exact W.iret (v := -1001) hx hb hr (fun t ht hW => ⟨⟨-1001, F1, rfl, (by subst ev2; have hsp : sp_slow Mm Bk Xx br me = (-1001, Mm, Xx) := (by unfold sp_slow; rw [hi_br]); rw [hsp]; exact ⟨rfl, (by exact ⟨⟨_, _, hmo, hFo_1⟩, ⟨hm0, hFqm0_1⟩, ⟨hm1, hFqm1_1⟩, ⟨hm2, hFqm2_1⟩, ⟨hm3, hFqm3_1⟩, ⟨hm4, hFqm4_1⟩, ⟨hm5, hFqm5_1⟩, ⟨hm6, hFqm6_1⟩, ⟨hm7, hFqm7_1⟩, ⟨hm8, hFqm8_1⟩, ⟨hm9, hFqm9_1⟩, ⟨hm10, hFqm10_1⟩, ⟨hm11, hFqm11_1⟩, ⟨hm12, hFqm12_1⟩, ⟨hm13, hFqm13_1⟩, ⟨hm14, hFqm14_1⟩, ⟨hm15, hFqm15_1⟩, hne⟩)⟩), (by show va_P _ _ _ t.heap; rw [ht]; exact hP)⟩, hS.F ht⟩) hS.2.2 dX9_slow_27
    · subst ei_me
      refine lv_aload_n hx hb dX9_slow_0 rfl (lv_at hl 0 rfl) ?_
      refine lv_iconst (v := 0) hx hb dX9_slow_1 (by decide) ?_
      refine pg_put (ci := 8) (v := .int 0) (ty := .int) (C := RX9) (T := TX9) (N := 20) hx hb hts hinX9 tyX9 tyX9_ok nmX9 hown hK hP hD hS hmo hFo rfl 0 (by decide) (hts (.fieldLink RX9 61 "RopeDrumsModel" "thrown" "I") (by decide +kernel)) (fun _ h9 => h9) rfl (by decide +kernel) (rfl) (rfl) (Nat.le_of_ble_eq_true rfl) dX9_slow_2 (fun H locs F5 eF5 hP hS => ?_)
      have eF5 : F5 = va_up F o (.inr (8, [.int 0, .ref (qm 0), .ref (qm 1), .ref (qm 2), .ref (qm 3), .ref (qm 4), .ref (qm 5), .ref (qm 6), .ref (qm 7), .int Pp.1, .ref (qm 8), .ref (qm 9), .ref (qm 10), .ref (qm 11), .ref (qm 12), .ref (qm 13), .ref (qm 14), .int Xx.1, .ref (qm 15), .long oc])) := eF5
      have hFo_5 : F5 o = .inr (8, [.int 0, .ref (qm 0), .ref (qm 1), .ref (qm 2), .ref (qm 3), .ref (qm 4), .ref (qm 5), .ref (qm 6), .ref (qm 7), .int Pp.1, .ref (qm 8), .ref (qm 9), .ref (qm 10), .ref (qm 11), .ref (qm 12), .ref (qm 13), .ref (qm 14), .int Xx.1, .ref (qm 15), .long oc]) := by rw [eF5]; exact va_up_self _ _ _
      have hFqm0_5 : F5 (qm 0) = cI (cy 1) 10 Mm.1 := by rw [eF5, va_up_ne _ _ (pl_ne hF0 hFo rfl)]; exact hF0
      have hFqm1_5 : F5 (qm 1) = cJ (cy 2) 10 Mm.2 := by rw [eF5, va_up_ne _ _ (pl_ne hF1 hFo rfl)]; exact hF1
      have hFqm2_5 : F5 (qm 2) = cD (cy 0) 6 Dd.1 := by rw [eF5, va_up_ne _ _ (pl_ne hF2 hFo rfl)]; exact hF2
      have hFqm3_5 : F5 (qm 3) = cD (cy 0) 6 Dd.2.1 := by rw [eF5, va_up_ne _ _ (pl_ne hF3 hFo rfl)]; exact hF3
      have hFqm4_5 : F5 (qm 4) = cD (cy 0) 6 Dd.2.2.1 := by rw [eF5, va_up_ne _ _ (pl_ne hF4 hFo rfl)]; exact hF4
      have hFqm5_5 : F5 (qm 5) = cJ (cy 2) 6 Dd.2.2.2 := by rw [eF5, va_up_ne _ _ (pl_ne hF5 hFo rfl)]; exact hF5
      have hFqm6_5 : F5 (qm 6) = cI (cy 1) 8 Sl.1 := by rw [eF5, va_up_ne _ _ (pl_ne hF6 hFo rfl)]; exact hF6
      have hFqm7_5 : F5 (qm 7) = cJ (cy 2) 128 Sl.2 := by rw [eF5, va_up_ne _ _ (pl_ne hF7 hFo rfl)]; exact hF7
      have hFqm8_5 : F5 (qm 8) = cI (cy 1) 30 Pp.2.1 := by rw [eF5, va_up_ne _ _ (pl_ne hF8 hFo rfl)]; exact hF8
      have hFqm9_5 : F5 (qm 9) = cI (cy 3) 30 Pp.2.2 := by rw [eF5, va_up_ne _ _ (pl_ne hF9 hFo rfl)]; exact hF9
      have hFqm10_5 : F5 (qm 10) = cI (cy 1) 5 Kr.1 := by rw [eF5, va_up_ne _ _ (pl_ne hF10 hFo rfl)]; exact hF10
      have hFqm11_5 : F5 (qm 11) = cI (cy 3) 5 Kr.2.1 := by rw [eF5, va_up_ne _ _ (pl_ne hF11 hFo rfl)]; exact hF11
      have hFqm12_5 : F5 (qm 12) = cI (cy 1) 60 Kr.2.2 := by rw [eF5, va_up_ne _ _ (pl_ne hF12 hFo rfl)]; exact hF12
      have hFqm13_5 : F5 (qm 13) = cI (cy 1) 4 Bk.1 := by rw [eF5, va_up_ne _ _ (pl_ne hF13 hFo rfl)]; exact hF13
      have hFqm14_5 : F5 (qm 14) = cD (cy 0) 4 Bk.2 := by rw [eF5, va_up_ne _ _ (pl_ne hF14 hFo rfl)]; exact hF14
      have hFqm15_5 : F5 (qm 15) = cI (cy 1) 6 Xx.2 := by rw [eF5, va_up_ne _ _ (pl_ne hF15 hFo rfl)]; exact hF15
      refine lv_iload_n hx hb dX9_slow_5 rfl (lv_at hl 1 rfl) ?_
      refine lv_i2l hx hb dX9_slow_6 rfl ?_
      refine lv_topl (fun v6 ev6 => ?_)
      refine lv_lconst (v := 0) hx hb dX9_slow_7 (by decide) ?_
      refine lv_ldc2 hx hb hown (hts (.constantLong RX9 123 (3)) (by decide +kernel)) dX9_slow_8 ?_
      refine vp_callSi (W.runS (As := [.long v6, .long 0, .long 3]) (rest := []) ⟨hx, hb, hml, hown, hts⟩ (c9_in l v6 0 3) (va_cwS 3 hts gX9_slow_X9_in rfl rfl rfl (by decide +kernel) ⟨Nat.le_of_ble_eq_true rfl, Nat.le_of_ble_eq_true rfl⟩) (preS_of okT (trivial)) rfl rfl hl.1 rfl (lv_room (Nat.le_of_ble_eq_true rfl)) dX9_slow_11 ⟨Nat.le_of_ble_eq_true rfl, Nat.le_of_ble_eq_true rfl⟩) (fun r7 hr7 => ?_)
      have hzr7 : r7 = 0 := by rw [hr7, ev6, inq_i (y := 0) (z := 3) (by decide) (by decide)]; exact if_neg ((by have hq := ixn hi_br; omega))
      subst hzr7
      refine lv_if_eq (tgt := 24) hx hb dX9_slow_14 (by decide) (fun c8 => ?_) (fun c8 => absurd (by decide) c8)
      refine lv_sipush (v := -1001) hx hb dX9_slow_24 (by decide) ?_
      exact W.iret (v := -1001) hx hb hr (fun t ht hW => ⟨⟨-1001, F5, rfl, (by subst ev6; have hsp : sp_slow Mm Bk Xx br (nI j_me) = (-1001, Mm, Xx) := (by unfold sp_slow; rw [hi_br]); rw [hsp]; exact ⟨rfl, (by exact ⟨⟨_, _, hmo, hFo_5⟩, ⟨hm0, hFqm0_5⟩, ⟨hm1, hFqm1_5⟩, ⟨hm2, hFqm2_5⟩, ⟨hm3, hFqm3_5⟩, ⟨hm4, hFqm4_5⟩, ⟨hm5, hFqm5_5⟩, ⟨hm6, hFqm6_5⟩, ⟨hm7, hFqm7_5⟩, ⟨hm8, hFqm8_5⟩, ⟨hm9, hFqm9_5⟩, ⟨hm10, hFqm10_5⟩, ⟨hm11, hFqm11_5⟩, ⟨hm12, hFqm12_5⟩, ⟨hm13, hFqm13_5⟩, ⟨hm14, hFqm14_5⟩, ⟨hm15, hFqm15_5⟩, hne⟩)⟩), (by show va_P _ _ _ t.heap; rw [ht]; exact hP)⟩, hS.F ht⟩) hS.2.2 dX9_slow_27
  · subst ei_br
    rcases ixc 10 me with hi_me | ⟨j_me, hj_me, hi_me, ei_me⟩
    · refine lv_aload_n hx hb dX9_slow_0 rfl (lv_at hl 0 rfl) ?_
      refine lv_iconst (v := 0) hx hb dX9_slow_1 (by decide) ?_
      refine pg_put (ci := 8) (v := .int 0) (ty := .int) (C := RX9) (T := TX9) (N := 20) hx hb hts hinX9 tyX9 tyX9_ok nmX9 hown hK hP hD hS hmo hFo rfl 0 (by decide) (hts (.fieldLink RX9 61 "RopeDrumsModel" "thrown" "I") (by decide +kernel)) (fun _ h9 => h9) rfl (by decide +kernel) (rfl) (rfl) (Nat.le_of_ble_eq_true rfl) dX9_slow_2 (fun H locs F9 eF9 hP hS => ?_)
      have eF9 : F9 = va_up F o (.inr (8, [.int 0, .ref (qm 0), .ref (qm 1), .ref (qm 2), .ref (qm 3), .ref (qm 4), .ref (qm 5), .ref (qm 6), .ref (qm 7), .int Pp.1, .ref (qm 8), .ref (qm 9), .ref (qm 10), .ref (qm 11), .ref (qm 12), .ref (qm 13), .ref (qm 14), .int Xx.1, .ref (qm 15), .long oc])) := eF9
      have hFo_9 : F9 o = .inr (8, [.int 0, .ref (qm 0), .ref (qm 1), .ref (qm 2), .ref (qm 3), .ref (qm 4), .ref (qm 5), .ref (qm 6), .ref (qm 7), .int Pp.1, .ref (qm 8), .ref (qm 9), .ref (qm 10), .ref (qm 11), .ref (qm 12), .ref (qm 13), .ref (qm 14), .int Xx.1, .ref (qm 15), .long oc]) := by rw [eF9]; exact va_up_self _ _ _
      have hFqm0_9 : F9 (qm 0) = cI (cy 1) 10 Mm.1 := by rw [eF9, va_up_ne _ _ (pl_ne hF0 hFo rfl)]; exact hF0
      have hFqm1_9 : F9 (qm 1) = cJ (cy 2) 10 Mm.2 := by rw [eF9, va_up_ne _ _ (pl_ne hF1 hFo rfl)]; exact hF1
      have hFqm2_9 : F9 (qm 2) = cD (cy 0) 6 Dd.1 := by rw [eF9, va_up_ne _ _ (pl_ne hF2 hFo rfl)]; exact hF2
      have hFqm3_9 : F9 (qm 3) = cD (cy 0) 6 Dd.2.1 := by rw [eF9, va_up_ne _ _ (pl_ne hF3 hFo rfl)]; exact hF3
      have hFqm4_9 : F9 (qm 4) = cD (cy 0) 6 Dd.2.2.1 := by rw [eF9, va_up_ne _ _ (pl_ne hF4 hFo rfl)]; exact hF4
      have hFqm5_9 : F9 (qm 5) = cJ (cy 2) 6 Dd.2.2.2 := by rw [eF9, va_up_ne _ _ (pl_ne hF5 hFo rfl)]; exact hF5
      have hFqm6_9 : F9 (qm 6) = cI (cy 1) 8 Sl.1 := by rw [eF9, va_up_ne _ _ (pl_ne hF6 hFo rfl)]; exact hF6
      have hFqm7_9 : F9 (qm 7) = cJ (cy 2) 128 Sl.2 := by rw [eF9, va_up_ne _ _ (pl_ne hF7 hFo rfl)]; exact hF7
      have hFqm8_9 : F9 (qm 8) = cI (cy 1) 30 Pp.2.1 := by rw [eF9, va_up_ne _ _ (pl_ne hF8 hFo rfl)]; exact hF8
      have hFqm9_9 : F9 (qm 9) = cI (cy 3) 30 Pp.2.2 := by rw [eF9, va_up_ne _ _ (pl_ne hF9 hFo rfl)]; exact hF9
      have hFqm10_9 : F9 (qm 10) = cI (cy 1) 5 Kr.1 := by rw [eF9, va_up_ne _ _ (pl_ne hF10 hFo rfl)]; exact hF10
      have hFqm11_9 : F9 (qm 11) = cI (cy 3) 5 Kr.2.1 := by rw [eF9, va_up_ne _ _ (pl_ne hF11 hFo rfl)]; exact hF11
      have hFqm12_9 : F9 (qm 12) = cI (cy 1) 60 Kr.2.2 := by rw [eF9, va_up_ne _ _ (pl_ne hF12 hFo rfl)]; exact hF12
      have hFqm13_9 : F9 (qm 13) = cI (cy 1) 4 Bk.1 := by rw [eF9, va_up_ne _ _ (pl_ne hF13 hFo rfl)]; exact hF13
      have hFqm14_9 : F9 (qm 14) = cD (cy 0) 4 Bk.2 := by rw [eF9, va_up_ne _ _ (pl_ne hF14 hFo rfl)]; exact hF14
      have hFqm15_9 : F9 (qm 15) = cI (cy 1) 6 Xx.2 := by rw [eF9, va_up_ne _ _ (pl_ne hF15 hFo rfl)]; exact hF15
      refine lv_iload_n hx hb dX9_slow_5 rfl (lv_at hl 1 rfl) ?_
      refine lv_i2l hx hb dX9_slow_6 rfl ?_
      refine lv_topl (fun v10 ev10 => ?_)
      refine lv_lconst (v := 0) hx hb dX9_slow_7 (by decide) ?_
      refine lv_ldc2 hx hb hown (hts (.constantLong RX9 123 (3)) (by decide +kernel)) dX9_slow_8 ?_
      refine vp_callSi (W.runS (As := [.long v10, .long 0, .long 3]) (rest := []) ⟨hx, hb, hml, hown, hts⟩ (c9_in l v10 0 3) (va_cwS 3 hts gX9_slow_X9_in rfl rfl rfl (by decide +kernel) ⟨Nat.le_of_ble_eq_true rfl, Nat.le_of_ble_eq_true rfl⟩) (preS_of okT (trivial)) rfl rfl hl.1 rfl (lv_room (Nat.le_of_ble_eq_true rfl)) dX9_slow_11 ⟨Nat.le_of_ble_eq_true rfl, Nat.le_of_ble_eq_true rfl⟩) (fun r11 hr11 => ?_)
      have hzr11 : r11 = 1 := by rw [hr11, ev10, inq_i (y := 0) (z := 3) (by decide) (by decide)]; exact if_pos (by rw [nI_toInt (by omega)]; omega)
      subst hzr11
      refine lv_if_eq (tgt := 24) hx hb dX9_slow_14 (by decide) (fun c12 => absurd c12 (by decide)) (fun c12 => ?_)
      refine lv_iload_n hx hb dX9_slow_17 rfl (lv_at hl 2 rfl) ?_
      refine vp_callSi (W.runS (As := [.int me]) (rest := []) ⟨hx, hb, hml, hown, hts⟩ (c9_isMeter l me) (va_cwS 1 hts gX9_slow_X9_isMeter rfl rfl rfl (by decide +kernel) ⟨Nat.le_of_ble_eq_true rfl, Nat.le_of_ble_eq_true rfl⟩) (preS_of okT (trivial)) rfl rfl hl.1 rfl (lv_room (Nat.le_of_ble_eq_true rfl)) dX9_slow_18 ⟨Nat.le_of_ble_eq_true rfl, Nat.le_of_ble_eq_true rfl⟩) (fun r13 hr13 => ?_)
      rw [isx0 hi_me] at hr13
      subst hr13
      refine lv_if_ne (tgt := 28) hx hb dX9_slow_21 (by decide) (fun c14 => absurd (by decide) c14) (fun c14 => ?_)
      refine lv_sipush (v := -1001) hx hb dX9_slow_24 (by decide) ?_
      exact W.iret (v := -1001) hx hb hr (fun t ht hW => ⟨⟨-1001, F9, rfl, (by subst ev10; have hsp : sp_slow Mm Bk Xx (nI j_br) me = (-1001, Mm, Xx) := (by unfold sp_slow; rw [hi_br, hi_me]); rw [hsp]; exact ⟨rfl, (by exact ⟨⟨_, _, hmo, hFo_9⟩, ⟨hm0, hFqm0_9⟩, ⟨hm1, hFqm1_9⟩, ⟨hm2, hFqm2_9⟩, ⟨hm3, hFqm3_9⟩, ⟨hm4, hFqm4_9⟩, ⟨hm5, hFqm5_9⟩, ⟨hm6, hFqm6_9⟩, ⟨hm7, hFqm7_9⟩, ⟨hm8, hFqm8_9⟩, ⟨hm9, hFqm9_9⟩, ⟨hm10, hFqm10_9⟩, ⟨hm11, hFqm11_9⟩, ⟨hm12, hFqm12_9⟩, ⟨hm13, hFqm13_9⟩, ⟨hm14, hFqm14_9⟩, ⟨hm15, hFqm15_9⟩, hne⟩)⟩), (by show va_P _ _ _ t.heap; rw [ht]; exact hP)⟩, hS.F ht⟩) hS.2.2 dX9_slow_27
    · subst ei_me
      rcases hVB j_br hj_br with hbs | ⟨hbs | hbs, hgn⟩
      · skip
        refine lv_aload_n hx hb dX9_slow_0 rfl (lv_at hl 0 rfl) ?_
        refine lv_iconst (v := 0) hx hb dX9_slow_1 (by decide) ?_
        refine pg_put (ci := 8) (v := .int 0) (ty := .int) (C := RX9) (T := TX9) (N := 20) hx hb hts hinX9 tyX9 tyX9_ok nmX9 hown hK hP hD hS hmo hFo rfl 0 (by decide) (hts (.fieldLink RX9 61 "RopeDrumsModel" "thrown" "I") (by decide +kernel)) (fun _ h9 => h9) rfl (by decide +kernel) (rfl) (rfl) (Nat.le_of_ble_eq_true rfl) dX9_slow_2 (fun H locs F15 eF15 hP hS => ?_)
        have eF15 : F15 = va_up F o (.inr (8, [.int 0, .ref (qm 0), .ref (qm 1), .ref (qm 2), .ref (qm 3), .ref (qm 4), .ref (qm 5), .ref (qm 6), .ref (qm 7), .int Pp.1, .ref (qm 8), .ref (qm 9), .ref (qm 10), .ref (qm 11), .ref (qm 12), .ref (qm 13), .ref (qm 14), .int Xx.1, .ref (qm 15), .long oc])) := eF15
        have hFo_15 : F15 o = .inr (8, [.int 0, .ref (qm 0), .ref (qm 1), .ref (qm 2), .ref (qm 3), .ref (qm 4), .ref (qm 5), .ref (qm 6), .ref (qm 7), .int Pp.1, .ref (qm 8), .ref (qm 9), .ref (qm 10), .ref (qm 11), .ref (qm 12), .ref (qm 13), .ref (qm 14), .int Xx.1, .ref (qm 15), .long oc]) := by rw [eF15]; exact va_up_self _ _ _
        have hFqm0_15 : F15 (qm 0) = cI (cy 1) 10 Mm.1 := by rw [eF15, va_up_ne _ _ (pl_ne hF0 hFo rfl)]; exact hF0
        have hFqm1_15 : F15 (qm 1) = cJ (cy 2) 10 Mm.2 := by rw [eF15, va_up_ne _ _ (pl_ne hF1 hFo rfl)]; exact hF1
        have hFqm2_15 : F15 (qm 2) = cD (cy 0) 6 Dd.1 := by rw [eF15, va_up_ne _ _ (pl_ne hF2 hFo rfl)]; exact hF2
        have hFqm3_15 : F15 (qm 3) = cD (cy 0) 6 Dd.2.1 := by rw [eF15, va_up_ne _ _ (pl_ne hF3 hFo rfl)]; exact hF3
        have hFqm4_15 : F15 (qm 4) = cD (cy 0) 6 Dd.2.2.1 := by rw [eF15, va_up_ne _ _ (pl_ne hF4 hFo rfl)]; exact hF4
        have hFqm5_15 : F15 (qm 5) = cJ (cy 2) 6 Dd.2.2.2 := by rw [eF15, va_up_ne _ _ (pl_ne hF5 hFo rfl)]; exact hF5
        have hFqm6_15 : F15 (qm 6) = cI (cy 1) 8 Sl.1 := by rw [eF15, va_up_ne _ _ (pl_ne hF6 hFo rfl)]; exact hF6
        have hFqm7_15 : F15 (qm 7) = cJ (cy 2) 128 Sl.2 := by rw [eF15, va_up_ne _ _ (pl_ne hF7 hFo rfl)]; exact hF7
        have hFqm8_15 : F15 (qm 8) = cI (cy 1) 30 Pp.2.1 := by rw [eF15, va_up_ne _ _ (pl_ne hF8 hFo rfl)]; exact hF8
        have hFqm9_15 : F15 (qm 9) = cI (cy 3) 30 Pp.2.2 := by rw [eF15, va_up_ne _ _ (pl_ne hF9 hFo rfl)]; exact hF9
        have hFqm10_15 : F15 (qm 10) = cI (cy 1) 5 Kr.1 := by rw [eF15, va_up_ne _ _ (pl_ne hF10 hFo rfl)]; exact hF10
        have hFqm11_15 : F15 (qm 11) = cI (cy 3) 5 Kr.2.1 := by rw [eF15, va_up_ne _ _ (pl_ne hF11 hFo rfl)]; exact hF11
        have hFqm12_15 : F15 (qm 12) = cI (cy 1) 60 Kr.2.2 := by rw [eF15, va_up_ne _ _ (pl_ne hF12 hFo rfl)]; exact hF12
        have hFqm13_15 : F15 (qm 13) = cI (cy 1) 4 Bk.1 := by rw [eF15, va_up_ne _ _ (pl_ne hF13 hFo rfl)]; exact hF13
        have hFqm14_15 : F15 (qm 14) = cD (cy 0) 4 Bk.2 := by rw [eF15, va_up_ne _ _ (pl_ne hF14 hFo rfl)]; exact hF14
        have hFqm15_15 : F15 (qm 15) = cI (cy 1) 6 Xx.2 := by rw [eF15, va_up_ne _ _ (pl_ne hF15 hFo rfl)]; exact hF15
        refine lv_iload_n hx hb dX9_slow_5 rfl (lv_at hl 1 rfl) ?_
        refine lv_i2l hx hb dX9_slow_6 rfl ?_
        refine lv_topl (fun v16 ev16 => ?_)
        refine lv_lconst (v := 0) hx hb dX9_slow_7 (by decide) ?_
        refine lv_ldc2 hx hb hown (hts (.constantLong RX9 123 (3)) (by decide +kernel)) dX9_slow_8 ?_
        refine vp_callSi (W.runS (As := [.long v16, .long 0, .long 3]) (rest := []) ⟨hx, hb, hml, hown, hts⟩ (c9_in l v16 0 3) (va_cwS 3 hts gX9_slow_X9_in rfl rfl rfl (by decide +kernel) ⟨Nat.le_of_ble_eq_true rfl, Nat.le_of_ble_eq_true rfl⟩) (preS_of okT (trivial)) rfl rfl hl.1 rfl (lv_room (Nat.le_of_ble_eq_true rfl)) dX9_slow_11 ⟨Nat.le_of_ble_eq_true rfl, Nat.le_of_ble_eq_true rfl⟩) (fun r17 hr17 => ?_)
        have hzr17 : r17 = 1 := by rw [hr17, ev16, inq_i (y := 0) (z := 3) (by decide) (by decide)]; exact if_pos (by rw [nI_toInt (by omega)]; omega)
        subst hzr17
        refine lv_if_eq (tgt := 24) hx hb dX9_slow_14 (by decide) (fun c18 => absurd c18 (by decide)) (fun c18 => ?_)
        refine lv_iload_n hx hb dX9_slow_17 rfl (lv_at hl 2 rfl) ?_
        refine vp_callSi (W.runS (As := [.int (nI j_me)]) (rest := []) ⟨hx, hb, hml, hown, hts⟩ (c9_isMeter l (nI j_me)) (va_cwS 1 hts gX9_slow_X9_isMeter rfl rfl rfl (by decide +kernel) ⟨Nat.le_of_ble_eq_true rfl, Nat.le_of_ble_eq_true rfl⟩) (preS_of okT (trivial)) rfl rfl hl.1 rfl (lv_room (Nat.le_of_ble_eq_true rfl)) dX9_slow_18 ⟨Nat.le_of_ble_eq_true rfl, Nat.le_of_ble_eq_true rfl⟩) (fun r19 hr19 => ?_)
        rw [isx1 hi_me] at hr19
        subst hr19
        refine lv_if_ne (tgt := 28) hx hb dX9_slow_21 (by decide) (fun c20 => ?_) (fun c20 => absurd c20 (by decide))
        refine lv_aload_n hx hb dX9_slow_28 rfl (lv_at hl 0 rfl) ?_
        refine lv_aload_n hx hb dX9_slow_29 rfl (lv_at hl 0 rfl) ?_
        refine pg_get (ci := 8) (C := RX9) (T := TX9) (N := 20) hx hb hts hinX9 hown hK hP hmo hFo_15 rfl 15 (by decide) (hts (.fieldLink RX9 52 "RopeDrumsModel" "brakeSort" "[I") (by decide +kernel)) (fun _ h9 => h9) rfl dX9_slow_30 ?_
        refine lv_iload_n hx hb dX9_slow_33 rfl (lv_at hl 1 rfl) ?_
        refine pg_iald hx hb hK hP 1 hm13 hFqm13_15 rfl (vp_in_nI (by omega) (by decide)) dX9_slow_34 ?_
        refine lv_topi (fun v21 ev21 => ?_)
        rw [nI_clamp (by omega)] at ev21
        rw [hbs] at ev21
        subst ev21
        refine lv_iconst (v := 2) hx hb dX9_slow_35 (by decide) ?_
        refine lv_icmp_ne (tgt := 43) hx hb dX9_slow_36 (by decide) (fun c22 => absurd (by decide) c22) (fun c22 => ?_)
        refine lv_iconst (v := 1) hx hb dX9_slow_39 (by decide) ?_
        refine lv_goto (tgt := 44) hx hb dX9_slow_40 (by decide) ?_
        refine pg_put (ci := 8) (v := .int 1) (ty := .int) (C := RX9) (T := TX9) (N := 20) hx hb hts hinX9 tyX9 tyX9_ok nmX9 hown hK hP hD hS hmo hFo_15 rfl 17 (by decide) (hts (.fieldLink RX9 65 "RopeDrumsModel" "failed" "I") (by decide +kernel)) (fun _ h9 => h9) rfl (by decide +kernel) (rfl) (rfl) (Nat.le_of_ble_eq_true rfl) dX9_slow_44 (fun H locs F23 eF23 hP hS => ?_)
        have eF23 : F23 = va_up F15 o (.inr (8, [.int 0, .ref (qm 0), .ref (qm 1), .ref (qm 2), .ref (qm 3), .ref (qm 4), .ref (qm 5), .ref (qm 6), .ref (qm 7), .int Pp.1, .ref (qm 8), .ref (qm 9), .ref (qm 10), .ref (qm 11), .ref (qm 12), .ref (qm 13), .ref (qm 14), .int 1, .ref (qm 15), .long oc])) := eF23
        have hFo_23 : F23 o = .inr (8, [.int 0, .ref (qm 0), .ref (qm 1), .ref (qm 2), .ref (qm 3), .ref (qm 4), .ref (qm 5), .ref (qm 6), .ref (qm 7), .int Pp.1, .ref (qm 8), .ref (qm 9), .ref (qm 10), .ref (qm 11), .ref (qm 12), .ref (qm 13), .ref (qm 14), .int 1, .ref (qm 15), .long oc]) := by rw [eF23]; exact va_up_self _ _ _
        have hFqm0_23 : F23 (qm 0) = cI (cy 1) 10 Mm.1 := by rw [eF23, va_up_ne _ _ (pl_ne hFqm0_15 hFo_15 rfl)]; exact hFqm0_15
        have hFqm1_23 : F23 (qm 1) = cJ (cy 2) 10 Mm.2 := by rw [eF23, va_up_ne _ _ (pl_ne hFqm1_15 hFo_15 rfl)]; exact hFqm1_15
        have hFqm2_23 : F23 (qm 2) = cD (cy 0) 6 Dd.1 := by rw [eF23, va_up_ne _ _ (pl_ne hFqm2_15 hFo_15 rfl)]; exact hFqm2_15
        have hFqm3_23 : F23 (qm 3) = cD (cy 0) 6 Dd.2.1 := by rw [eF23, va_up_ne _ _ (pl_ne hFqm3_15 hFo_15 rfl)]; exact hFqm3_15
        have hFqm4_23 : F23 (qm 4) = cD (cy 0) 6 Dd.2.2.1 := by rw [eF23, va_up_ne _ _ (pl_ne hFqm4_15 hFo_15 rfl)]; exact hFqm4_15
        have hFqm5_23 : F23 (qm 5) = cJ (cy 2) 6 Dd.2.2.2 := by rw [eF23, va_up_ne _ _ (pl_ne hFqm5_15 hFo_15 rfl)]; exact hFqm5_15
        have hFqm6_23 : F23 (qm 6) = cI (cy 1) 8 Sl.1 := by rw [eF23, va_up_ne _ _ (pl_ne hFqm6_15 hFo_15 rfl)]; exact hFqm6_15
        have hFqm7_23 : F23 (qm 7) = cJ (cy 2) 128 Sl.2 := by rw [eF23, va_up_ne _ _ (pl_ne hFqm7_15 hFo_15 rfl)]; exact hFqm7_15
        have hFqm8_23 : F23 (qm 8) = cI (cy 1) 30 Pp.2.1 := by rw [eF23, va_up_ne _ _ (pl_ne hFqm8_15 hFo_15 rfl)]; exact hFqm8_15
        have hFqm9_23 : F23 (qm 9) = cI (cy 3) 30 Pp.2.2 := by rw [eF23, va_up_ne _ _ (pl_ne hFqm9_15 hFo_15 rfl)]; exact hFqm9_15
        have hFqm10_23 : F23 (qm 10) = cI (cy 1) 5 Kr.1 := by rw [eF23, va_up_ne _ _ (pl_ne hFqm10_15 hFo_15 rfl)]; exact hFqm10_15
        have hFqm11_23 : F23 (qm 11) = cI (cy 3) 5 Kr.2.1 := by rw [eF23, va_up_ne _ _ (pl_ne hFqm11_15 hFo_15 rfl)]; exact hFqm11_15
        have hFqm12_23 : F23 (qm 12) = cI (cy 1) 60 Kr.2.2 := by rw [eF23, va_up_ne _ _ (pl_ne hFqm12_15 hFo_15 rfl)]; exact hFqm12_15
        have hFqm13_23 : F23 (qm 13) = cI (cy 1) 4 Bk.1 := by rw [eF23, va_up_ne _ _ (pl_ne hFqm13_15 hFo_15 rfl)]; exact hFqm13_15
        have hFqm14_23 : F23 (qm 14) = cD (cy 0) 4 Bk.2 := by rw [eF23, va_up_ne _ _ (pl_ne hFqm14_15 hFo_15 rfl)]; exact hFqm14_15
        have hFqm15_23 : F23 (qm 15) = cI (cy 1) 6 Xx.2 := by rw [eF23, va_up_ne _ _ (pl_ne hFqm15_15 hFo_15 rfl)]; exact hFqm15_15
        refine lv_aload_n hx hb dX9_slow_47 rfl (lv_at hl 0 rfl) ?_
        refine pg_get (ci := 8) (C := RX9) (T := TX9) (N := 20) hx hb hts hinX9 hown hK hP hmo hFo_23 rfl 17 (by decide) (hts (.fieldLink RX9 65 "RopeDrumsModel" "failed" "I") (by decide +kernel)) (fun _ h9 => h9) rfl dX9_slow_48 ?_
        refine lv_if_ne (tgt := 83) hx hb dX9_slow_51 (by decide) (fun c24 => ?_) (fun c24 => absurd c24 (by decide))
        refine lv_aload_n hx hb dX9_slow_83 rfl (lv_at hl 0 rfl) ?_
        refine pg_get (ci := 8) (C := RX9) (T := TX9) (N := 20) hx hb hts hinX9 hown hK hP hmo hFo_23 rfl 17 (by decide) (hts (.fieldLink RX9 65 "RopeDrumsModel" "failed" "I") (by decide +kernel)) (fun _ h9 => h9) rfl dX9_slow_84 ?_
        refine lv_if_ne (tgt := 133) hx hb dX9_slow_87 (by decide) (fun c25 => ?_) (fun c25 => absurd c25 (by decide))
        refine lv_aload_n hx hb dX9_slow_133 rfl (lv_at hl 0 rfl) ?_
        refine lv_iconst (v := 1) hx hb dX9_slow_134 (by decide) ?_
        refine va_calli (va_runV (As := [.int 1]) (rest := []) ⟨hx, hb, hml, hown, hts⟩ (c9_answers_1 l G cy L F23 H.size o qm 0 Pp.1 oc hmo hFo_23 Xx.2 hm15 hFqm15_23 1) (cwV 1 hts gX9_slow_X9_answers rfl rfl rfl (by decide +kernel) ⟨Nat.le_of_ble_eq_true rfl, Nat.le_of_ble_eq_true rfl⟩) (preV_of okQ (⟨rfl, hP, hK, hD.top⟩) (pl_recv hK hP (ci := 8) rfl hmo hFo_23)) rfl rfl hl.1 rfl (lv_room (Nat.le_of_ble_eq_true rfl)) dX9_slow_135 ⟨Nat.le_of_ble_eq_true rfl, Nat.le_of_ble_eq_true rfl⟩) hS (fun q _ h => pl_free hD hS hA q h) (pl_free hD hS hA) (fun r27 F26 t H1 locs ht hvm hw hP1 hz1 hk1 hS => ?_)
        have hP1 : va_P G vwCl (va_pl L F26) t.heap := hP1
        rw [ht] at hP1
        have hP := hP1
        generalize H1 = H at hP hS ⊢
        obtain ⟨hqr27, eF26⟩ := hw
        have eF26 : F26 = va_up F23 (qm 15) (cI (cy 1) 6 (upd Xx.2 1 (Xx.2 1 + 1))) := eF26
        have hFo_27 : F26 o = .inr (8, [.int 0, .ref (qm 0), .ref (qm 1), .ref (qm 2), .ref (qm 3), .ref (qm 4), .ref (qm 5), .ref (qm 6), .ref (qm 7), .int Pp.1, .ref (qm 8), .ref (qm 9), .ref (qm 10), .ref (qm 11), .ref (qm 12), .ref (qm 13), .ref (qm 14), .int 1, .ref (qm 15), .long oc]) := by rw [eF26, va_up_ne _ _ (pl_ne hFo_23 hFqm15_23 rfl)]; exact hFo_23
        have hFqm0_27 : F26 (qm 0) = cI (cy 1) 10 Mm.1 := by rw [eF26, va_up_ne _ _ (pl_ne hFqm0_23 hFqm15_23 rfl)]; exact hFqm0_23
        have hFqm1_27 : F26 (qm 1) = cJ (cy 2) 10 Mm.2 := by rw [eF26, va_up_ne _ _ (pl_ne hFqm1_23 hFqm15_23 rfl)]; exact hFqm1_23
        have hFqm2_27 : F26 (qm 2) = cD (cy 0) 6 Dd.1 := by rw [eF26, va_up_ne _ _ (pl_ne hFqm2_23 hFqm15_23 rfl)]; exact hFqm2_23
        have hFqm3_27 : F26 (qm 3) = cD (cy 0) 6 Dd.2.1 := by rw [eF26, va_up_ne _ _ (pl_ne hFqm3_23 hFqm15_23 rfl)]; exact hFqm3_23
        have hFqm4_27 : F26 (qm 4) = cD (cy 0) 6 Dd.2.2.1 := by rw [eF26, va_up_ne _ _ (pl_ne hFqm4_23 hFqm15_23 rfl)]; exact hFqm4_23
        have hFqm5_27 : F26 (qm 5) = cJ (cy 2) 6 Dd.2.2.2 := by rw [eF26, va_up_ne _ _ (pl_ne hFqm5_23 hFqm15_23 rfl)]; exact hFqm5_23
        have hFqm6_27 : F26 (qm 6) = cI (cy 1) 8 Sl.1 := by rw [eF26, va_up_ne _ _ (pl_ne hFqm6_23 hFqm15_23 rfl)]; exact hFqm6_23
        have hFqm7_27 : F26 (qm 7) = cJ (cy 2) 128 Sl.2 := by rw [eF26, va_up_ne _ _ (pl_ne hFqm7_23 hFqm15_23 rfl)]; exact hFqm7_23
        have hFqm8_27 : F26 (qm 8) = cI (cy 1) 30 Pp.2.1 := by rw [eF26, va_up_ne _ _ (pl_ne hFqm8_23 hFqm15_23 rfl)]; exact hFqm8_23
        have hFqm9_27 : F26 (qm 9) = cI (cy 3) 30 Pp.2.2 := by rw [eF26, va_up_ne _ _ (pl_ne hFqm9_23 hFqm15_23 rfl)]; exact hFqm9_23
        have hFqm10_27 : F26 (qm 10) = cI (cy 1) 5 Kr.1 := by rw [eF26, va_up_ne _ _ (pl_ne hFqm10_23 hFqm15_23 rfl)]; exact hFqm10_23
        have hFqm11_27 : F26 (qm 11) = cI (cy 3) 5 Kr.2.1 := by rw [eF26, va_up_ne _ _ (pl_ne hFqm11_23 hFqm15_23 rfl)]; exact hFqm11_23
        have hFqm12_27 : F26 (qm 12) = cI (cy 1) 60 Kr.2.2 := by rw [eF26, va_up_ne _ _ (pl_ne hFqm12_23 hFqm15_23 rfl)]; exact hFqm12_23
        have hFqm13_27 : F26 (qm 13) = cI (cy 1) 4 Bk.1 := by rw [eF26, va_up_ne _ _ (pl_ne hFqm13_23 hFqm15_23 rfl)]; exact hFqm13_23
        have hFqm14_27 : F26 (qm 14) = cD (cy 0) 4 Bk.2 := by rw [eF26, va_up_ne _ _ (pl_ne hFqm14_23 hFqm15_23 rfl)]; exact hFqm14_23
        have hFqm15_27 : F26 (qm 15) = cI (cy 1) 6 (upd Xx.2 1 (Xx.2 1 + 1)) := by rw [eF26]; exact va_up_self _ _ _
        have hr27 := hqr27
        exact W.iret (v := r27) hx hb hr (fun t ht hW => ⟨⟨r27, F26, rfl, (by subst hr27 ev16; have hsp : sp_slow Mm Bk Xx (nI j_br) (nI j_me) = (-10 - 1, Mm, failX Xx 1) := (by unfold sp_slow; rw [hi_br, hi_me]; show slw _ _ _ _ _ _ = _; unfold slw; rw [hbs]; exact (if_pos rfl).trans rfl); rw [hsp]; exact ⟨rfl, (by exact ⟨⟨_, _, hmo, hFo_27⟩, ⟨hm0, hFqm0_27⟩, ⟨hm1, hFqm1_27⟩, ⟨hm2, hFqm2_27⟩, ⟨hm3, hFqm3_27⟩, ⟨hm4, hFqm4_27⟩, ⟨hm5, hFqm5_27⟩, ⟨hm6, hFqm6_27⟩, ⟨hm7, hFqm7_27⟩, ⟨hm8, hFqm8_27⟩, ⟨hm9, hFqm9_27⟩, ⟨hm10, hFqm10_27⟩, ⟨hm11, hFqm11_27⟩, ⟨hm12, hFqm12_27⟩, ⟨hm13, hFqm13_27⟩, ⟨hm14, hFqm14_27⟩, ⟨hm15, hFqm15_27⟩, hne⟩)⟩), (by show va_P _ _ _ t.heap; rw [ht]; exact hP)⟩, hS.F ht⟩) hS.2.2 dX9_slow_138
      · by_cases hnan0 : FP.Core.dIsNaN (FP.drem (db (tn (Mm.1 j_me) (Mm.2 j_me) 3)) (Bk.2 j_br)) = true
        · have hnan : FP.Core.dIsNaN (FP.drem (db (tn (Mm.1 j_me) (Mm.2 j_me) 3)) (Bk.2 j_br)) = true := hnan0
          refine lv_aload_n hx hb dX9_slow_0 rfl (lv_at hl 0 rfl) ?_
          refine lv_iconst (v := 0) hx hb dX9_slow_1 (by decide) ?_
          refine pg_put (ci := 8) (v := .int 0) (ty := .int) (C := RX9) (T := TX9) (N := 20) hx hb hts hinX9 tyX9 tyX9_ok nmX9 hown hK hP hD hS hmo hFo rfl 0 (by decide) (hts (.fieldLink RX9 61 "RopeDrumsModel" "thrown" "I") (by decide +kernel)) (fun _ h9 => h9) rfl (by decide +kernel) (rfl) (rfl) (Nat.le_of_ble_eq_true rfl) dX9_slow_2 (fun H locs F28 eF28 hP hS => ?_)
          have eF28 : F28 = va_up F o (.inr (8, [.int 0, .ref (qm 0), .ref (qm 1), .ref (qm 2), .ref (qm 3), .ref (qm 4), .ref (qm 5), .ref (qm 6), .ref (qm 7), .int Pp.1, .ref (qm 8), .ref (qm 9), .ref (qm 10), .ref (qm 11), .ref (qm 12), .ref (qm 13), .ref (qm 14), .int Xx.1, .ref (qm 15), .long oc])) := eF28
          have hFo_28 : F28 o = .inr (8, [.int 0, .ref (qm 0), .ref (qm 1), .ref (qm 2), .ref (qm 3), .ref (qm 4), .ref (qm 5), .ref (qm 6), .ref (qm 7), .int Pp.1, .ref (qm 8), .ref (qm 9), .ref (qm 10), .ref (qm 11), .ref (qm 12), .ref (qm 13), .ref (qm 14), .int Xx.1, .ref (qm 15), .long oc]) := by rw [eF28]; exact va_up_self _ _ _
          have hFqm0_28 : F28 (qm 0) = cI (cy 1) 10 Mm.1 := by rw [eF28, va_up_ne _ _ (pl_ne hF0 hFo rfl)]; exact hF0
          have hFqm1_28 : F28 (qm 1) = cJ (cy 2) 10 Mm.2 := by rw [eF28, va_up_ne _ _ (pl_ne hF1 hFo rfl)]; exact hF1
          have hFqm2_28 : F28 (qm 2) = cD (cy 0) 6 Dd.1 := by rw [eF28, va_up_ne _ _ (pl_ne hF2 hFo rfl)]; exact hF2
          have hFqm3_28 : F28 (qm 3) = cD (cy 0) 6 Dd.2.1 := by rw [eF28, va_up_ne _ _ (pl_ne hF3 hFo rfl)]; exact hF3
          have hFqm4_28 : F28 (qm 4) = cD (cy 0) 6 Dd.2.2.1 := by rw [eF28, va_up_ne _ _ (pl_ne hF4 hFo rfl)]; exact hF4
          have hFqm5_28 : F28 (qm 5) = cJ (cy 2) 6 Dd.2.2.2 := by rw [eF28, va_up_ne _ _ (pl_ne hF5 hFo rfl)]; exact hF5
          have hFqm6_28 : F28 (qm 6) = cI (cy 1) 8 Sl.1 := by rw [eF28, va_up_ne _ _ (pl_ne hF6 hFo rfl)]; exact hF6
          have hFqm7_28 : F28 (qm 7) = cJ (cy 2) 128 Sl.2 := by rw [eF28, va_up_ne _ _ (pl_ne hF7 hFo rfl)]; exact hF7
          have hFqm8_28 : F28 (qm 8) = cI (cy 1) 30 Pp.2.1 := by rw [eF28, va_up_ne _ _ (pl_ne hF8 hFo rfl)]; exact hF8
          have hFqm9_28 : F28 (qm 9) = cI (cy 3) 30 Pp.2.2 := by rw [eF28, va_up_ne _ _ (pl_ne hF9 hFo rfl)]; exact hF9
          have hFqm10_28 : F28 (qm 10) = cI (cy 1) 5 Kr.1 := by rw [eF28, va_up_ne _ _ (pl_ne hF10 hFo rfl)]; exact hF10
          have hFqm11_28 : F28 (qm 11) = cI (cy 3) 5 Kr.2.1 := by rw [eF28, va_up_ne _ _ (pl_ne hF11 hFo rfl)]; exact hF11
          have hFqm12_28 : F28 (qm 12) = cI (cy 1) 60 Kr.2.2 := by rw [eF28, va_up_ne _ _ (pl_ne hF12 hFo rfl)]; exact hF12
          have hFqm13_28 : F28 (qm 13) = cI (cy 1) 4 Bk.1 := by rw [eF28, va_up_ne _ _ (pl_ne hF13 hFo rfl)]; exact hF13
          have hFqm14_28 : F28 (qm 14) = cD (cy 0) 4 Bk.2 := by rw [eF28, va_up_ne _ _ (pl_ne hF14 hFo rfl)]; exact hF14
          have hFqm15_28 : F28 (qm 15) = cI (cy 1) 6 Xx.2 := by rw [eF28, va_up_ne _ _ (pl_ne hF15 hFo rfl)]; exact hF15
          refine lv_iload_n hx hb dX9_slow_5 rfl (lv_at hl 1 rfl) ?_
          refine lv_i2l hx hb dX9_slow_6 rfl ?_
          refine lv_topl (fun v29 ev29 => ?_)
          refine lv_lconst (v := 0) hx hb dX9_slow_7 (by decide) ?_
          refine lv_ldc2 hx hb hown (hts (.constantLong RX9 123 (3)) (by decide +kernel)) dX9_slow_8 ?_
          refine vp_callSi (W.runS (As := [.long v29, .long 0, .long 3]) (rest := []) ⟨hx, hb, hml, hown, hts⟩ (c9_in l v29 0 3) (va_cwS 3 hts gX9_slow_X9_in rfl rfl rfl (by decide +kernel) ⟨Nat.le_of_ble_eq_true rfl, Nat.le_of_ble_eq_true rfl⟩) (preS_of okT (trivial)) rfl rfl hl.1 rfl (lv_room (Nat.le_of_ble_eq_true rfl)) dX9_slow_11 ⟨Nat.le_of_ble_eq_true rfl, Nat.le_of_ble_eq_true rfl⟩) (fun r30 hr30 => ?_)
          have hzr30 : r30 = 1 := by rw [hr30, ev29, inq_i (y := 0) (z := 3) (by decide) (by decide)]; exact if_pos (by rw [nI_toInt (by omega)]; omega)
          subst hzr30
          refine lv_if_eq (tgt := 24) hx hb dX9_slow_14 (by decide) (fun c31 => absurd c31 (by decide)) (fun c31 => ?_)
          refine lv_iload_n hx hb dX9_slow_17 rfl (lv_at hl 2 rfl) ?_
          refine vp_callSi (W.runS (As := [.int (nI j_me)]) (rest := []) ⟨hx, hb, hml, hown, hts⟩ (c9_isMeter l (nI j_me)) (va_cwS 1 hts gX9_slow_X9_isMeter rfl rfl rfl (by decide +kernel) ⟨Nat.le_of_ble_eq_true rfl, Nat.le_of_ble_eq_true rfl⟩) (preS_of okT (trivial)) rfl rfl hl.1 rfl (lv_room (Nat.le_of_ble_eq_true rfl)) dX9_slow_18 ⟨Nat.le_of_ble_eq_true rfl, Nat.le_of_ble_eq_true rfl⟩) (fun r32 hr32 => ?_)
          rw [isx1 hi_me] at hr32
          subst hr32
          refine lv_if_ne (tgt := 28) hx hb dX9_slow_21 (by decide) (fun c33 => ?_) (fun c33 => absurd c33 (by decide))
          refine lv_aload_n hx hb dX9_slow_28 rfl (lv_at hl 0 rfl) ?_
          refine lv_aload_n hx hb dX9_slow_29 rfl (lv_at hl 0 rfl) ?_
          refine pg_get (ci := 8) (C := RX9) (T := TX9) (N := 20) hx hb hts hinX9 hown hK hP hmo hFo_28 rfl 15 (by decide) (hts (.fieldLink RX9 52 "RopeDrumsModel" "brakeSort" "[I") (by decide +kernel)) (fun _ h9 => h9) rfl dX9_slow_30 ?_
          refine lv_iload_n hx hb dX9_slow_33 rfl (lv_at hl 1 rfl) ?_
          refine pg_iald hx hb hK hP 1 hm13 hFqm13_28 rfl (vp_in_nI (by omega) (by decide)) dX9_slow_34 ?_
          refine lv_topi (fun v34 ev34 => ?_)
          rw [nI_clamp (by omega)] at ev34
          rw [hbs] at ev34
          subst ev34
          refine lv_iconst (v := 2) hx hb dX9_slow_35 (by decide) ?_
          refine lv_icmp_ne (tgt := 43) hx hb dX9_slow_36 (by decide) (fun c35 => ?_) (fun c35 => absurd c35 (by decide))
          refine lv_iconst (v := 0) hx hb dX9_slow_43 (by decide) ?_
          refine pg_put (ci := 8) (v := .int 0) (ty := .int) (C := RX9) (T := TX9) (N := 20) hx hb hts hinX9 tyX9 tyX9_ok nmX9 hown hK hP hD hS hmo hFo_28 rfl 17 (by decide) (hts (.fieldLink RX9 65 "RopeDrumsModel" "failed" "I") (by decide +kernel)) (fun _ h9 => h9) rfl (by decide +kernel) (rfl) (rfl) (Nat.le_of_ble_eq_true rfl) dX9_slow_44 (fun H locs F36 eF36 hP hS => ?_)
          have eF36 : F36 = va_up F28 o (.inr (8, [.int 0, .ref (qm 0), .ref (qm 1), .ref (qm 2), .ref (qm 3), .ref (qm 4), .ref (qm 5), .ref (qm 6), .ref (qm 7), .int Pp.1, .ref (qm 8), .ref (qm 9), .ref (qm 10), .ref (qm 11), .ref (qm 12), .ref (qm 13), .ref (qm 14), .int 0, .ref (qm 15), .long oc])) := eF36
          have hFo_36 : F36 o = .inr (8, [.int 0, .ref (qm 0), .ref (qm 1), .ref (qm 2), .ref (qm 3), .ref (qm 4), .ref (qm 5), .ref (qm 6), .ref (qm 7), .int Pp.1, .ref (qm 8), .ref (qm 9), .ref (qm 10), .ref (qm 11), .ref (qm 12), .ref (qm 13), .ref (qm 14), .int 0, .ref (qm 15), .long oc]) := by rw [eF36]; exact va_up_self _ _ _
          have hFqm0_36 : F36 (qm 0) = cI (cy 1) 10 Mm.1 := by rw [eF36, va_up_ne _ _ (pl_ne hFqm0_28 hFo_28 rfl)]; exact hFqm0_28
          have hFqm1_36 : F36 (qm 1) = cJ (cy 2) 10 Mm.2 := by rw [eF36, va_up_ne _ _ (pl_ne hFqm1_28 hFo_28 rfl)]; exact hFqm1_28
          have hFqm2_36 : F36 (qm 2) = cD (cy 0) 6 Dd.1 := by rw [eF36, va_up_ne _ _ (pl_ne hFqm2_28 hFo_28 rfl)]; exact hFqm2_28
          have hFqm3_36 : F36 (qm 3) = cD (cy 0) 6 Dd.2.1 := by rw [eF36, va_up_ne _ _ (pl_ne hFqm3_28 hFo_28 rfl)]; exact hFqm3_28
          have hFqm4_36 : F36 (qm 4) = cD (cy 0) 6 Dd.2.2.1 := by rw [eF36, va_up_ne _ _ (pl_ne hFqm4_28 hFo_28 rfl)]; exact hFqm4_28
          have hFqm5_36 : F36 (qm 5) = cJ (cy 2) 6 Dd.2.2.2 := by rw [eF36, va_up_ne _ _ (pl_ne hFqm5_28 hFo_28 rfl)]; exact hFqm5_28
          have hFqm6_36 : F36 (qm 6) = cI (cy 1) 8 Sl.1 := by rw [eF36, va_up_ne _ _ (pl_ne hFqm6_28 hFo_28 rfl)]; exact hFqm6_28
          have hFqm7_36 : F36 (qm 7) = cJ (cy 2) 128 Sl.2 := by rw [eF36, va_up_ne _ _ (pl_ne hFqm7_28 hFo_28 rfl)]; exact hFqm7_28
          have hFqm8_36 : F36 (qm 8) = cI (cy 1) 30 Pp.2.1 := by rw [eF36, va_up_ne _ _ (pl_ne hFqm8_28 hFo_28 rfl)]; exact hFqm8_28
          have hFqm9_36 : F36 (qm 9) = cI (cy 3) 30 Pp.2.2 := by rw [eF36, va_up_ne _ _ (pl_ne hFqm9_28 hFo_28 rfl)]; exact hFqm9_28
          have hFqm10_36 : F36 (qm 10) = cI (cy 1) 5 Kr.1 := by rw [eF36, va_up_ne _ _ (pl_ne hFqm10_28 hFo_28 rfl)]; exact hFqm10_28
          have hFqm11_36 : F36 (qm 11) = cI (cy 3) 5 Kr.2.1 := by rw [eF36, va_up_ne _ _ (pl_ne hFqm11_28 hFo_28 rfl)]; exact hFqm11_28
          have hFqm12_36 : F36 (qm 12) = cI (cy 1) 60 Kr.2.2 := by rw [eF36, va_up_ne _ _ (pl_ne hFqm12_28 hFo_28 rfl)]; exact hFqm12_28
          have hFqm13_36 : F36 (qm 13) = cI (cy 1) 4 Bk.1 := by rw [eF36, va_up_ne _ _ (pl_ne hFqm13_28 hFo_28 rfl)]; exact hFqm13_28
          have hFqm14_36 : F36 (qm 14) = cD (cy 0) 4 Bk.2 := by rw [eF36, va_up_ne _ _ (pl_ne hFqm14_28 hFo_28 rfl)]; exact hFqm14_28
          have hFqm15_36 : F36 (qm 15) = cI (cy 1) 6 Xx.2 := by rw [eF36, va_up_ne _ _ (pl_ne hFqm15_28 hFo_28 rfl)]; exact hFqm15_28
          refine lv_aload_n hx hb dX9_slow_47 rfl (lv_at hl 0 rfl) ?_
          refine pg_get (ci := 8) (C := RX9) (T := TX9) (N := 20) hx hb hts hinX9 hown hK hP hmo hFo_36 rfl 17 (by decide) (hts (.fieldLink RX9 65 "RopeDrumsModel" "failed" "I") (by decide +kernel)) (fun _ h9 => h9) rfl dX9_slow_48 ?_
          refine lv_if_ne (tgt := 83) hx hb dX9_slow_51 (by decide) (fun c37 => absurd (by decide) c37) (fun c37 => ?_)
          refine lv_aload_n hx hb dX9_slow_54 rfl (lv_at hl 0 rfl) ?_
          refine lv_aload_n hx hb dX9_slow_55 rfl (lv_at hl 0 rfl) ?_
          refine pg_get (ci := 8) (C := RX9) (T := TX9) (N := 20) hx hb hts hinX9 hown hK hP hmo hFo_36 rfl 15 (by decide) (hts (.fieldLink RX9 52 "RopeDrumsModel" "brakeSort" "[I") (by decide +kernel)) (fun _ h9 => h9) rfl dX9_slow_56 ?_
          refine lv_iload_n hx hb dX9_slow_59 rfl (lv_at hl 1 rfl) ?_
          refine pg_iald hx hb hK hP 1 hm13 hFqm13_36 rfl (vp_in_nI (by omega) (by decide)) dX9_slow_60 ?_
          refine lv_topi (fun v38 ev38 => ?_)
          rw [nI_clamp (by omega)] at ev38
          rw [hbs] at ev38
          subst ev38
          refine lv_if_ne (tgt := 68) hx hb dX9_slow_61 (by decide) (fun c39 => absurd (by decide) c39) (fun c39 => ?_)
          refine lv_iconst (v := 4) hx hb dX9_slow_64 (by decide) ?_
          refine lv_goto (tgt := 69) hx hb dX9_slow_65 (by decide) ?_
          refine lv_aload_n hx hb dX9_slow_69 rfl (lv_at hl 0 rfl) ?_
          refine lv_iload_n hx hb dX9_slow_70 rfl (lv_at hl 2 rfl) ?_
          refine vp_callSd (W.runV (As := [.int (nI j_me)]) (rest := [.int 4, .ref o]) ⟨hx, hb, hml, hown, hts⟩ (c9_asDouble l G cy L F36 o qm 0 Pp.1 0 oc hmo hFo_36 Mm.1 hm0 hFqm0_36 Mm.2 hm1 hFqm1_36 j_me hj_me (hVM j_me hj_me)) (cwV 1 hts gX9_slow_X9_asDouble rfl rfl rfl (by decide +kernel) ⟨Nat.le_of_ble_eq_true rfl, Nat.le_of_ble_eq_true rfl⟩) (preV_of okP (⟨hP, hK, hD.top⟩) (pl_recv hK hP (ci := 8) rfl hmo hFo_36)) rfl rfl hl.1 rfl (lv_room (Nat.le_of_ble_eq_true rfl)) dX9_slow_71 ⟨Nat.le_of_ble_eq_true rfl, Nat.le_of_ble_eq_true rfl⟩) (fun r40 hr40 => ?_)
          subst hr40
          refine lv_aload_n hx hb dX9_slow_74 rfl (lv_at hl 0 rfl) ?_
          refine pg_get (ci := 8) (C := RX9) (T := TX9) (N := 20) hx hb hts hinX9 hown hK hP hmo hFo_36 rfl 16 (by decide) (hts (.fieldLink RX9 55 "RopeDrumsModel" "grip" "[D") (by decide +kernel)) (fun _ h9 => h9) rfl dX9_slow_75 ?_
          refine lv_iload_n hx hb dX9_slow_78 rfl (lv_at hl 1 rfl) ?_
          refine pg_dald hx hb hK hP 0 hm14 hFqm14_36 rfl (vp_in_nI (by omega) (by decide)) dX9_slow_79 ?_
          refine lv_topd (fun v41 ev41 => ?_)
          rw [nI_clamp (by omega)] at ev41
          refine va_callv (va_runV (As := [.int 4, .double (db (tn (Mm.1 j_me) (Mm.2 j_me) 3)), .double v41]) (rest := []) ⟨hx, hb, hml, hown, hts⟩ (c9_rD_4_no l G cy L F36 H.size o qm 0 Pp.1 0 oc hmo hFo_36 (db (tn (Mm.1 j_me) (Mm.2 j_me) 3)) v41 (tn3_ok (hVM j_me hj_me)) (by rw [ev41]; exact hgn) (by rw [ev41]; exact hnan)) (cwV 3 hts gX9_slow_X9_reckonDoubles rfl rfl rfl (by decide +kernel) ⟨Nat.le_of_ble_eq_true rfl, Nat.le_of_ble_eq_true rfl⟩) (preV_of okQ (⟨rfl, hP, hK, hD.top⟩) (pl_recv hK hP (ci := 8) rfl hmo hFo_36)) rfl rfl hl.1 rfl (lv_room (Nat.le_of_ble_eq_true rfl)) dX9_slow_80 ⟨Nat.le_of_ble_eq_true rfl, Nat.le_of_ble_eq_true rfl⟩) hS (fun q _ h => pl_free hD hS hA q h) (pl_free hD hS hA) (fun F42 t H1 locs ht hvm hw hP1 hz1 hk1 hS => ?_)
          have hP1 : va_P G vwCl (va_pl L F42) t.heap := hP1
          rw [ht] at hP1
          have hP := hP1
          generalize H1 = H at hP hS ⊢
          have eF42 : F42 = va_up F36 o (.inr (8, [.int 0, .ref (qm 0), .ref (qm 1), .ref (qm 2), .ref (qm 3), .ref (qm 4), .ref (qm 5), .ref (qm 6), .ref (qm 7), .int Pp.1, .ref (qm 8), .ref (qm 9), .ref (qm 10), .ref (qm 11), .ref (qm 12), .ref (qm 13), .ref (qm 14), .int 5, .ref (qm 15), .long oc])) := hw
          have hFo_42 : F42 o = .inr (8, [.int 0, .ref (qm 0), .ref (qm 1), .ref (qm 2), .ref (qm 3), .ref (qm 4), .ref (qm 5), .ref (qm 6), .ref (qm 7), .int Pp.1, .ref (qm 8), .ref (qm 9), .ref (qm 10), .ref (qm 11), .ref (qm 12), .ref (qm 13), .ref (qm 14), .int 5, .ref (qm 15), .long oc]) := by rw [eF42]; exact va_up_self _ _ _
          have hFqm0_42 : F42 (qm 0) = cI (cy 1) 10 Mm.1 := by rw [eF42, va_up_ne _ _ (pl_ne hFqm0_36 hFo_36 rfl)]; exact hFqm0_36
          have hFqm1_42 : F42 (qm 1) = cJ (cy 2) 10 Mm.2 := by rw [eF42, va_up_ne _ _ (pl_ne hFqm1_36 hFo_36 rfl)]; exact hFqm1_36
          have hFqm2_42 : F42 (qm 2) = cD (cy 0) 6 Dd.1 := by rw [eF42, va_up_ne _ _ (pl_ne hFqm2_36 hFo_36 rfl)]; exact hFqm2_36
          have hFqm3_42 : F42 (qm 3) = cD (cy 0) 6 Dd.2.1 := by rw [eF42, va_up_ne _ _ (pl_ne hFqm3_36 hFo_36 rfl)]; exact hFqm3_36
          have hFqm4_42 : F42 (qm 4) = cD (cy 0) 6 Dd.2.2.1 := by rw [eF42, va_up_ne _ _ (pl_ne hFqm4_36 hFo_36 rfl)]; exact hFqm4_36
          have hFqm5_42 : F42 (qm 5) = cJ (cy 2) 6 Dd.2.2.2 := by rw [eF42, va_up_ne _ _ (pl_ne hFqm5_36 hFo_36 rfl)]; exact hFqm5_36
          have hFqm6_42 : F42 (qm 6) = cI (cy 1) 8 Sl.1 := by rw [eF42, va_up_ne _ _ (pl_ne hFqm6_36 hFo_36 rfl)]; exact hFqm6_36
          have hFqm7_42 : F42 (qm 7) = cJ (cy 2) 128 Sl.2 := by rw [eF42, va_up_ne _ _ (pl_ne hFqm7_36 hFo_36 rfl)]; exact hFqm7_36
          have hFqm8_42 : F42 (qm 8) = cI (cy 1) 30 Pp.2.1 := by rw [eF42, va_up_ne _ _ (pl_ne hFqm8_36 hFo_36 rfl)]; exact hFqm8_36
          have hFqm9_42 : F42 (qm 9) = cI (cy 3) 30 Pp.2.2 := by rw [eF42, va_up_ne _ _ (pl_ne hFqm9_36 hFo_36 rfl)]; exact hFqm9_36
          have hFqm10_42 : F42 (qm 10) = cI (cy 1) 5 Kr.1 := by rw [eF42, va_up_ne _ _ (pl_ne hFqm10_36 hFo_36 rfl)]; exact hFqm10_36
          have hFqm11_42 : F42 (qm 11) = cI (cy 3) 5 Kr.2.1 := by rw [eF42, va_up_ne _ _ (pl_ne hFqm11_36 hFo_36 rfl)]; exact hFqm11_36
          have hFqm12_42 : F42 (qm 12) = cI (cy 1) 60 Kr.2.2 := by rw [eF42, va_up_ne _ _ (pl_ne hFqm12_36 hFo_36 rfl)]; exact hFqm12_36
          have hFqm13_42 : F42 (qm 13) = cI (cy 1) 4 Bk.1 := by rw [eF42, va_up_ne _ _ (pl_ne hFqm13_36 hFo_36 rfl)]; exact hFqm13_36
          have hFqm14_42 : F42 (qm 14) = cD (cy 0) 4 Bk.2 := by rw [eF42, va_up_ne _ _ (pl_ne hFqm14_36 hFo_36 rfl)]; exact hFqm14_36
          have hFqm15_42 : F42 (qm 15) = cI (cy 1) 6 Xx.2 := by rw [eF42, va_up_ne _ _ (pl_ne hFqm15_36 hFo_36 rfl)]; exact hFqm15_36
          refine lv_aload_n hx hb dX9_slow_83 rfl (lv_at hl 0 rfl) ?_
          refine pg_get (ci := 8) (C := RX9) (T := TX9) (N := 20) hx hb hts hinX9 hown hK hP hmo hFo_42 rfl 17 (by decide) (hts (.fieldLink RX9 65 "RopeDrumsModel" "failed" "I") (by decide +kernel)) (fun _ h9 => h9) rfl dX9_slow_84 ?_
          refine lv_if_ne (tgt := 133) hx hb dX9_slow_87 (by decide) (fun c43 => ?_) (fun c43 => absurd c43 (by decide))
          refine lv_aload_n hx hb dX9_slow_133 rfl (lv_at hl 0 rfl) ?_
          refine lv_iconst (v := 1) hx hb dX9_slow_134 (by decide) ?_
          refine va_calli (va_runV (As := [.int 1]) (rest := []) ⟨hx, hb, hml, hown, hts⟩ (c9_answers_5 l G cy L F42 H.size o qm 0 Pp.1 oc hmo hFo_42 Xx.2 hm15 hFqm15_42 1) (cwV 1 hts gX9_slow_X9_answers rfl rfl rfl (by decide +kernel) ⟨Nat.le_of_ble_eq_true rfl, Nat.le_of_ble_eq_true rfl⟩) (preV_of okQ (⟨rfl, hP, hK, hD.top⟩) (pl_recv hK hP (ci := 8) rfl hmo hFo_42)) rfl rfl hl.1 rfl (lv_room (Nat.le_of_ble_eq_true rfl)) dX9_slow_135 ⟨Nat.le_of_ble_eq_true rfl, Nat.le_of_ble_eq_true rfl⟩) hS (fun q _ h => pl_free hD hS hA q h) (pl_free hD hS hA) (fun r45 F44 t H1 locs ht hvm hw hP1 hz1 hk1 hS => ?_)
          have hP1 : va_P G vwCl (va_pl L F44) t.heap := hP1
          rw [ht] at hP1
          have hP := hP1
          generalize H1 = H at hP hS ⊢
          obtain ⟨hqr45, eF44⟩ := hw
          have eF44 : F44 = va_up F42 (qm 15) (cI (cy 1) 6 (upd Xx.2 5 (Xx.2 5 + 1))) := eF44
          have hFo_45 : F44 o = .inr (8, [.int 0, .ref (qm 0), .ref (qm 1), .ref (qm 2), .ref (qm 3), .ref (qm 4), .ref (qm 5), .ref (qm 6), .ref (qm 7), .int Pp.1, .ref (qm 8), .ref (qm 9), .ref (qm 10), .ref (qm 11), .ref (qm 12), .ref (qm 13), .ref (qm 14), .int 5, .ref (qm 15), .long oc]) := by rw [eF44, va_up_ne _ _ (pl_ne hFo_42 hFqm15_42 rfl)]; exact hFo_42
          have hFqm0_45 : F44 (qm 0) = cI (cy 1) 10 Mm.1 := by rw [eF44, va_up_ne _ _ (pl_ne hFqm0_42 hFqm15_42 rfl)]; exact hFqm0_42
          have hFqm1_45 : F44 (qm 1) = cJ (cy 2) 10 Mm.2 := by rw [eF44, va_up_ne _ _ (pl_ne hFqm1_42 hFqm15_42 rfl)]; exact hFqm1_42
          have hFqm2_45 : F44 (qm 2) = cD (cy 0) 6 Dd.1 := by rw [eF44, va_up_ne _ _ (pl_ne hFqm2_42 hFqm15_42 rfl)]; exact hFqm2_42
          have hFqm3_45 : F44 (qm 3) = cD (cy 0) 6 Dd.2.1 := by rw [eF44, va_up_ne _ _ (pl_ne hFqm3_42 hFqm15_42 rfl)]; exact hFqm3_42
          have hFqm4_45 : F44 (qm 4) = cD (cy 0) 6 Dd.2.2.1 := by rw [eF44, va_up_ne _ _ (pl_ne hFqm4_42 hFqm15_42 rfl)]; exact hFqm4_42
          have hFqm5_45 : F44 (qm 5) = cJ (cy 2) 6 Dd.2.2.2 := by rw [eF44, va_up_ne _ _ (pl_ne hFqm5_42 hFqm15_42 rfl)]; exact hFqm5_42
          have hFqm6_45 : F44 (qm 6) = cI (cy 1) 8 Sl.1 := by rw [eF44, va_up_ne _ _ (pl_ne hFqm6_42 hFqm15_42 rfl)]; exact hFqm6_42
          have hFqm7_45 : F44 (qm 7) = cJ (cy 2) 128 Sl.2 := by rw [eF44, va_up_ne _ _ (pl_ne hFqm7_42 hFqm15_42 rfl)]; exact hFqm7_42
          have hFqm8_45 : F44 (qm 8) = cI (cy 1) 30 Pp.2.1 := by rw [eF44, va_up_ne _ _ (pl_ne hFqm8_42 hFqm15_42 rfl)]; exact hFqm8_42
          have hFqm9_45 : F44 (qm 9) = cI (cy 3) 30 Pp.2.2 := by rw [eF44, va_up_ne _ _ (pl_ne hFqm9_42 hFqm15_42 rfl)]; exact hFqm9_42
          have hFqm10_45 : F44 (qm 10) = cI (cy 1) 5 Kr.1 := by rw [eF44, va_up_ne _ _ (pl_ne hFqm10_42 hFqm15_42 rfl)]; exact hFqm10_42
          have hFqm11_45 : F44 (qm 11) = cI (cy 3) 5 Kr.2.1 := by rw [eF44, va_up_ne _ _ (pl_ne hFqm11_42 hFqm15_42 rfl)]; exact hFqm11_42
          have hFqm12_45 : F44 (qm 12) = cI (cy 1) 60 Kr.2.2 := by rw [eF44, va_up_ne _ _ (pl_ne hFqm12_42 hFqm15_42 rfl)]; exact hFqm12_42
          have hFqm13_45 : F44 (qm 13) = cI (cy 1) 4 Bk.1 := by rw [eF44, va_up_ne _ _ (pl_ne hFqm13_42 hFqm15_42 rfl)]; exact hFqm13_42
          have hFqm14_45 : F44 (qm 14) = cD (cy 0) 4 Bk.2 := by rw [eF44, va_up_ne _ _ (pl_ne hFqm14_42 hFqm15_42 rfl)]; exact hFqm14_42
          have hFqm15_45 : F44 (qm 15) = cI (cy 1) 6 (upd Xx.2 5 (Xx.2 5 + 1)) := by rw [eF44]; exact va_up_self _ _ _
          have hr45 := hqr45
          exact W.iret (v := r45) hx hb hr (fun t ht hW => ⟨⟨r45, F44, rfl, (by subst hr45 ev41 ev29; have hsp : sp_slow Mm Bk Xx (nI j_br) (nI j_me) = (-15, Mm, failX Xx 5) := (by unfold sp_slow; rw [hi_br, hi_me]; show slw _ _ _ _ _ _ = _; unfold slw; rw [hbs]; exact (if_neg (by decide)).trans ((if_pos rfl).trans (if_pos hnan))); rw [hsp]; exact ⟨rfl, (by exact ⟨⟨_, _, hmo, hFo_45⟩, ⟨hm0, hFqm0_45⟩, ⟨hm1, hFqm1_45⟩, ⟨hm2, hFqm2_45⟩, ⟨hm3, hFqm3_45⟩, ⟨hm4, hFqm4_45⟩, ⟨hm5, hFqm5_45⟩, ⟨hm6, hFqm6_45⟩, ⟨hm7, hFqm7_45⟩, ⟨hm8, hFqm8_45⟩, ⟨hm9, hFqm9_45⟩, ⟨hm10, hFqm10_45⟩, ⟨hm11, hFqm11_45⟩, ⟨hm12, hFqm12_45⟩, ⟨hm13, hFqm13_45⟩, ⟨hm14, hFqm14_45⟩, ⟨hm15, hFqm15_45⟩, hne⟩)⟩), (by show va_P _ _ _ t.heap; rw [ht]; exact hP)⟩, hS.F ht⟩) hS.2.2 dX9_slow_138
        · have hnan : FP.Core.dIsNaN (FP.drem (db (tn (Mm.1 j_me) (Mm.2 j_me) 3)) (Bk.2 j_br)) = false := Bool.eq_false_iff.mpr hnan0
          refine lv_aload_n hx hb dX9_slow_0 rfl (lv_at hl 0 rfl) ?_
          refine lv_iconst (v := 0) hx hb dX9_slow_1 (by decide) ?_
          refine pg_put (ci := 8) (v := .int 0) (ty := .int) (C := RX9) (T := TX9) (N := 20) hx hb hts hinX9 tyX9 tyX9_ok nmX9 hown hK hP hD hS hmo hFo rfl 0 (by decide) (hts (.fieldLink RX9 61 "RopeDrumsModel" "thrown" "I") (by decide +kernel)) (fun _ h9 => h9) rfl (by decide +kernel) (rfl) (rfl) (Nat.le_of_ble_eq_true rfl) dX9_slow_2 (fun H locs F46 eF46 hP hS => ?_)
          have eF46 : F46 = va_up F o (.inr (8, [.int 0, .ref (qm 0), .ref (qm 1), .ref (qm 2), .ref (qm 3), .ref (qm 4), .ref (qm 5), .ref (qm 6), .ref (qm 7), .int Pp.1, .ref (qm 8), .ref (qm 9), .ref (qm 10), .ref (qm 11), .ref (qm 12), .ref (qm 13), .ref (qm 14), .int Xx.1, .ref (qm 15), .long oc])) := eF46
          have hFo_46 : F46 o = .inr (8, [.int 0, .ref (qm 0), .ref (qm 1), .ref (qm 2), .ref (qm 3), .ref (qm 4), .ref (qm 5), .ref (qm 6), .ref (qm 7), .int Pp.1, .ref (qm 8), .ref (qm 9), .ref (qm 10), .ref (qm 11), .ref (qm 12), .ref (qm 13), .ref (qm 14), .int Xx.1, .ref (qm 15), .long oc]) := by rw [eF46]; exact va_up_self _ _ _
          have hFqm0_46 : F46 (qm 0) = cI (cy 1) 10 Mm.1 := by rw [eF46, va_up_ne _ _ (pl_ne hF0 hFo rfl)]; exact hF0
          have hFqm1_46 : F46 (qm 1) = cJ (cy 2) 10 Mm.2 := by rw [eF46, va_up_ne _ _ (pl_ne hF1 hFo rfl)]; exact hF1
          have hFqm2_46 : F46 (qm 2) = cD (cy 0) 6 Dd.1 := by rw [eF46, va_up_ne _ _ (pl_ne hF2 hFo rfl)]; exact hF2
          have hFqm3_46 : F46 (qm 3) = cD (cy 0) 6 Dd.2.1 := by rw [eF46, va_up_ne _ _ (pl_ne hF3 hFo rfl)]; exact hF3
          have hFqm4_46 : F46 (qm 4) = cD (cy 0) 6 Dd.2.2.1 := by rw [eF46, va_up_ne _ _ (pl_ne hF4 hFo rfl)]; exact hF4
          have hFqm5_46 : F46 (qm 5) = cJ (cy 2) 6 Dd.2.2.2 := by rw [eF46, va_up_ne _ _ (pl_ne hF5 hFo rfl)]; exact hF5
          have hFqm6_46 : F46 (qm 6) = cI (cy 1) 8 Sl.1 := by rw [eF46, va_up_ne _ _ (pl_ne hF6 hFo rfl)]; exact hF6
          have hFqm7_46 : F46 (qm 7) = cJ (cy 2) 128 Sl.2 := by rw [eF46, va_up_ne _ _ (pl_ne hF7 hFo rfl)]; exact hF7
          have hFqm8_46 : F46 (qm 8) = cI (cy 1) 30 Pp.2.1 := by rw [eF46, va_up_ne _ _ (pl_ne hF8 hFo rfl)]; exact hF8
          have hFqm9_46 : F46 (qm 9) = cI (cy 3) 30 Pp.2.2 := by rw [eF46, va_up_ne _ _ (pl_ne hF9 hFo rfl)]; exact hF9
          have hFqm10_46 : F46 (qm 10) = cI (cy 1) 5 Kr.1 := by rw [eF46, va_up_ne _ _ (pl_ne hF10 hFo rfl)]; exact hF10
          have hFqm11_46 : F46 (qm 11) = cI (cy 3) 5 Kr.2.1 := by rw [eF46, va_up_ne _ _ (pl_ne hF11 hFo rfl)]; exact hF11
          have hFqm12_46 : F46 (qm 12) = cI (cy 1) 60 Kr.2.2 := by rw [eF46, va_up_ne _ _ (pl_ne hF12 hFo rfl)]; exact hF12
          have hFqm13_46 : F46 (qm 13) = cI (cy 1) 4 Bk.1 := by rw [eF46, va_up_ne _ _ (pl_ne hF13 hFo rfl)]; exact hF13
          have hFqm14_46 : F46 (qm 14) = cD (cy 0) 4 Bk.2 := by rw [eF46, va_up_ne _ _ (pl_ne hF14 hFo rfl)]; exact hF14
          have hFqm15_46 : F46 (qm 15) = cI (cy 1) 6 Xx.2 := by rw [eF46, va_up_ne _ _ (pl_ne hF15 hFo rfl)]; exact hF15
          refine lv_iload_n hx hb dX9_slow_5 rfl (lv_at hl 1 rfl) ?_
          refine lv_i2l hx hb dX9_slow_6 rfl ?_
          refine lv_topl (fun v47 ev47 => ?_)
          refine lv_lconst (v := 0) hx hb dX9_slow_7 (by decide) ?_
          refine lv_ldc2 hx hb hown (hts (.constantLong RX9 123 (3)) (by decide +kernel)) dX9_slow_8 ?_
          refine vp_callSi (W.runS (As := [.long v47, .long 0, .long 3]) (rest := []) ⟨hx, hb, hml, hown, hts⟩ (c9_in l v47 0 3) (va_cwS 3 hts gX9_slow_X9_in rfl rfl rfl (by decide +kernel) ⟨Nat.le_of_ble_eq_true rfl, Nat.le_of_ble_eq_true rfl⟩) (preS_of okT (trivial)) rfl rfl hl.1 rfl (lv_room (Nat.le_of_ble_eq_true rfl)) dX9_slow_11 ⟨Nat.le_of_ble_eq_true rfl, Nat.le_of_ble_eq_true rfl⟩) (fun r48 hr48 => ?_)
          have hzr48 : r48 = 1 := by rw [hr48, ev47, inq_i (y := 0) (z := 3) (by decide) (by decide)]; exact if_pos (by rw [nI_toInt (by omega)]; omega)
          subst hzr48
          refine lv_if_eq (tgt := 24) hx hb dX9_slow_14 (by decide) (fun c49 => absurd c49 (by decide)) (fun c49 => ?_)
          refine lv_iload_n hx hb dX9_slow_17 rfl (lv_at hl 2 rfl) ?_
          refine vp_callSi (W.runS (As := [.int (nI j_me)]) (rest := []) ⟨hx, hb, hml, hown, hts⟩ (c9_isMeter l (nI j_me)) (va_cwS 1 hts gX9_slow_X9_isMeter rfl rfl rfl (by decide +kernel) ⟨Nat.le_of_ble_eq_true rfl, Nat.le_of_ble_eq_true rfl⟩) (preS_of okT (trivial)) rfl rfl hl.1 rfl (lv_room (Nat.le_of_ble_eq_true rfl)) dX9_slow_18 ⟨Nat.le_of_ble_eq_true rfl, Nat.le_of_ble_eq_true rfl⟩) (fun r50 hr50 => ?_)
          rw [isx1 hi_me] at hr50
          subst hr50
          refine lv_if_ne (tgt := 28) hx hb dX9_slow_21 (by decide) (fun c51 => ?_) (fun c51 => absurd c51 (by decide))
          refine lv_aload_n hx hb dX9_slow_28 rfl (lv_at hl 0 rfl) ?_
          refine lv_aload_n hx hb dX9_slow_29 rfl (lv_at hl 0 rfl) ?_
          refine pg_get (ci := 8) (C := RX9) (T := TX9) (N := 20) hx hb hts hinX9 hown hK hP hmo hFo_46 rfl 15 (by decide) (hts (.fieldLink RX9 52 "RopeDrumsModel" "brakeSort" "[I") (by decide +kernel)) (fun _ h9 => h9) rfl dX9_slow_30 ?_
          refine lv_iload_n hx hb dX9_slow_33 rfl (lv_at hl 1 rfl) ?_
          refine pg_iald hx hb hK hP 1 hm13 hFqm13_46 rfl (vp_in_nI (by omega) (by decide)) dX9_slow_34 ?_
          refine lv_topi (fun v52 ev52 => ?_)
          rw [nI_clamp (by omega)] at ev52
          rw [hbs] at ev52
          subst ev52
          refine lv_iconst (v := 2) hx hb dX9_slow_35 (by decide) ?_
          refine lv_icmp_ne (tgt := 43) hx hb dX9_slow_36 (by decide) (fun c53 => ?_) (fun c53 => absurd c53 (by decide))
          refine lv_iconst (v := 0) hx hb dX9_slow_43 (by decide) ?_
          refine pg_put (ci := 8) (v := .int 0) (ty := .int) (C := RX9) (T := TX9) (N := 20) hx hb hts hinX9 tyX9 tyX9_ok nmX9 hown hK hP hD hS hmo hFo_46 rfl 17 (by decide) (hts (.fieldLink RX9 65 "RopeDrumsModel" "failed" "I") (by decide +kernel)) (fun _ h9 => h9) rfl (by decide +kernel) (rfl) (rfl) (Nat.le_of_ble_eq_true rfl) dX9_slow_44 (fun H locs F54 eF54 hP hS => ?_)
          have eF54 : F54 = va_up F46 o (.inr (8, [.int 0, .ref (qm 0), .ref (qm 1), .ref (qm 2), .ref (qm 3), .ref (qm 4), .ref (qm 5), .ref (qm 6), .ref (qm 7), .int Pp.1, .ref (qm 8), .ref (qm 9), .ref (qm 10), .ref (qm 11), .ref (qm 12), .ref (qm 13), .ref (qm 14), .int 0, .ref (qm 15), .long oc])) := eF54
          have hFo_54 : F54 o = .inr (8, [.int 0, .ref (qm 0), .ref (qm 1), .ref (qm 2), .ref (qm 3), .ref (qm 4), .ref (qm 5), .ref (qm 6), .ref (qm 7), .int Pp.1, .ref (qm 8), .ref (qm 9), .ref (qm 10), .ref (qm 11), .ref (qm 12), .ref (qm 13), .ref (qm 14), .int 0, .ref (qm 15), .long oc]) := by rw [eF54]; exact va_up_self _ _ _
          have hFqm0_54 : F54 (qm 0) = cI (cy 1) 10 Mm.1 := by rw [eF54, va_up_ne _ _ (pl_ne hFqm0_46 hFo_46 rfl)]; exact hFqm0_46
          have hFqm1_54 : F54 (qm 1) = cJ (cy 2) 10 Mm.2 := by rw [eF54, va_up_ne _ _ (pl_ne hFqm1_46 hFo_46 rfl)]; exact hFqm1_46
          have hFqm2_54 : F54 (qm 2) = cD (cy 0) 6 Dd.1 := by rw [eF54, va_up_ne _ _ (pl_ne hFqm2_46 hFo_46 rfl)]; exact hFqm2_46
          have hFqm3_54 : F54 (qm 3) = cD (cy 0) 6 Dd.2.1 := by rw [eF54, va_up_ne _ _ (pl_ne hFqm3_46 hFo_46 rfl)]; exact hFqm3_46
          have hFqm4_54 : F54 (qm 4) = cD (cy 0) 6 Dd.2.2.1 := by rw [eF54, va_up_ne _ _ (pl_ne hFqm4_46 hFo_46 rfl)]; exact hFqm4_46
          have hFqm5_54 : F54 (qm 5) = cJ (cy 2) 6 Dd.2.2.2 := by rw [eF54, va_up_ne _ _ (pl_ne hFqm5_46 hFo_46 rfl)]; exact hFqm5_46
          have hFqm6_54 : F54 (qm 6) = cI (cy 1) 8 Sl.1 := by rw [eF54, va_up_ne _ _ (pl_ne hFqm6_46 hFo_46 rfl)]; exact hFqm6_46
          have hFqm7_54 : F54 (qm 7) = cJ (cy 2) 128 Sl.2 := by rw [eF54, va_up_ne _ _ (pl_ne hFqm7_46 hFo_46 rfl)]; exact hFqm7_46
          have hFqm8_54 : F54 (qm 8) = cI (cy 1) 30 Pp.2.1 := by rw [eF54, va_up_ne _ _ (pl_ne hFqm8_46 hFo_46 rfl)]; exact hFqm8_46
          have hFqm9_54 : F54 (qm 9) = cI (cy 3) 30 Pp.2.2 := by rw [eF54, va_up_ne _ _ (pl_ne hFqm9_46 hFo_46 rfl)]; exact hFqm9_46
          have hFqm10_54 : F54 (qm 10) = cI (cy 1) 5 Kr.1 := by rw [eF54, va_up_ne _ _ (pl_ne hFqm10_46 hFo_46 rfl)]; exact hFqm10_46
          have hFqm11_54 : F54 (qm 11) = cI (cy 3) 5 Kr.2.1 := by rw [eF54, va_up_ne _ _ (pl_ne hFqm11_46 hFo_46 rfl)]; exact hFqm11_46
          have hFqm12_54 : F54 (qm 12) = cI (cy 1) 60 Kr.2.2 := by rw [eF54, va_up_ne _ _ (pl_ne hFqm12_46 hFo_46 rfl)]; exact hFqm12_46
          have hFqm13_54 : F54 (qm 13) = cI (cy 1) 4 Bk.1 := by rw [eF54, va_up_ne _ _ (pl_ne hFqm13_46 hFo_46 rfl)]; exact hFqm13_46
          have hFqm14_54 : F54 (qm 14) = cD (cy 0) 4 Bk.2 := by rw [eF54, va_up_ne _ _ (pl_ne hFqm14_46 hFo_46 rfl)]; exact hFqm14_46
          have hFqm15_54 : F54 (qm 15) = cI (cy 1) 6 Xx.2 := by rw [eF54, va_up_ne _ _ (pl_ne hFqm15_46 hFo_46 rfl)]; exact hFqm15_46
          refine lv_aload_n hx hb dX9_slow_47 rfl (lv_at hl 0 rfl) ?_
          refine pg_get (ci := 8) (C := RX9) (T := TX9) (N := 20) hx hb hts hinX9 hown hK hP hmo hFo_54 rfl 17 (by decide) (hts (.fieldLink RX9 65 "RopeDrumsModel" "failed" "I") (by decide +kernel)) (fun _ h9 => h9) rfl dX9_slow_48 ?_
          refine lv_if_ne (tgt := 83) hx hb dX9_slow_51 (by decide) (fun c55 => absurd (by decide) c55) (fun c55 => ?_)
          refine lv_aload_n hx hb dX9_slow_54 rfl (lv_at hl 0 rfl) ?_
          refine lv_aload_n hx hb dX9_slow_55 rfl (lv_at hl 0 rfl) ?_
          refine pg_get (ci := 8) (C := RX9) (T := TX9) (N := 20) hx hb hts hinX9 hown hK hP hmo hFo_54 rfl 15 (by decide) (hts (.fieldLink RX9 52 "RopeDrumsModel" "brakeSort" "[I") (by decide +kernel)) (fun _ h9 => h9) rfl dX9_slow_56 ?_
          refine lv_iload_n hx hb dX9_slow_59 rfl (lv_at hl 1 rfl) ?_
          refine pg_iald hx hb hK hP 1 hm13 hFqm13_54 rfl (vp_in_nI (by omega) (by decide)) dX9_slow_60 ?_
          refine lv_topi (fun v56 ev56 => ?_)
          rw [nI_clamp (by omega)] at ev56
          rw [hbs] at ev56
          subst ev56
          refine lv_if_ne (tgt := 68) hx hb dX9_slow_61 (by decide) (fun c57 => absurd (by decide) c57) (fun c57 => ?_)
          refine lv_iconst (v := 4) hx hb dX9_slow_64 (by decide) ?_
          refine lv_goto (tgt := 69) hx hb dX9_slow_65 (by decide) ?_
          refine lv_aload_n hx hb dX9_slow_69 rfl (lv_at hl 0 rfl) ?_
          refine lv_iload_n hx hb dX9_slow_70 rfl (lv_at hl 2 rfl) ?_
          refine vp_callSd (W.runV (As := [.int (nI j_me)]) (rest := [.int 4, .ref o]) ⟨hx, hb, hml, hown, hts⟩ (c9_asDouble l G cy L F54 o qm 0 Pp.1 0 oc hmo hFo_54 Mm.1 hm0 hFqm0_54 Mm.2 hm1 hFqm1_54 j_me hj_me (hVM j_me hj_me)) (cwV 1 hts gX9_slow_X9_asDouble rfl rfl rfl (by decide +kernel) ⟨Nat.le_of_ble_eq_true rfl, Nat.le_of_ble_eq_true rfl⟩) (preV_of okP (⟨hP, hK, hD.top⟩) (pl_recv hK hP (ci := 8) rfl hmo hFo_54)) rfl rfl hl.1 rfl (lv_room (Nat.le_of_ble_eq_true rfl)) dX9_slow_71 ⟨Nat.le_of_ble_eq_true rfl, Nat.le_of_ble_eq_true rfl⟩) (fun r58 hr58 => ?_)
          subst hr58
          refine lv_aload_n hx hb dX9_slow_74 rfl (lv_at hl 0 rfl) ?_
          refine pg_get (ci := 8) (C := RX9) (T := TX9) (N := 20) hx hb hts hinX9 hown hK hP hmo hFo_54 rfl 16 (by decide) (hts (.fieldLink RX9 55 "RopeDrumsModel" "grip" "[D") (by decide +kernel)) (fun _ h9 => h9) rfl dX9_slow_75 ?_
          refine lv_iload_n hx hb dX9_slow_78 rfl (lv_at hl 1 rfl) ?_
          refine pg_dald hx hb hK hP 0 hm14 hFqm14_54 rfl (vp_in_nI (by omega) (by decide)) dX9_slow_79 ?_
          refine lv_topd (fun v59 ev59 => ?_)
          rw [nI_clamp (by omega)] at ev59
          refine va_callv (va_runV (As := [.int 4, .double (db (tn (Mm.1 j_me) (Mm.2 j_me) 3)), .double v59]) (rest := []) ⟨hx, hb, hml, hown, hts⟩ (c9_rD_4 l G cy L F54 H.size o qm 0 Pp.1 0 oc hmo hFo_54 (db (tn (Mm.1 j_me) (Mm.2 j_me) 3)) v59 (tn3_ok (hVM j_me hj_me)) (by rw [ev59]; exact hgn) (by rw [ev59]; exact hnan)) (cwV 3 hts gX9_slow_X9_reckonDoubles rfl rfl rfl (by decide +kernel) ⟨Nat.le_of_ble_eq_true rfl, Nat.le_of_ble_eq_true rfl⟩) (preV_of okQ (⟨rfl, hP, hK, hD.top⟩) (pl_recv hK hP (ci := 8) rfl hmo hFo_54)) rfl rfl hl.1 rfl (lv_room (Nat.le_of_ble_eq_true rfl)) dX9_slow_80 ⟨Nat.le_of_ble_eq_true rfl, Nat.le_of_ble_eq_true rfl⟩) hS (fun q _ h => pl_free hD hS hA q h) (pl_free hD hS hA) (fun F60 t H1 locs ht hvm hw hP1 hz1 hk1 hS => ?_)
          have hP1 : va_P G vwCl (va_pl L F60) t.heap := hP1
          rw [ht] at hP1
          have hP := hP1
          generalize H1 = H at hP hS ⊢
          have eF60 : F60 = va_up F54 o (.inr (8, [.int 0, .ref (qm 0), .ref (qm 1), .ref (qm 2), .ref (qm 3), .ref (qm 4), .ref (qm 5), .ref (qm 6), .ref (qm 7), .int Pp.1, .ref (qm 8), .ref (qm 9), .ref (qm 10), .ref (qm 11), .ref (qm 12), .ref (qm 13), .ref (qm 14), .int 0, .ref (qm 15), .long ((FP.drem (db (tn (Mm.1 j_me) (Mm.2 j_me) 3)) v59).toInt64)])) := hw
          have hFo_60 : F60 o = .inr (8, [.int 0, .ref (qm 0), .ref (qm 1), .ref (qm 2), .ref (qm 3), .ref (qm 4), .ref (qm 5), .ref (qm 6), .ref (qm 7), .int Pp.1, .ref (qm 8), .ref (qm 9), .ref (qm 10), .ref (qm 11), .ref (qm 12), .ref (qm 13), .ref (qm 14), .int 0, .ref (qm 15), .long ((FP.drem (db (tn (Mm.1 j_me) (Mm.2 j_me) 3)) v59).toInt64)]) := by rw [eF60]; exact va_up_self _ _ _
          have hFqm0_60 : F60 (qm 0) = cI (cy 1) 10 Mm.1 := by rw [eF60, va_up_ne _ _ (pl_ne hFqm0_54 hFo_54 rfl)]; exact hFqm0_54
          have hFqm1_60 : F60 (qm 1) = cJ (cy 2) 10 Mm.2 := by rw [eF60, va_up_ne _ _ (pl_ne hFqm1_54 hFo_54 rfl)]; exact hFqm1_54
          have hFqm2_60 : F60 (qm 2) = cD (cy 0) 6 Dd.1 := by rw [eF60, va_up_ne _ _ (pl_ne hFqm2_54 hFo_54 rfl)]; exact hFqm2_54
          have hFqm3_60 : F60 (qm 3) = cD (cy 0) 6 Dd.2.1 := by rw [eF60, va_up_ne _ _ (pl_ne hFqm3_54 hFo_54 rfl)]; exact hFqm3_54
          have hFqm4_60 : F60 (qm 4) = cD (cy 0) 6 Dd.2.2.1 := by rw [eF60, va_up_ne _ _ (pl_ne hFqm4_54 hFo_54 rfl)]; exact hFqm4_54
          have hFqm5_60 : F60 (qm 5) = cJ (cy 2) 6 Dd.2.2.2 := by rw [eF60, va_up_ne _ _ (pl_ne hFqm5_54 hFo_54 rfl)]; exact hFqm5_54
          have hFqm6_60 : F60 (qm 6) = cI (cy 1) 8 Sl.1 := by rw [eF60, va_up_ne _ _ (pl_ne hFqm6_54 hFo_54 rfl)]; exact hFqm6_54
          have hFqm7_60 : F60 (qm 7) = cJ (cy 2) 128 Sl.2 := by rw [eF60, va_up_ne _ _ (pl_ne hFqm7_54 hFo_54 rfl)]; exact hFqm7_54
          have hFqm8_60 : F60 (qm 8) = cI (cy 1) 30 Pp.2.1 := by rw [eF60, va_up_ne _ _ (pl_ne hFqm8_54 hFo_54 rfl)]; exact hFqm8_54
          have hFqm9_60 : F60 (qm 9) = cI (cy 3) 30 Pp.2.2 := by rw [eF60, va_up_ne _ _ (pl_ne hFqm9_54 hFo_54 rfl)]; exact hFqm9_54
          have hFqm10_60 : F60 (qm 10) = cI (cy 1) 5 Kr.1 := by rw [eF60, va_up_ne _ _ (pl_ne hFqm10_54 hFo_54 rfl)]; exact hFqm10_54
          have hFqm11_60 : F60 (qm 11) = cI (cy 3) 5 Kr.2.1 := by rw [eF60, va_up_ne _ _ (pl_ne hFqm11_54 hFo_54 rfl)]; exact hFqm11_54
          have hFqm12_60 : F60 (qm 12) = cI (cy 1) 60 Kr.2.2 := by rw [eF60, va_up_ne _ _ (pl_ne hFqm12_54 hFo_54 rfl)]; exact hFqm12_54
          have hFqm13_60 : F60 (qm 13) = cI (cy 1) 4 Bk.1 := by rw [eF60, va_up_ne _ _ (pl_ne hFqm13_54 hFo_54 rfl)]; exact hFqm13_54
          have hFqm14_60 : F60 (qm 14) = cD (cy 0) 4 Bk.2 := by rw [eF60, va_up_ne _ _ (pl_ne hFqm14_54 hFo_54 rfl)]; exact hFqm14_54
          have hFqm15_60 : F60 (qm 15) = cI (cy 1) 6 Xx.2 := by rw [eF60, va_up_ne _ _ (pl_ne hFqm15_54 hFo_54 rfl)]; exact hFqm15_54
          refine lv_aload_n hx hb dX9_slow_83 rfl (lv_at hl 0 rfl) ?_
          refine pg_get (ci := 8) (C := RX9) (T := TX9) (N := 20) hx hb hts hinX9 hown hK hP hmo hFo_60 rfl 17 (by decide) (hts (.fieldLink RX9 65 "RopeDrumsModel" "failed" "I") (by decide +kernel)) (fun _ h9 => h9) rfl dX9_slow_84 ?_
          refine lv_if_ne (tgt := 133) hx hb dX9_slow_87 (by decide) (fun c61 => absurd (by decide) c61) (fun c61 => ?_)
          refine lv_aload_n hx hb dX9_slow_90 rfl (lv_at hl 0 rfl) ?_
          refine pg_get (ci := 8) (C := RX9) (T := TX9) (N := 20) hx hb hts hinX9 hown hK hP hmo hFo_60 rfl 2 (by decide) (hts (.fieldLink RX9 13 "RopeDrumsModel" "held" "[J") (by decide +kernel)) (fun _ h9 => h9) rfl dX9_slow_91 ?_
          refine lv_iload_n hx hb dX9_slow_94 rfl (lv_at hl 2 rfl) ?_
          refine lv_aload_n hx hb dX9_slow_95 rfl (lv_at hl 0 rfl) ?_
          refine pg_get (ci := 8) (C := RX9) (T := TX9) (N := 20) hx hb hts hinX9 hown hK hP hmo hFo_60 rfl 15 (by decide) (hts (.fieldLink RX9 52 "RopeDrumsModel" "brakeSort" "[I") (by decide +kernel)) (fun _ h9 => h9) rfl dX9_slow_96 ?_
          refine lv_iload_n hx hb dX9_slow_99 rfl (lv_at hl 1 rfl) ?_
          refine pg_iald hx hb hK hP 1 hm13 hFqm13_60 rfl (vp_in_nI (by omega) (by decide)) dX9_slow_100 ?_
          refine lv_topi (fun v62 ev62 => ?_)
          rw [nI_clamp (by omega)] at ev62
          rw [hbs] at ev62
          subst ev62
          refine lv_if_ne (tgt := 111) hx hb dX9_slow_101 (by decide) (fun c63 => absurd (by decide) c63) (fun c63 => ?_)
          refine lv_aload_n hx hb dX9_slow_104 rfl (lv_at hl 0 rfl) ?_
          refine pg_get (ci := 8) (C := RX9) (T := TX9) (N := 20) hx hb hts hinX9 hown hK hP hmo hFo_60 rfl 19 (by decide) (hts (.fieldLink RX9 131 "RopeDrumsModel" "outcome" "J") (by decide +kernel)) (fun _ h9 => h9) rfl dX9_slow_105 ?_
          refine lv_goto (tgt := 125) hx hb dX9_slow_108 (by decide) ?_
          refine pg_last hx hb hK hP hD hS 2 hm1 hFqm1_60 rfl (vp_in_nI (by omega) (by decide)) dX9_slow_125 (fun H locs F64 eF64 hP hS => ?_)
          rw [nI_clamp (by omega)] at eF64
          have hFo_64 : F64 o = .inr (8, [.int 0, .ref (qm 0), .ref (qm 1), .ref (qm 2), .ref (qm 3), .ref (qm 4), .ref (qm 5), .ref (qm 6), .ref (qm 7), .int Pp.1, .ref (qm 8), .ref (qm 9), .ref (qm 10), .ref (qm 11), .ref (qm 12), .ref (qm 13), .ref (qm 14), .int 0, .ref (qm 15), .long ((FP.drem (db (tn (Mm.1 j_me) (Mm.2 j_me) 3)) v59).toInt64)]) := by rw [eF64, va_up_ne _ _ (pl_ne hFo_60 hFqm1_60 rfl)]; exact hFo_60
          have hFqm0_64 : F64 (qm 0) = cI (cy 1) 10 Mm.1 := by rw [eF64, va_up_ne _ _ (pl_ne hFqm0_60 hFqm1_60 rfl)]; exact hFqm0_60
          have hFqm1_64 : F64 (qm 1) = cJ (cy 2) 10 (vp_updL Mm.2 j_me ((FP.drem (db (tn (Mm.1 j_me) (Mm.2 j_me) 3)) v59).toInt64)) := by rw [eF64]; exact va_up_self _ _ _
          have hFqm2_64 : F64 (qm 2) = cD (cy 0) 6 Dd.1 := by rw [eF64, va_up_ne _ _ (pl_ne hFqm2_60 hFqm1_60 rfl)]; exact hFqm2_60
          have hFqm3_64 : F64 (qm 3) = cD (cy 0) 6 Dd.2.1 := by rw [eF64, va_up_ne _ _ (pl_ne hFqm3_60 hFqm1_60 rfl)]; exact hFqm3_60
          have hFqm4_64 : F64 (qm 4) = cD (cy 0) 6 Dd.2.2.1 := by rw [eF64, va_up_ne _ _ (pl_ne hFqm4_60 hFqm1_60 rfl)]; exact hFqm4_60
          have hFqm5_64 : F64 (qm 5) = cJ (cy 2) 6 Dd.2.2.2 := by rw [eF64, va_up_ne _ _ (pl_ne hFqm5_60 hFqm1_60 rfl)]; exact hFqm5_60
          have hFqm6_64 : F64 (qm 6) = cI (cy 1) 8 Sl.1 := by rw [eF64, va_up_ne _ _ (pl_ne hFqm6_60 hFqm1_60 rfl)]; exact hFqm6_60
          have hFqm7_64 : F64 (qm 7) = cJ (cy 2) 128 Sl.2 := by rw [eF64, va_up_ne _ _ (pl_ne hFqm7_60 hFqm1_60 rfl)]; exact hFqm7_60
          have hFqm8_64 : F64 (qm 8) = cI (cy 1) 30 Pp.2.1 := by rw [eF64, va_up_ne _ _ (pl_ne hFqm8_60 hFqm1_60 rfl)]; exact hFqm8_60
          have hFqm9_64 : F64 (qm 9) = cI (cy 3) 30 Pp.2.2 := by rw [eF64, va_up_ne _ _ (pl_ne hFqm9_60 hFqm1_60 rfl)]; exact hFqm9_60
          have hFqm10_64 : F64 (qm 10) = cI (cy 1) 5 Kr.1 := by rw [eF64, va_up_ne _ _ (pl_ne hFqm10_60 hFqm1_60 rfl)]; exact hFqm10_60
          have hFqm11_64 : F64 (qm 11) = cI (cy 3) 5 Kr.2.1 := by rw [eF64, va_up_ne _ _ (pl_ne hFqm11_60 hFqm1_60 rfl)]; exact hFqm11_60
          have hFqm12_64 : F64 (qm 12) = cI (cy 1) 60 Kr.2.2 := by rw [eF64, va_up_ne _ _ (pl_ne hFqm12_60 hFqm1_60 rfl)]; exact hFqm12_60
          have hFqm13_64 : F64 (qm 13) = cI (cy 1) 4 Bk.1 := by rw [eF64, va_up_ne _ _ (pl_ne hFqm13_60 hFqm1_60 rfl)]; exact hFqm13_60
          have hFqm14_64 : F64 (qm 14) = cD (cy 0) 4 Bk.2 := by rw [eF64, va_up_ne _ _ (pl_ne hFqm14_60 hFqm1_60 rfl)]; exact hFqm14_60
          have hFqm15_64 : F64 (qm 15) = cI (cy 1) 6 Xx.2 := by rw [eF64, va_up_ne _ _ (pl_ne hFqm15_60 hFqm1_60 rfl)]; exact hFqm15_60
          refine lv_aload_n hx hb dX9_slow_126 rfl (lv_at hl 0 rfl) ?_
          refine pg_get (ci := 8) (C := RX9) (T := TX9) (N := 20) hx hb hts hinX9 hown hK hP hmo hFo_64 rfl 1 (by decide) (hts (.fieldLink RX9 7 "RopeDrumsModel" "laneOf" "[I") (by decide +kernel)) (fun _ h9 => h9) rfl dX9_slow_127 ?_
          refine lv_iload_n hx hb dX9_slow_130 rfl (lv_at hl 2 rfl) ?_
          refine lv_iconst (v := 3) hx hb dX9_slow_131 (by decide) ?_
          refine pg_iast hx hb hK hP hD hS 1 hm0 hFqm0_64 rfl (vp_in_nI (by omega) (by decide)) dX9_slow_132 (fun H locs F65 eF65 hP hS => ?_)
          rw [nI_clamp (by omega)] at eF65
          have hFo_65 : F65 o = .inr (8, [.int 0, .ref (qm 0), .ref (qm 1), .ref (qm 2), .ref (qm 3), .ref (qm 4), .ref (qm 5), .ref (qm 6), .ref (qm 7), .int Pp.1, .ref (qm 8), .ref (qm 9), .ref (qm 10), .ref (qm 11), .ref (qm 12), .ref (qm 13), .ref (qm 14), .int 0, .ref (qm 15), .long ((FP.drem (db (tn (Mm.1 j_me) (Mm.2 j_me) 3)) v59).toInt64)]) := by rw [eF65, va_up_ne _ _ (pl_ne hFo_64 hFqm0_64 rfl)]; exact hFo_64
          have hFqm0_65 : F65 (qm 0) = cI (cy 1) 10 (upd Mm.1 j_me 3) := by rw [eF65]; exact va_up_self _ _ _
          have hFqm1_65 : F65 (qm 1) = cJ (cy 2) 10 (vp_updL Mm.2 j_me ((FP.drem (db (tn (Mm.1 j_me) (Mm.2 j_me) 3)) v59).toInt64)) := by rw [eF65, va_up_ne _ _ (pl_ne hFqm1_64 hFqm0_64 rfl)]; exact hFqm1_64
          have hFqm2_65 : F65 (qm 2) = cD (cy 0) 6 Dd.1 := by rw [eF65, va_up_ne _ _ (pl_ne hFqm2_64 hFqm0_64 rfl)]; exact hFqm2_64
          have hFqm3_65 : F65 (qm 3) = cD (cy 0) 6 Dd.2.1 := by rw [eF65, va_up_ne _ _ (pl_ne hFqm3_64 hFqm0_64 rfl)]; exact hFqm3_64
          have hFqm4_65 : F65 (qm 4) = cD (cy 0) 6 Dd.2.2.1 := by rw [eF65, va_up_ne _ _ (pl_ne hFqm4_64 hFqm0_64 rfl)]; exact hFqm4_64
          have hFqm5_65 : F65 (qm 5) = cJ (cy 2) 6 Dd.2.2.2 := by rw [eF65, va_up_ne _ _ (pl_ne hFqm5_64 hFqm0_64 rfl)]; exact hFqm5_64
          have hFqm6_65 : F65 (qm 6) = cI (cy 1) 8 Sl.1 := by rw [eF65, va_up_ne _ _ (pl_ne hFqm6_64 hFqm0_64 rfl)]; exact hFqm6_64
          have hFqm7_65 : F65 (qm 7) = cJ (cy 2) 128 Sl.2 := by rw [eF65, va_up_ne _ _ (pl_ne hFqm7_64 hFqm0_64 rfl)]; exact hFqm7_64
          have hFqm8_65 : F65 (qm 8) = cI (cy 1) 30 Pp.2.1 := by rw [eF65, va_up_ne _ _ (pl_ne hFqm8_64 hFqm0_64 rfl)]; exact hFqm8_64
          have hFqm9_65 : F65 (qm 9) = cI (cy 3) 30 Pp.2.2 := by rw [eF65, va_up_ne _ _ (pl_ne hFqm9_64 hFqm0_64 rfl)]; exact hFqm9_64
          have hFqm10_65 : F65 (qm 10) = cI (cy 1) 5 Kr.1 := by rw [eF65, va_up_ne _ _ (pl_ne hFqm10_64 hFqm0_64 rfl)]; exact hFqm10_64
          have hFqm11_65 : F65 (qm 11) = cI (cy 3) 5 Kr.2.1 := by rw [eF65, va_up_ne _ _ (pl_ne hFqm11_64 hFqm0_64 rfl)]; exact hFqm11_64
          have hFqm12_65 : F65 (qm 12) = cI (cy 1) 60 Kr.2.2 := by rw [eF65, va_up_ne _ _ (pl_ne hFqm12_64 hFqm0_64 rfl)]; exact hFqm12_64
          have hFqm13_65 : F65 (qm 13) = cI (cy 1) 4 Bk.1 := by rw [eF65, va_up_ne _ _ (pl_ne hFqm13_64 hFqm0_64 rfl)]; exact hFqm13_64
          have hFqm14_65 : F65 (qm 14) = cD (cy 0) 4 Bk.2 := by rw [eF65, va_up_ne _ _ (pl_ne hFqm14_64 hFqm0_64 rfl)]; exact hFqm14_64
          have hFqm15_65 : F65 (qm 15) = cI (cy 1) 6 Xx.2 := by rw [eF65, va_up_ne _ _ (pl_ne hFqm15_64 hFqm0_64 rfl)]; exact hFqm15_64
          refine lv_aload_n hx hb dX9_slow_133 rfl (lv_at hl 0 rfl) ?_
          refine lv_iconst (v := 1) hx hb dX9_slow_134 (by decide) ?_
          refine va_calli (va_runV (As := [.int 1]) (rest := []) ⟨hx, hb, hml, hown, hts⟩ (c9_answers_0 l G cy L F65 H.size o qm 0 Pp.1 ((FP.drem (db (tn (Mm.1 j_me) (Mm.2 j_me) 3)) v59).toInt64) hmo hFo_65 Xx.2 hm15 hFqm15_65 1) (cwV 1 hts gX9_slow_X9_answers rfl rfl rfl (by decide +kernel) ⟨Nat.le_of_ble_eq_true rfl, Nat.le_of_ble_eq_true rfl⟩) (preV_of okQ (⟨rfl, hP, hK, hD.top⟩) (pl_recv hK hP (ci := 8) rfl hmo hFo_65)) rfl rfl hl.1 rfl (lv_room (Nat.le_of_ble_eq_true rfl)) dX9_slow_135 ⟨Nat.le_of_ble_eq_true rfl, Nat.le_of_ble_eq_true rfl⟩) hS (fun q _ h => pl_free hD hS hA q h) (pl_free hD hS hA) (fun r67 F66 t H1 locs ht hvm hw hP1 hz1 hk1 hS => ?_)
          have hP1 : va_P G vwCl (va_pl L F66) t.heap := hP1
          rw [ht] at hP1
          have hP := hP1
          generalize H1 = H at hP hS ⊢
          obtain ⟨hqr67, eF66⟩ := hw
          have hFo_F66 : F66 o = .inr (8, [.int 0, .ref (qm 0), .ref (qm 1), .ref (qm 2), .ref (qm 3), .ref (qm 4), .ref (qm 5), .ref (qm 6), .ref (qm 7), .int Pp.1, .ref (qm 8), .ref (qm 9), .ref (qm 10), .ref (qm 11), .ref (qm 12), .ref (qm 13), .ref (qm 14), .int 0, .ref (qm 15), .long ((FP.drem (db (tn (Mm.1 j_me) (Mm.2 j_me) 3)) v59).toInt64)]) := by rw [eF66]; exact hFo_65
          have hFqm0_F66 : F66 (qm 0) = cI (cy 1) 10 (upd Mm.1 j_me 3) := by rw [eF66]; exact hFqm0_65
          have hFqm1_F66 : F66 (qm 1) = cJ (cy 2) 10 (vp_updL Mm.2 j_me ((FP.drem (db (tn (Mm.1 j_me) (Mm.2 j_me) 3)) v59).toInt64)) := by rw [eF66]; exact hFqm1_65
          have hFqm2_F66 : F66 (qm 2) = cD (cy 0) 6 Dd.1 := by rw [eF66]; exact hFqm2_65
          have hFqm3_F66 : F66 (qm 3) = cD (cy 0) 6 Dd.2.1 := by rw [eF66]; exact hFqm3_65
          have hFqm4_F66 : F66 (qm 4) = cD (cy 0) 6 Dd.2.2.1 := by rw [eF66]; exact hFqm4_65
          have hFqm5_F66 : F66 (qm 5) = cJ (cy 2) 6 Dd.2.2.2 := by rw [eF66]; exact hFqm5_65
          have hFqm6_F66 : F66 (qm 6) = cI (cy 1) 8 Sl.1 := by rw [eF66]; exact hFqm6_65
          have hFqm7_F66 : F66 (qm 7) = cJ (cy 2) 128 Sl.2 := by rw [eF66]; exact hFqm7_65
          have hFqm8_F66 : F66 (qm 8) = cI (cy 1) 30 Pp.2.1 := by rw [eF66]; exact hFqm8_65
          have hFqm9_F66 : F66 (qm 9) = cI (cy 3) 30 Pp.2.2 := by rw [eF66]; exact hFqm9_65
          have hFqm10_F66 : F66 (qm 10) = cI (cy 1) 5 Kr.1 := by rw [eF66]; exact hFqm10_65
          have hFqm11_F66 : F66 (qm 11) = cI (cy 3) 5 Kr.2.1 := by rw [eF66]; exact hFqm11_65
          have hFqm12_F66 : F66 (qm 12) = cI (cy 1) 60 Kr.2.2 := by rw [eF66]; exact hFqm12_65
          have hFqm13_F66 : F66 (qm 13) = cI (cy 1) 4 Bk.1 := by rw [eF66]; exact hFqm13_65
          have hFqm14_F66 : F66 (qm 14) = cD (cy 0) 4 Bk.2 := by rw [eF66]; exact hFqm14_65
          have hFqm15_F66 : F66 (qm 15) = cI (cy 1) 6 Xx.2 := by rw [eF66]; exact hFqm15_65
          have hr67 := hqr67
          exact W.iret (v := r67) hx hb hr (fun t ht hW => ⟨⟨r67, F66, rfl, (by subst hr67 ev59 ev47; have hsp : sp_slow Mm Bk Xx (nI j_br) (nI j_me) = (1, setM Mm j_me 3 (FP.drem (db (tn (Mm.1 j_me) (Mm.2 j_me) 3)) (Bk.2 j_br)).toInt64, goodX Xx) := (by unfold sp_slow; rw [hi_br, hi_me]; show slw _ _ _ _ _ _ = _; unfold slw; rw [hbs]; exact (if_neg (by decide)).trans ((if_pos rfl).trans (if_neg (by rw [hnan]; decide)))); rw [hsp]; exact ⟨rfl, (by exact ⟨⟨_, _, hmo, hFo_F66⟩, ⟨hm0, hFqm0_F66⟩, ⟨hm1, hFqm1_F66⟩, ⟨hm2, hFqm2_F66⟩, ⟨hm3, hFqm3_F66⟩, ⟨hm4, hFqm4_F66⟩, ⟨hm5, hFqm5_F66⟩, ⟨hm6, hFqm6_F66⟩, ⟨hm7, hFqm7_F66⟩, ⟨hm8, hFqm8_F66⟩, ⟨hm9, hFqm9_F66⟩, ⟨hm10, hFqm10_F66⟩, ⟨hm11, hFqm11_F66⟩, ⟨hm12, hFqm12_F66⟩, ⟨hm13, hFqm13_F66⟩, ⟨hm14, hFqm14_F66⟩, ⟨hm15, hFqm15_F66⟩, hne⟩)⟩), (by show va_P _ _ _ t.heap; rw [ht]; exact hP)⟩, hS.F ht⟩) hS.2.2 dX9_slow_138
      · by_cases hnan0 : FP.Core.dIsNaN (FP.ddiv (db (tn (Mm.1 j_me) (Mm.2 j_me) 3)) (Bk.2 j_br)) = true
        · have hnan : FP.Core.dIsNaN (FP.ddiv (db (tn (Mm.1 j_me) (Mm.2 j_me) 3)) (Bk.2 j_br)) = true := hnan0
          refine lv_aload_n hx hb dX9_slow_0 rfl (lv_at hl 0 rfl) ?_
          refine lv_iconst (v := 0) hx hb dX9_slow_1 (by decide) ?_
          refine pg_put (ci := 8) (v := .int 0) (ty := .int) (C := RX9) (T := TX9) (N := 20) hx hb hts hinX9 tyX9 tyX9_ok nmX9 hown hK hP hD hS hmo hFo rfl 0 (by decide) (hts (.fieldLink RX9 61 "RopeDrumsModel" "thrown" "I") (by decide +kernel)) (fun _ h9 => h9) rfl (by decide +kernel) (rfl) (rfl) (Nat.le_of_ble_eq_true rfl) dX9_slow_2 (fun H locs F68 eF68 hP hS => ?_)
          have eF68 : F68 = va_up F o (.inr (8, [.int 0, .ref (qm 0), .ref (qm 1), .ref (qm 2), .ref (qm 3), .ref (qm 4), .ref (qm 5), .ref (qm 6), .ref (qm 7), .int Pp.1, .ref (qm 8), .ref (qm 9), .ref (qm 10), .ref (qm 11), .ref (qm 12), .ref (qm 13), .ref (qm 14), .int Xx.1, .ref (qm 15), .long oc])) := eF68
          have hFo_68 : F68 o = .inr (8, [.int 0, .ref (qm 0), .ref (qm 1), .ref (qm 2), .ref (qm 3), .ref (qm 4), .ref (qm 5), .ref (qm 6), .ref (qm 7), .int Pp.1, .ref (qm 8), .ref (qm 9), .ref (qm 10), .ref (qm 11), .ref (qm 12), .ref (qm 13), .ref (qm 14), .int Xx.1, .ref (qm 15), .long oc]) := by rw [eF68]; exact va_up_self _ _ _
          have hFqm0_68 : F68 (qm 0) = cI (cy 1) 10 Mm.1 := by rw [eF68, va_up_ne _ _ (pl_ne hF0 hFo rfl)]; exact hF0
          have hFqm1_68 : F68 (qm 1) = cJ (cy 2) 10 Mm.2 := by rw [eF68, va_up_ne _ _ (pl_ne hF1 hFo rfl)]; exact hF1
          have hFqm2_68 : F68 (qm 2) = cD (cy 0) 6 Dd.1 := by rw [eF68, va_up_ne _ _ (pl_ne hF2 hFo rfl)]; exact hF2
          have hFqm3_68 : F68 (qm 3) = cD (cy 0) 6 Dd.2.1 := by rw [eF68, va_up_ne _ _ (pl_ne hF3 hFo rfl)]; exact hF3
          have hFqm4_68 : F68 (qm 4) = cD (cy 0) 6 Dd.2.2.1 := by rw [eF68, va_up_ne _ _ (pl_ne hF4 hFo rfl)]; exact hF4
          have hFqm5_68 : F68 (qm 5) = cJ (cy 2) 6 Dd.2.2.2 := by rw [eF68, va_up_ne _ _ (pl_ne hF5 hFo rfl)]; exact hF5
          have hFqm6_68 : F68 (qm 6) = cI (cy 1) 8 Sl.1 := by rw [eF68, va_up_ne _ _ (pl_ne hF6 hFo rfl)]; exact hF6
          have hFqm7_68 : F68 (qm 7) = cJ (cy 2) 128 Sl.2 := by rw [eF68, va_up_ne _ _ (pl_ne hF7 hFo rfl)]; exact hF7
          have hFqm8_68 : F68 (qm 8) = cI (cy 1) 30 Pp.2.1 := by rw [eF68, va_up_ne _ _ (pl_ne hF8 hFo rfl)]; exact hF8
          have hFqm9_68 : F68 (qm 9) = cI (cy 3) 30 Pp.2.2 := by rw [eF68, va_up_ne _ _ (pl_ne hF9 hFo rfl)]; exact hF9
          have hFqm10_68 : F68 (qm 10) = cI (cy 1) 5 Kr.1 := by rw [eF68, va_up_ne _ _ (pl_ne hF10 hFo rfl)]; exact hF10
          have hFqm11_68 : F68 (qm 11) = cI (cy 3) 5 Kr.2.1 := by rw [eF68, va_up_ne _ _ (pl_ne hF11 hFo rfl)]; exact hF11
          have hFqm12_68 : F68 (qm 12) = cI (cy 1) 60 Kr.2.2 := by rw [eF68, va_up_ne _ _ (pl_ne hF12 hFo rfl)]; exact hF12
          have hFqm13_68 : F68 (qm 13) = cI (cy 1) 4 Bk.1 := by rw [eF68, va_up_ne _ _ (pl_ne hF13 hFo rfl)]; exact hF13
          have hFqm14_68 : F68 (qm 14) = cD (cy 0) 4 Bk.2 := by rw [eF68, va_up_ne _ _ (pl_ne hF14 hFo rfl)]; exact hF14
          have hFqm15_68 : F68 (qm 15) = cI (cy 1) 6 Xx.2 := by rw [eF68, va_up_ne _ _ (pl_ne hF15 hFo rfl)]; exact hF15
          refine lv_iload_n hx hb dX9_slow_5 rfl (lv_at hl 1 rfl) ?_
          refine lv_i2l hx hb dX9_slow_6 rfl ?_
          refine lv_topl (fun v69 ev69 => ?_)
          refine lv_lconst (v := 0) hx hb dX9_slow_7 (by decide) ?_
          refine lv_ldc2 hx hb hown (hts (.constantLong RX9 123 (3)) (by decide +kernel)) dX9_slow_8 ?_
          refine vp_callSi (W.runS (As := [.long v69, .long 0, .long 3]) (rest := []) ⟨hx, hb, hml, hown, hts⟩ (c9_in l v69 0 3) (va_cwS 3 hts gX9_slow_X9_in rfl rfl rfl (by decide +kernel) ⟨Nat.le_of_ble_eq_true rfl, Nat.le_of_ble_eq_true rfl⟩) (preS_of okT (trivial)) rfl rfl hl.1 rfl (lv_room (Nat.le_of_ble_eq_true rfl)) dX9_slow_11 ⟨Nat.le_of_ble_eq_true rfl, Nat.le_of_ble_eq_true rfl⟩) (fun r70 hr70 => ?_)
          have hzr70 : r70 = 1 := by rw [hr70, ev69, inq_i (y := 0) (z := 3) (by decide) (by decide)]; exact if_pos (by rw [nI_toInt (by omega)]; omega)
          subst hzr70
          refine lv_if_eq (tgt := 24) hx hb dX9_slow_14 (by decide) (fun c71 => absurd c71 (by decide)) (fun c71 => ?_)
          refine lv_iload_n hx hb dX9_slow_17 rfl (lv_at hl 2 rfl) ?_
          refine vp_callSi (W.runS (As := [.int (nI j_me)]) (rest := []) ⟨hx, hb, hml, hown, hts⟩ (c9_isMeter l (nI j_me)) (va_cwS 1 hts gX9_slow_X9_isMeter rfl rfl rfl (by decide +kernel) ⟨Nat.le_of_ble_eq_true rfl, Nat.le_of_ble_eq_true rfl⟩) (preS_of okT (trivial)) rfl rfl hl.1 rfl (lv_room (Nat.le_of_ble_eq_true rfl)) dX9_slow_18 ⟨Nat.le_of_ble_eq_true rfl, Nat.le_of_ble_eq_true rfl⟩) (fun r72 hr72 => ?_)
          rw [isx1 hi_me] at hr72
          subst hr72
          refine lv_if_ne (tgt := 28) hx hb dX9_slow_21 (by decide) (fun c73 => ?_) (fun c73 => absurd c73 (by decide))
          refine lv_aload_n hx hb dX9_slow_28 rfl (lv_at hl 0 rfl) ?_
          refine lv_aload_n hx hb dX9_slow_29 rfl (lv_at hl 0 rfl) ?_
          refine pg_get (ci := 8) (C := RX9) (T := TX9) (N := 20) hx hb hts hinX9 hown hK hP hmo hFo_68 rfl 15 (by decide) (hts (.fieldLink RX9 52 "RopeDrumsModel" "brakeSort" "[I") (by decide +kernel)) (fun _ h9 => h9) rfl dX9_slow_30 ?_
          refine lv_iload_n hx hb dX9_slow_33 rfl (lv_at hl 1 rfl) ?_
          refine pg_iald hx hb hK hP 1 hm13 hFqm13_68 rfl (vp_in_nI (by omega) (by decide)) dX9_slow_34 ?_
          refine lv_topi (fun v74 ev74 => ?_)
          rw [nI_clamp (by omega)] at ev74
          rw [hbs] at ev74
          subst ev74
          refine lv_iconst (v := 2) hx hb dX9_slow_35 (by decide) ?_
          refine lv_icmp_ne (tgt := 43) hx hb dX9_slow_36 (by decide) (fun c75 => ?_) (fun c75 => absurd c75 (by decide))
          refine lv_iconst (v := 0) hx hb dX9_slow_43 (by decide) ?_
          refine pg_put (ci := 8) (v := .int 0) (ty := .int) (C := RX9) (T := TX9) (N := 20) hx hb hts hinX9 tyX9 tyX9_ok nmX9 hown hK hP hD hS hmo hFo_68 rfl 17 (by decide) (hts (.fieldLink RX9 65 "RopeDrumsModel" "failed" "I") (by decide +kernel)) (fun _ h9 => h9) rfl (by decide +kernel) (rfl) (rfl) (Nat.le_of_ble_eq_true rfl) dX9_slow_44 (fun H locs F76 eF76 hP hS => ?_)
          have eF76 : F76 = va_up F68 o (.inr (8, [.int 0, .ref (qm 0), .ref (qm 1), .ref (qm 2), .ref (qm 3), .ref (qm 4), .ref (qm 5), .ref (qm 6), .ref (qm 7), .int Pp.1, .ref (qm 8), .ref (qm 9), .ref (qm 10), .ref (qm 11), .ref (qm 12), .ref (qm 13), .ref (qm 14), .int 0, .ref (qm 15), .long oc])) := eF76
          have hFo_76 : F76 o = .inr (8, [.int 0, .ref (qm 0), .ref (qm 1), .ref (qm 2), .ref (qm 3), .ref (qm 4), .ref (qm 5), .ref (qm 6), .ref (qm 7), .int Pp.1, .ref (qm 8), .ref (qm 9), .ref (qm 10), .ref (qm 11), .ref (qm 12), .ref (qm 13), .ref (qm 14), .int 0, .ref (qm 15), .long oc]) := by rw [eF76]; exact va_up_self _ _ _
          have hFqm0_76 : F76 (qm 0) = cI (cy 1) 10 Mm.1 := by rw [eF76, va_up_ne _ _ (pl_ne hFqm0_68 hFo_68 rfl)]; exact hFqm0_68
          have hFqm1_76 : F76 (qm 1) = cJ (cy 2) 10 Mm.2 := by rw [eF76, va_up_ne _ _ (pl_ne hFqm1_68 hFo_68 rfl)]; exact hFqm1_68
          have hFqm2_76 : F76 (qm 2) = cD (cy 0) 6 Dd.1 := by rw [eF76, va_up_ne _ _ (pl_ne hFqm2_68 hFo_68 rfl)]; exact hFqm2_68
          have hFqm3_76 : F76 (qm 3) = cD (cy 0) 6 Dd.2.1 := by rw [eF76, va_up_ne _ _ (pl_ne hFqm3_68 hFo_68 rfl)]; exact hFqm3_68
          have hFqm4_76 : F76 (qm 4) = cD (cy 0) 6 Dd.2.2.1 := by rw [eF76, va_up_ne _ _ (pl_ne hFqm4_68 hFo_68 rfl)]; exact hFqm4_68
          have hFqm5_76 : F76 (qm 5) = cJ (cy 2) 6 Dd.2.2.2 := by rw [eF76, va_up_ne _ _ (pl_ne hFqm5_68 hFo_68 rfl)]; exact hFqm5_68
          have hFqm6_76 : F76 (qm 6) = cI (cy 1) 8 Sl.1 := by rw [eF76, va_up_ne _ _ (pl_ne hFqm6_68 hFo_68 rfl)]; exact hFqm6_68
          have hFqm7_76 : F76 (qm 7) = cJ (cy 2) 128 Sl.2 := by rw [eF76, va_up_ne _ _ (pl_ne hFqm7_68 hFo_68 rfl)]; exact hFqm7_68
          have hFqm8_76 : F76 (qm 8) = cI (cy 1) 30 Pp.2.1 := by rw [eF76, va_up_ne _ _ (pl_ne hFqm8_68 hFo_68 rfl)]; exact hFqm8_68
          have hFqm9_76 : F76 (qm 9) = cI (cy 3) 30 Pp.2.2 := by rw [eF76, va_up_ne _ _ (pl_ne hFqm9_68 hFo_68 rfl)]; exact hFqm9_68
          have hFqm10_76 : F76 (qm 10) = cI (cy 1) 5 Kr.1 := by rw [eF76, va_up_ne _ _ (pl_ne hFqm10_68 hFo_68 rfl)]; exact hFqm10_68
          have hFqm11_76 : F76 (qm 11) = cI (cy 3) 5 Kr.2.1 := by rw [eF76, va_up_ne _ _ (pl_ne hFqm11_68 hFo_68 rfl)]; exact hFqm11_68
          have hFqm12_76 : F76 (qm 12) = cI (cy 1) 60 Kr.2.2 := by rw [eF76, va_up_ne _ _ (pl_ne hFqm12_68 hFo_68 rfl)]; exact hFqm12_68
          have hFqm13_76 : F76 (qm 13) = cI (cy 1) 4 Bk.1 := by rw [eF76, va_up_ne _ _ (pl_ne hFqm13_68 hFo_68 rfl)]; exact hFqm13_68
          have hFqm14_76 : F76 (qm 14) = cD (cy 0) 4 Bk.2 := by rw [eF76, va_up_ne _ _ (pl_ne hFqm14_68 hFo_68 rfl)]; exact hFqm14_68
          have hFqm15_76 : F76 (qm 15) = cI (cy 1) 6 Xx.2 := by rw [eF76, va_up_ne _ _ (pl_ne hFqm15_68 hFo_68 rfl)]; exact hFqm15_68
          refine lv_aload_n hx hb dX9_slow_47 rfl (lv_at hl 0 rfl) ?_
          refine pg_get (ci := 8) (C := RX9) (T := TX9) (N := 20) hx hb hts hinX9 hown hK hP hmo hFo_76 rfl 17 (by decide) (hts (.fieldLink RX9 65 "RopeDrumsModel" "failed" "I") (by decide +kernel)) (fun _ h9 => h9) rfl dX9_slow_48 ?_
          refine lv_if_ne (tgt := 83) hx hb dX9_slow_51 (by decide) (fun c77 => absurd (by decide) c77) (fun c77 => ?_)
          refine lv_aload_n hx hb dX9_slow_54 rfl (lv_at hl 0 rfl) ?_
          refine lv_aload_n hx hb dX9_slow_55 rfl (lv_at hl 0 rfl) ?_
          refine pg_get (ci := 8) (C := RX9) (T := TX9) (N := 20) hx hb hts hinX9 hown hK hP hmo hFo_76 rfl 15 (by decide) (hts (.fieldLink RX9 52 "RopeDrumsModel" "brakeSort" "[I") (by decide +kernel)) (fun _ h9 => h9) rfl dX9_slow_56 ?_
          refine lv_iload_n hx hb dX9_slow_59 rfl (lv_at hl 1 rfl) ?_
          refine pg_iald hx hb hK hP 1 hm13 hFqm13_76 rfl (vp_in_nI (by omega) (by decide)) dX9_slow_60 ?_
          refine lv_topi (fun v78 ev78 => ?_)
          rw [nI_clamp (by omega)] at ev78
          rw [hbs] at ev78
          subst ev78
          refine lv_if_ne (tgt := 68) hx hb dX9_slow_61 (by decide) (fun c79 => ?_) (fun c79 => absurd c79 (by decide))
          refine lv_iconst (v := 3) hx hb dX9_slow_68 (by decide) ?_
          refine lv_aload_n hx hb dX9_slow_69 rfl (lv_at hl 0 rfl) ?_
          refine lv_iload_n hx hb dX9_slow_70 rfl (lv_at hl 2 rfl) ?_
          refine vp_callSd (W.runV (As := [.int (nI j_me)]) (rest := [.int 3, .ref o]) ⟨hx, hb, hml, hown, hts⟩ (c9_asDouble l G cy L F76 o qm 0 Pp.1 0 oc hmo hFo_76 Mm.1 hm0 hFqm0_76 Mm.2 hm1 hFqm1_76 j_me hj_me (hVM j_me hj_me)) (cwV 1 hts gX9_slow_X9_asDouble rfl rfl rfl (by decide +kernel) ⟨Nat.le_of_ble_eq_true rfl, Nat.le_of_ble_eq_true rfl⟩) (preV_of okP (⟨hP, hK, hD.top⟩) (pl_recv hK hP (ci := 8) rfl hmo hFo_76)) rfl rfl hl.1 rfl (lv_room (Nat.le_of_ble_eq_true rfl)) dX9_slow_71 ⟨Nat.le_of_ble_eq_true rfl, Nat.le_of_ble_eq_true rfl⟩) (fun r80 hr80 => ?_)
          subst hr80
          refine lv_aload_n hx hb dX9_slow_74 rfl (lv_at hl 0 rfl) ?_
          refine pg_get (ci := 8) (C := RX9) (T := TX9) (N := 20) hx hb hts hinX9 hown hK hP hmo hFo_76 rfl 16 (by decide) (hts (.fieldLink RX9 55 "RopeDrumsModel" "grip" "[D") (by decide +kernel)) (fun _ h9 => h9) rfl dX9_slow_75 ?_
          refine lv_iload_n hx hb dX9_slow_78 rfl (lv_at hl 1 rfl) ?_
          refine pg_dald hx hb hK hP 0 hm14 hFqm14_76 rfl (vp_in_nI (by omega) (by decide)) dX9_slow_79 ?_
          refine lv_topd (fun v81 ev81 => ?_)
          rw [nI_clamp (by omega)] at ev81
          refine va_callv (va_runV (As := [.int 3, .double (db (tn (Mm.1 j_me) (Mm.2 j_me) 3)), .double v81]) (rest := []) ⟨hx, hb, hml, hown, hts⟩ (c9_rD_3_no l G cy L F76 H.size o qm 0 Pp.1 0 oc hmo hFo_76 (db (tn (Mm.1 j_me) (Mm.2 j_me) 3)) v81 (tn3_ok (hVM j_me hj_me)) (by rw [ev81]; exact hgn) (by rw [ev81]; exact hnan)) (cwV 3 hts gX9_slow_X9_reckonDoubles rfl rfl rfl (by decide +kernel) ⟨Nat.le_of_ble_eq_true rfl, Nat.le_of_ble_eq_true rfl⟩) (preV_of okQ (⟨rfl, hP, hK, hD.top⟩) (pl_recv hK hP (ci := 8) rfl hmo hFo_76)) rfl rfl hl.1 rfl (lv_room (Nat.le_of_ble_eq_true rfl)) dX9_slow_80 ⟨Nat.le_of_ble_eq_true rfl, Nat.le_of_ble_eq_true rfl⟩) hS (fun q _ h => pl_free hD hS hA q h) (pl_free hD hS hA) (fun F82 t H1 locs ht hvm hw hP1 hz1 hk1 hS => ?_)
          have hP1 : va_P G vwCl (va_pl L F82) t.heap := hP1
          rw [ht] at hP1
          have hP := hP1
          generalize H1 = H at hP hS ⊢
          have eF82 : F82 = va_up F76 o (.inr (8, [.int 0, .ref (qm 0), .ref (qm 1), .ref (qm 2), .ref (qm 3), .ref (qm 4), .ref (qm 5), .ref (qm 6), .ref (qm 7), .int Pp.1, .ref (qm 8), .ref (qm 9), .ref (qm 10), .ref (qm 11), .ref (qm 12), .ref (qm 13), .ref (qm 14), .int 5, .ref (qm 15), .long oc])) := hw
          have hFo_82 : F82 o = .inr (8, [.int 0, .ref (qm 0), .ref (qm 1), .ref (qm 2), .ref (qm 3), .ref (qm 4), .ref (qm 5), .ref (qm 6), .ref (qm 7), .int Pp.1, .ref (qm 8), .ref (qm 9), .ref (qm 10), .ref (qm 11), .ref (qm 12), .ref (qm 13), .ref (qm 14), .int 5, .ref (qm 15), .long oc]) := by rw [eF82]; exact va_up_self _ _ _
          have hFqm0_82 : F82 (qm 0) = cI (cy 1) 10 Mm.1 := by rw [eF82, va_up_ne _ _ (pl_ne hFqm0_76 hFo_76 rfl)]; exact hFqm0_76
          have hFqm1_82 : F82 (qm 1) = cJ (cy 2) 10 Mm.2 := by rw [eF82, va_up_ne _ _ (pl_ne hFqm1_76 hFo_76 rfl)]; exact hFqm1_76
          have hFqm2_82 : F82 (qm 2) = cD (cy 0) 6 Dd.1 := by rw [eF82, va_up_ne _ _ (pl_ne hFqm2_76 hFo_76 rfl)]; exact hFqm2_76
          have hFqm3_82 : F82 (qm 3) = cD (cy 0) 6 Dd.2.1 := by rw [eF82, va_up_ne _ _ (pl_ne hFqm3_76 hFo_76 rfl)]; exact hFqm3_76
          have hFqm4_82 : F82 (qm 4) = cD (cy 0) 6 Dd.2.2.1 := by rw [eF82, va_up_ne _ _ (pl_ne hFqm4_76 hFo_76 rfl)]; exact hFqm4_76
          have hFqm5_82 : F82 (qm 5) = cJ (cy 2) 6 Dd.2.2.2 := by rw [eF82, va_up_ne _ _ (pl_ne hFqm5_76 hFo_76 rfl)]; exact hFqm5_76
          have hFqm6_82 : F82 (qm 6) = cI (cy 1) 8 Sl.1 := by rw [eF82, va_up_ne _ _ (pl_ne hFqm6_76 hFo_76 rfl)]; exact hFqm6_76
          have hFqm7_82 : F82 (qm 7) = cJ (cy 2) 128 Sl.2 := by rw [eF82, va_up_ne _ _ (pl_ne hFqm7_76 hFo_76 rfl)]; exact hFqm7_76
          have hFqm8_82 : F82 (qm 8) = cI (cy 1) 30 Pp.2.1 := by rw [eF82, va_up_ne _ _ (pl_ne hFqm8_76 hFo_76 rfl)]; exact hFqm8_76
          have hFqm9_82 : F82 (qm 9) = cI (cy 3) 30 Pp.2.2 := by rw [eF82, va_up_ne _ _ (pl_ne hFqm9_76 hFo_76 rfl)]; exact hFqm9_76
          have hFqm10_82 : F82 (qm 10) = cI (cy 1) 5 Kr.1 := by rw [eF82, va_up_ne _ _ (pl_ne hFqm10_76 hFo_76 rfl)]; exact hFqm10_76
          have hFqm11_82 : F82 (qm 11) = cI (cy 3) 5 Kr.2.1 := by rw [eF82, va_up_ne _ _ (pl_ne hFqm11_76 hFo_76 rfl)]; exact hFqm11_76
          have hFqm12_82 : F82 (qm 12) = cI (cy 1) 60 Kr.2.2 := by rw [eF82, va_up_ne _ _ (pl_ne hFqm12_76 hFo_76 rfl)]; exact hFqm12_76
          have hFqm13_82 : F82 (qm 13) = cI (cy 1) 4 Bk.1 := by rw [eF82, va_up_ne _ _ (pl_ne hFqm13_76 hFo_76 rfl)]; exact hFqm13_76
          have hFqm14_82 : F82 (qm 14) = cD (cy 0) 4 Bk.2 := by rw [eF82, va_up_ne _ _ (pl_ne hFqm14_76 hFo_76 rfl)]; exact hFqm14_76
          have hFqm15_82 : F82 (qm 15) = cI (cy 1) 6 Xx.2 := by rw [eF82, va_up_ne _ _ (pl_ne hFqm15_76 hFo_76 rfl)]; exact hFqm15_76
          refine lv_aload_n hx hb dX9_slow_83 rfl (lv_at hl 0 rfl) ?_
          refine pg_get (ci := 8) (C := RX9) (T := TX9) (N := 20) hx hb hts hinX9 hown hK hP hmo hFo_82 rfl 17 (by decide) (hts (.fieldLink RX9 65 "RopeDrumsModel" "failed" "I") (by decide +kernel)) (fun _ h9 => h9) rfl dX9_slow_84 ?_
          refine lv_if_ne (tgt := 133) hx hb dX9_slow_87 (by decide) (fun c83 => ?_) (fun c83 => absurd c83 (by decide))
          refine lv_aload_n hx hb dX9_slow_133 rfl (lv_at hl 0 rfl) ?_
          refine lv_iconst (v := 1) hx hb dX9_slow_134 (by decide) ?_
          refine va_calli (va_runV (As := [.int 1]) (rest := []) ⟨hx, hb, hml, hown, hts⟩ (c9_answers_5 l G cy L F82 H.size o qm 0 Pp.1 oc hmo hFo_82 Xx.2 hm15 hFqm15_82 1) (cwV 1 hts gX9_slow_X9_answers rfl rfl rfl (by decide +kernel) ⟨Nat.le_of_ble_eq_true rfl, Nat.le_of_ble_eq_true rfl⟩) (preV_of okQ (⟨rfl, hP, hK, hD.top⟩) (pl_recv hK hP (ci := 8) rfl hmo hFo_82)) rfl rfl hl.1 rfl (lv_room (Nat.le_of_ble_eq_true rfl)) dX9_slow_135 ⟨Nat.le_of_ble_eq_true rfl, Nat.le_of_ble_eq_true rfl⟩) hS (fun q _ h => pl_free hD hS hA q h) (pl_free hD hS hA) (fun r85 F84 t H1 locs ht hvm hw hP1 hz1 hk1 hS => ?_)
          have hP1 : va_P G vwCl (va_pl L F84) t.heap := hP1
          rw [ht] at hP1
          have hP := hP1
          generalize H1 = H at hP hS ⊢
          obtain ⟨hqr85, eF84⟩ := hw
          have eF84 : F84 = va_up F82 (qm 15) (cI (cy 1) 6 (upd Xx.2 5 (Xx.2 5 + 1))) := eF84
          have hFo_85 : F84 o = .inr (8, [.int 0, .ref (qm 0), .ref (qm 1), .ref (qm 2), .ref (qm 3), .ref (qm 4), .ref (qm 5), .ref (qm 6), .ref (qm 7), .int Pp.1, .ref (qm 8), .ref (qm 9), .ref (qm 10), .ref (qm 11), .ref (qm 12), .ref (qm 13), .ref (qm 14), .int 5, .ref (qm 15), .long oc]) := by rw [eF84, va_up_ne _ _ (pl_ne hFo_82 hFqm15_82 rfl)]; exact hFo_82
          have hFqm0_85 : F84 (qm 0) = cI (cy 1) 10 Mm.1 := by rw [eF84, va_up_ne _ _ (pl_ne hFqm0_82 hFqm15_82 rfl)]; exact hFqm0_82
          have hFqm1_85 : F84 (qm 1) = cJ (cy 2) 10 Mm.2 := by rw [eF84, va_up_ne _ _ (pl_ne hFqm1_82 hFqm15_82 rfl)]; exact hFqm1_82
          have hFqm2_85 : F84 (qm 2) = cD (cy 0) 6 Dd.1 := by rw [eF84, va_up_ne _ _ (pl_ne hFqm2_82 hFqm15_82 rfl)]; exact hFqm2_82
          have hFqm3_85 : F84 (qm 3) = cD (cy 0) 6 Dd.2.1 := by rw [eF84, va_up_ne _ _ (pl_ne hFqm3_82 hFqm15_82 rfl)]; exact hFqm3_82
          have hFqm4_85 : F84 (qm 4) = cD (cy 0) 6 Dd.2.2.1 := by rw [eF84, va_up_ne _ _ (pl_ne hFqm4_82 hFqm15_82 rfl)]; exact hFqm4_82
          have hFqm5_85 : F84 (qm 5) = cJ (cy 2) 6 Dd.2.2.2 := by rw [eF84, va_up_ne _ _ (pl_ne hFqm5_82 hFqm15_82 rfl)]; exact hFqm5_82
          have hFqm6_85 : F84 (qm 6) = cI (cy 1) 8 Sl.1 := by rw [eF84, va_up_ne _ _ (pl_ne hFqm6_82 hFqm15_82 rfl)]; exact hFqm6_82
          have hFqm7_85 : F84 (qm 7) = cJ (cy 2) 128 Sl.2 := by rw [eF84, va_up_ne _ _ (pl_ne hFqm7_82 hFqm15_82 rfl)]; exact hFqm7_82
          have hFqm8_85 : F84 (qm 8) = cI (cy 1) 30 Pp.2.1 := by rw [eF84, va_up_ne _ _ (pl_ne hFqm8_82 hFqm15_82 rfl)]; exact hFqm8_82
          have hFqm9_85 : F84 (qm 9) = cI (cy 3) 30 Pp.2.2 := by rw [eF84, va_up_ne _ _ (pl_ne hFqm9_82 hFqm15_82 rfl)]; exact hFqm9_82
          have hFqm10_85 : F84 (qm 10) = cI (cy 1) 5 Kr.1 := by rw [eF84, va_up_ne _ _ (pl_ne hFqm10_82 hFqm15_82 rfl)]; exact hFqm10_82
          have hFqm11_85 : F84 (qm 11) = cI (cy 3) 5 Kr.2.1 := by rw [eF84, va_up_ne _ _ (pl_ne hFqm11_82 hFqm15_82 rfl)]; exact hFqm11_82
          have hFqm12_85 : F84 (qm 12) = cI (cy 1) 60 Kr.2.2 := by rw [eF84, va_up_ne _ _ (pl_ne hFqm12_82 hFqm15_82 rfl)]; exact hFqm12_82
          have hFqm13_85 : F84 (qm 13) = cI (cy 1) 4 Bk.1 := by rw [eF84, va_up_ne _ _ (pl_ne hFqm13_82 hFqm15_82 rfl)]; exact hFqm13_82
          have hFqm14_85 : F84 (qm 14) = cD (cy 0) 4 Bk.2 := by rw [eF84, va_up_ne _ _ (pl_ne hFqm14_82 hFqm15_82 rfl)]; exact hFqm14_82
          have hFqm15_85 : F84 (qm 15) = cI (cy 1) 6 (upd Xx.2 5 (Xx.2 5 + 1)) := by rw [eF84]; exact va_up_self _ _ _
          have hr85 := hqr85
          exact W.iret (v := r85) hx hb hr (fun t ht hW => ⟨⟨r85, F84, rfl, (by subst hr85 ev81 ev69; have hsp : sp_slow Mm Bk Xx (nI j_br) (nI j_me) = (-15, Mm, failX Xx 5) := (by unfold sp_slow; rw [hi_br, hi_me]; show slw _ _ _ _ _ _ = _; unfold slw; rw [hbs]; exact (if_neg (by decide)).trans ((if_neg (by decide)).trans (if_pos hnan))); rw [hsp]; exact ⟨rfl, (by exact ⟨⟨_, _, hmo, hFo_85⟩, ⟨hm0, hFqm0_85⟩, ⟨hm1, hFqm1_85⟩, ⟨hm2, hFqm2_85⟩, ⟨hm3, hFqm3_85⟩, ⟨hm4, hFqm4_85⟩, ⟨hm5, hFqm5_85⟩, ⟨hm6, hFqm6_85⟩, ⟨hm7, hFqm7_85⟩, ⟨hm8, hFqm8_85⟩, ⟨hm9, hFqm9_85⟩, ⟨hm10, hFqm10_85⟩, ⟨hm11, hFqm11_85⟩, ⟨hm12, hFqm12_85⟩, ⟨hm13, hFqm13_85⟩, ⟨hm14, hFqm14_85⟩, ⟨hm15, hFqm15_85⟩, hne⟩)⟩), (by show va_P _ _ _ t.heap; rw [ht]; exact hP)⟩, hS.F ht⟩) hS.2.2 dX9_slow_138
        · have hnan : FP.Core.dIsNaN (FP.ddiv (db (tn (Mm.1 j_me) (Mm.2 j_me) 3)) (Bk.2 j_br)) = false := Bool.eq_false_iff.mpr hnan0
          refine lv_aload_n hx hb dX9_slow_0 rfl (lv_at hl 0 rfl) ?_
          refine lv_iconst (v := 0) hx hb dX9_slow_1 (by decide) ?_
          refine pg_put (ci := 8) (v := .int 0) (ty := .int) (C := RX9) (T := TX9) (N := 20) hx hb hts hinX9 tyX9 tyX9_ok nmX9 hown hK hP hD hS hmo hFo rfl 0 (by decide) (hts (.fieldLink RX9 61 "RopeDrumsModel" "thrown" "I") (by decide +kernel)) (fun _ h9 => h9) rfl (by decide +kernel) (rfl) (rfl) (Nat.le_of_ble_eq_true rfl) dX9_slow_2 (fun H locs F86 eF86 hP hS => ?_)
          have eF86 : F86 = va_up F o (.inr (8, [.int 0, .ref (qm 0), .ref (qm 1), .ref (qm 2), .ref (qm 3), .ref (qm 4), .ref (qm 5), .ref (qm 6), .ref (qm 7), .int Pp.1, .ref (qm 8), .ref (qm 9), .ref (qm 10), .ref (qm 11), .ref (qm 12), .ref (qm 13), .ref (qm 14), .int Xx.1, .ref (qm 15), .long oc])) := eF86
          have hFo_86 : F86 o = .inr (8, [.int 0, .ref (qm 0), .ref (qm 1), .ref (qm 2), .ref (qm 3), .ref (qm 4), .ref (qm 5), .ref (qm 6), .ref (qm 7), .int Pp.1, .ref (qm 8), .ref (qm 9), .ref (qm 10), .ref (qm 11), .ref (qm 12), .ref (qm 13), .ref (qm 14), .int Xx.1, .ref (qm 15), .long oc]) := by rw [eF86]; exact va_up_self _ _ _
          have hFqm0_86 : F86 (qm 0) = cI (cy 1) 10 Mm.1 := by rw [eF86, va_up_ne _ _ (pl_ne hF0 hFo rfl)]; exact hF0
          have hFqm1_86 : F86 (qm 1) = cJ (cy 2) 10 Mm.2 := by rw [eF86, va_up_ne _ _ (pl_ne hF1 hFo rfl)]; exact hF1
          have hFqm2_86 : F86 (qm 2) = cD (cy 0) 6 Dd.1 := by rw [eF86, va_up_ne _ _ (pl_ne hF2 hFo rfl)]; exact hF2
          have hFqm3_86 : F86 (qm 3) = cD (cy 0) 6 Dd.2.1 := by rw [eF86, va_up_ne _ _ (pl_ne hF3 hFo rfl)]; exact hF3
          have hFqm4_86 : F86 (qm 4) = cD (cy 0) 6 Dd.2.2.1 := by rw [eF86, va_up_ne _ _ (pl_ne hF4 hFo rfl)]; exact hF4
          have hFqm5_86 : F86 (qm 5) = cJ (cy 2) 6 Dd.2.2.2 := by rw [eF86, va_up_ne _ _ (pl_ne hF5 hFo rfl)]; exact hF5
          have hFqm6_86 : F86 (qm 6) = cI (cy 1) 8 Sl.1 := by rw [eF86, va_up_ne _ _ (pl_ne hF6 hFo rfl)]; exact hF6
          have hFqm7_86 : F86 (qm 7) = cJ (cy 2) 128 Sl.2 := by rw [eF86, va_up_ne _ _ (pl_ne hF7 hFo rfl)]; exact hF7
          have hFqm8_86 : F86 (qm 8) = cI (cy 1) 30 Pp.2.1 := by rw [eF86, va_up_ne _ _ (pl_ne hF8 hFo rfl)]; exact hF8
          have hFqm9_86 : F86 (qm 9) = cI (cy 3) 30 Pp.2.2 := by rw [eF86, va_up_ne _ _ (pl_ne hF9 hFo rfl)]; exact hF9
          have hFqm10_86 : F86 (qm 10) = cI (cy 1) 5 Kr.1 := by rw [eF86, va_up_ne _ _ (pl_ne hF10 hFo rfl)]; exact hF10
          have hFqm11_86 : F86 (qm 11) = cI (cy 3) 5 Kr.2.1 := by rw [eF86, va_up_ne _ _ (pl_ne hF11 hFo rfl)]; exact hF11
          have hFqm12_86 : F86 (qm 12) = cI (cy 1) 60 Kr.2.2 := by rw [eF86, va_up_ne _ _ (pl_ne hF12 hFo rfl)]; exact hF12
          have hFqm13_86 : F86 (qm 13) = cI (cy 1) 4 Bk.1 := by rw [eF86, va_up_ne _ _ (pl_ne hF13 hFo rfl)]; exact hF13
          have hFqm14_86 : F86 (qm 14) = cD (cy 0) 4 Bk.2 := by rw [eF86, va_up_ne _ _ (pl_ne hF14 hFo rfl)]; exact hF14
          have hFqm15_86 : F86 (qm 15) = cI (cy 1) 6 Xx.2 := by rw [eF86, va_up_ne _ _ (pl_ne hF15 hFo rfl)]; exact hF15
          refine lv_iload_n hx hb dX9_slow_5 rfl (lv_at hl 1 rfl) ?_
          refine lv_i2l hx hb dX9_slow_6 rfl ?_
          refine lv_topl (fun v87 ev87 => ?_)
          refine lv_lconst (v := 0) hx hb dX9_slow_7 (by decide) ?_
          refine lv_ldc2 hx hb hown (hts (.constantLong RX9 123 (3)) (by decide +kernel)) dX9_slow_8 ?_
          refine vp_callSi (W.runS (As := [.long v87, .long 0, .long 3]) (rest := []) ⟨hx, hb, hml, hown, hts⟩ (c9_in l v87 0 3) (va_cwS 3 hts gX9_slow_X9_in rfl rfl rfl (by decide +kernel) ⟨Nat.le_of_ble_eq_true rfl, Nat.le_of_ble_eq_true rfl⟩) (preS_of okT (trivial)) rfl rfl hl.1 rfl (lv_room (Nat.le_of_ble_eq_true rfl)) dX9_slow_11 ⟨Nat.le_of_ble_eq_true rfl, Nat.le_of_ble_eq_true rfl⟩) (fun r88 hr88 => ?_)
          have hzr88 : r88 = 1 := by rw [hr88, ev87, inq_i (y := 0) (z := 3) (by decide) (by decide)]; exact if_pos (by rw [nI_toInt (by omega)]; omega)
          subst hzr88
          refine lv_if_eq (tgt := 24) hx hb dX9_slow_14 (by decide) (fun c89 => absurd c89 (by decide)) (fun c89 => ?_)
          refine lv_iload_n hx hb dX9_slow_17 rfl (lv_at hl 2 rfl) ?_
          refine vp_callSi (W.runS (As := [.int (nI j_me)]) (rest := []) ⟨hx, hb, hml, hown, hts⟩ (c9_isMeter l (nI j_me)) (va_cwS 1 hts gX9_slow_X9_isMeter rfl rfl rfl (by decide +kernel) ⟨Nat.le_of_ble_eq_true rfl, Nat.le_of_ble_eq_true rfl⟩) (preS_of okT (trivial)) rfl rfl hl.1 rfl (lv_room (Nat.le_of_ble_eq_true rfl)) dX9_slow_18 ⟨Nat.le_of_ble_eq_true rfl, Nat.le_of_ble_eq_true rfl⟩) (fun r90 hr90 => ?_)
          rw [isx1 hi_me] at hr90
          subst hr90
          refine lv_if_ne (tgt := 28) hx hb dX9_slow_21 (by decide) (fun c91 => ?_) (fun c91 => absurd c91 (by decide))
          refine lv_aload_n hx hb dX9_slow_28 rfl (lv_at hl 0 rfl) ?_
          refine lv_aload_n hx hb dX9_slow_29 rfl (lv_at hl 0 rfl) ?_
          refine pg_get (ci := 8) (C := RX9) (T := TX9) (N := 20) hx hb hts hinX9 hown hK hP hmo hFo_86 rfl 15 (by decide) (hts (.fieldLink RX9 52 "RopeDrumsModel" "brakeSort" "[I") (by decide +kernel)) (fun _ h9 => h9) rfl dX9_slow_30 ?_
          refine lv_iload_n hx hb dX9_slow_33 rfl (lv_at hl 1 rfl) ?_
          refine pg_iald hx hb hK hP 1 hm13 hFqm13_86 rfl (vp_in_nI (by omega) (by decide)) dX9_slow_34 ?_
          refine lv_topi (fun v92 ev92 => ?_)
          rw [nI_clamp (by omega)] at ev92
          rw [hbs] at ev92
          subst ev92
          refine lv_iconst (v := 2) hx hb dX9_slow_35 (by decide) ?_
          refine lv_icmp_ne (tgt := 43) hx hb dX9_slow_36 (by decide) (fun c93 => ?_) (fun c93 => absurd c93 (by decide))
          refine lv_iconst (v := 0) hx hb dX9_slow_43 (by decide) ?_
          refine pg_put (ci := 8) (v := .int 0) (ty := .int) (C := RX9) (T := TX9) (N := 20) hx hb hts hinX9 tyX9 tyX9_ok nmX9 hown hK hP hD hS hmo hFo_86 rfl 17 (by decide) (hts (.fieldLink RX9 65 "RopeDrumsModel" "failed" "I") (by decide +kernel)) (fun _ h9 => h9) rfl (by decide +kernel) (rfl) (rfl) (Nat.le_of_ble_eq_true rfl) dX9_slow_44 (fun H locs F94 eF94 hP hS => ?_)
          have eF94 : F94 = va_up F86 o (.inr (8, [.int 0, .ref (qm 0), .ref (qm 1), .ref (qm 2), .ref (qm 3), .ref (qm 4), .ref (qm 5), .ref (qm 6), .ref (qm 7), .int Pp.1, .ref (qm 8), .ref (qm 9), .ref (qm 10), .ref (qm 11), .ref (qm 12), .ref (qm 13), .ref (qm 14), .int 0, .ref (qm 15), .long oc])) := eF94
          have hFo_94 : F94 o = .inr (8, [.int 0, .ref (qm 0), .ref (qm 1), .ref (qm 2), .ref (qm 3), .ref (qm 4), .ref (qm 5), .ref (qm 6), .ref (qm 7), .int Pp.1, .ref (qm 8), .ref (qm 9), .ref (qm 10), .ref (qm 11), .ref (qm 12), .ref (qm 13), .ref (qm 14), .int 0, .ref (qm 15), .long oc]) := by rw [eF94]; exact va_up_self _ _ _
          have hFqm0_94 : F94 (qm 0) = cI (cy 1) 10 Mm.1 := by rw [eF94, va_up_ne _ _ (pl_ne hFqm0_86 hFo_86 rfl)]; exact hFqm0_86
          have hFqm1_94 : F94 (qm 1) = cJ (cy 2) 10 Mm.2 := by rw [eF94, va_up_ne _ _ (pl_ne hFqm1_86 hFo_86 rfl)]; exact hFqm1_86
          have hFqm2_94 : F94 (qm 2) = cD (cy 0) 6 Dd.1 := by rw [eF94, va_up_ne _ _ (pl_ne hFqm2_86 hFo_86 rfl)]; exact hFqm2_86
          have hFqm3_94 : F94 (qm 3) = cD (cy 0) 6 Dd.2.1 := by rw [eF94, va_up_ne _ _ (pl_ne hFqm3_86 hFo_86 rfl)]; exact hFqm3_86
          have hFqm4_94 : F94 (qm 4) = cD (cy 0) 6 Dd.2.2.1 := by rw [eF94, va_up_ne _ _ (pl_ne hFqm4_86 hFo_86 rfl)]; exact hFqm4_86
          have hFqm5_94 : F94 (qm 5) = cJ (cy 2) 6 Dd.2.2.2 := by rw [eF94, va_up_ne _ _ (pl_ne hFqm5_86 hFo_86 rfl)]; exact hFqm5_86
          have hFqm6_94 : F94 (qm 6) = cI (cy 1) 8 Sl.1 := by rw [eF94, va_up_ne _ _ (pl_ne hFqm6_86 hFo_86 rfl)]; exact hFqm6_86
          have hFqm7_94 : F94 (qm 7) = cJ (cy 2) 128 Sl.2 := by rw [eF94, va_up_ne _ _ (pl_ne hFqm7_86 hFo_86 rfl)]; exact hFqm7_86
          have hFqm8_94 : F94 (qm 8) = cI (cy 1) 30 Pp.2.1 := by rw [eF94, va_up_ne _ _ (pl_ne hFqm8_86 hFo_86 rfl)]; exact hFqm8_86
          have hFqm9_94 : F94 (qm 9) = cI (cy 3) 30 Pp.2.2 := by rw [eF94, va_up_ne _ _ (pl_ne hFqm9_86 hFo_86 rfl)]; exact hFqm9_86
          have hFqm10_94 : F94 (qm 10) = cI (cy 1) 5 Kr.1 := by rw [eF94, va_up_ne _ _ (pl_ne hFqm10_86 hFo_86 rfl)]; exact hFqm10_86
          have hFqm11_94 : F94 (qm 11) = cI (cy 3) 5 Kr.2.1 := by rw [eF94, va_up_ne _ _ (pl_ne hFqm11_86 hFo_86 rfl)]; exact hFqm11_86
          have hFqm12_94 : F94 (qm 12) = cI (cy 1) 60 Kr.2.2 := by rw [eF94, va_up_ne _ _ (pl_ne hFqm12_86 hFo_86 rfl)]; exact hFqm12_86
          have hFqm13_94 : F94 (qm 13) = cI (cy 1) 4 Bk.1 := by rw [eF94, va_up_ne _ _ (pl_ne hFqm13_86 hFo_86 rfl)]; exact hFqm13_86
          have hFqm14_94 : F94 (qm 14) = cD (cy 0) 4 Bk.2 := by rw [eF94, va_up_ne _ _ (pl_ne hFqm14_86 hFo_86 rfl)]; exact hFqm14_86
          have hFqm15_94 : F94 (qm 15) = cI (cy 1) 6 Xx.2 := by rw [eF94, va_up_ne _ _ (pl_ne hFqm15_86 hFo_86 rfl)]; exact hFqm15_86
          refine lv_aload_n hx hb dX9_slow_47 rfl (lv_at hl 0 rfl) ?_
          refine pg_get (ci := 8) (C := RX9) (T := TX9) (N := 20) hx hb hts hinX9 hown hK hP hmo hFo_94 rfl 17 (by decide) (hts (.fieldLink RX9 65 "RopeDrumsModel" "failed" "I") (by decide +kernel)) (fun _ h9 => h9) rfl dX9_slow_48 ?_
          refine lv_if_ne (tgt := 83) hx hb dX9_slow_51 (by decide) (fun c95 => absurd (by decide) c95) (fun c95 => ?_)
          refine lv_aload_n hx hb dX9_slow_54 rfl (lv_at hl 0 rfl) ?_
          refine lv_aload_n hx hb dX9_slow_55 rfl (lv_at hl 0 rfl) ?_
          refine pg_get (ci := 8) (C := RX9) (T := TX9) (N := 20) hx hb hts hinX9 hown hK hP hmo hFo_94 rfl 15 (by decide) (hts (.fieldLink RX9 52 "RopeDrumsModel" "brakeSort" "[I") (by decide +kernel)) (fun _ h9 => h9) rfl dX9_slow_56 ?_
          refine lv_iload_n hx hb dX9_slow_59 rfl (lv_at hl 1 rfl) ?_
          refine pg_iald hx hb hK hP 1 hm13 hFqm13_94 rfl (vp_in_nI (by omega) (by decide)) dX9_slow_60 ?_
          refine lv_topi (fun v96 ev96 => ?_)
          rw [nI_clamp (by omega)] at ev96
          rw [hbs] at ev96
          subst ev96
          refine lv_if_ne (tgt := 68) hx hb dX9_slow_61 (by decide) (fun c97 => ?_) (fun c97 => absurd c97 (by decide))
          refine lv_iconst (v := 3) hx hb dX9_slow_68 (by decide) ?_
          refine lv_aload_n hx hb dX9_slow_69 rfl (lv_at hl 0 rfl) ?_
          refine lv_iload_n hx hb dX9_slow_70 rfl (lv_at hl 2 rfl) ?_
          refine vp_callSd (W.runV (As := [.int (nI j_me)]) (rest := [.int 3, .ref o]) ⟨hx, hb, hml, hown, hts⟩ (c9_asDouble l G cy L F94 o qm 0 Pp.1 0 oc hmo hFo_94 Mm.1 hm0 hFqm0_94 Mm.2 hm1 hFqm1_94 j_me hj_me (hVM j_me hj_me)) (cwV 1 hts gX9_slow_X9_asDouble rfl rfl rfl (by decide +kernel) ⟨Nat.le_of_ble_eq_true rfl, Nat.le_of_ble_eq_true rfl⟩) (preV_of okP (⟨hP, hK, hD.top⟩) (pl_recv hK hP (ci := 8) rfl hmo hFo_94)) rfl rfl hl.1 rfl (lv_room (Nat.le_of_ble_eq_true rfl)) dX9_slow_71 ⟨Nat.le_of_ble_eq_true rfl, Nat.le_of_ble_eq_true rfl⟩) (fun r98 hr98 => ?_)
          subst hr98
          refine lv_aload_n hx hb dX9_slow_74 rfl (lv_at hl 0 rfl) ?_
          refine pg_get (ci := 8) (C := RX9) (T := TX9) (N := 20) hx hb hts hinX9 hown hK hP hmo hFo_94 rfl 16 (by decide) (hts (.fieldLink RX9 55 "RopeDrumsModel" "grip" "[D") (by decide +kernel)) (fun _ h9 => h9) rfl dX9_slow_75 ?_
          refine lv_iload_n hx hb dX9_slow_78 rfl (lv_at hl 1 rfl) ?_
          refine pg_dald hx hb hK hP 0 hm14 hFqm14_94 rfl (vp_in_nI (by omega) (by decide)) dX9_slow_79 ?_
          refine lv_topd (fun v99 ev99 => ?_)
          rw [nI_clamp (by omega)] at ev99
          refine va_callv (va_runV (As := [.int 3, .double (db (tn (Mm.1 j_me) (Mm.2 j_me) 3)), .double v99]) (rest := []) ⟨hx, hb, hml, hown, hts⟩ (c9_rD_3 l G cy L F94 H.size o qm 0 Pp.1 0 oc hmo hFo_94 (db (tn (Mm.1 j_me) (Mm.2 j_me) 3)) v99 (tn3_ok (hVM j_me hj_me)) (by rw [ev99]; exact hgn) (by rw [ev99]; exact hnan)) (cwV 3 hts gX9_slow_X9_reckonDoubles rfl rfl rfl (by decide +kernel) ⟨Nat.le_of_ble_eq_true rfl, Nat.le_of_ble_eq_true rfl⟩) (preV_of okQ (⟨rfl, hP, hK, hD.top⟩) (pl_recv hK hP (ci := 8) rfl hmo hFo_94)) rfl rfl hl.1 rfl (lv_room (Nat.le_of_ble_eq_true rfl)) dX9_slow_80 ⟨Nat.le_of_ble_eq_true rfl, Nat.le_of_ble_eq_true rfl⟩) hS (fun q _ h => pl_free hD hS hA q h) (pl_free hD hS hA) (fun F100 t H1 locs ht hvm hw hP1 hz1 hk1 hS => ?_)
          have hP1 : va_P G vwCl (va_pl L F100) t.heap := hP1
          rw [ht] at hP1
          have hP := hP1
          generalize H1 = H at hP hS ⊢
          have eF100 : F100 = va_up F94 o (.inr (8, [.int 0, .ref (qm 0), .ref (qm 1), .ref (qm 2), .ref (qm 3), .ref (qm 4), .ref (qm 5), .ref (qm 6), .ref (qm 7), .int Pp.1, .ref (qm 8), .ref (qm 9), .ref (qm 10), .ref (qm 11), .ref (qm 12), .ref (qm 13), .ref (qm 14), .int 0, .ref (qm 15), .long ((FP.ddiv (db (tn (Mm.1 j_me) (Mm.2 j_me) 3)) v99).toInt64)])) := hw
          have hFo_100 : F100 o = .inr (8, [.int 0, .ref (qm 0), .ref (qm 1), .ref (qm 2), .ref (qm 3), .ref (qm 4), .ref (qm 5), .ref (qm 6), .ref (qm 7), .int Pp.1, .ref (qm 8), .ref (qm 9), .ref (qm 10), .ref (qm 11), .ref (qm 12), .ref (qm 13), .ref (qm 14), .int 0, .ref (qm 15), .long ((FP.ddiv (db (tn (Mm.1 j_me) (Mm.2 j_me) 3)) v99).toInt64)]) := by rw [eF100]; exact va_up_self _ _ _
          have hFqm0_100 : F100 (qm 0) = cI (cy 1) 10 Mm.1 := by rw [eF100, va_up_ne _ _ (pl_ne hFqm0_94 hFo_94 rfl)]; exact hFqm0_94
          have hFqm1_100 : F100 (qm 1) = cJ (cy 2) 10 Mm.2 := by rw [eF100, va_up_ne _ _ (pl_ne hFqm1_94 hFo_94 rfl)]; exact hFqm1_94
          have hFqm2_100 : F100 (qm 2) = cD (cy 0) 6 Dd.1 := by rw [eF100, va_up_ne _ _ (pl_ne hFqm2_94 hFo_94 rfl)]; exact hFqm2_94
          have hFqm3_100 : F100 (qm 3) = cD (cy 0) 6 Dd.2.1 := by rw [eF100, va_up_ne _ _ (pl_ne hFqm3_94 hFo_94 rfl)]; exact hFqm3_94
          have hFqm4_100 : F100 (qm 4) = cD (cy 0) 6 Dd.2.2.1 := by rw [eF100, va_up_ne _ _ (pl_ne hFqm4_94 hFo_94 rfl)]; exact hFqm4_94
          have hFqm5_100 : F100 (qm 5) = cJ (cy 2) 6 Dd.2.2.2 := by rw [eF100, va_up_ne _ _ (pl_ne hFqm5_94 hFo_94 rfl)]; exact hFqm5_94
          have hFqm6_100 : F100 (qm 6) = cI (cy 1) 8 Sl.1 := by rw [eF100, va_up_ne _ _ (pl_ne hFqm6_94 hFo_94 rfl)]; exact hFqm6_94
          have hFqm7_100 : F100 (qm 7) = cJ (cy 2) 128 Sl.2 := by rw [eF100, va_up_ne _ _ (pl_ne hFqm7_94 hFo_94 rfl)]; exact hFqm7_94
          have hFqm8_100 : F100 (qm 8) = cI (cy 1) 30 Pp.2.1 := by rw [eF100, va_up_ne _ _ (pl_ne hFqm8_94 hFo_94 rfl)]; exact hFqm8_94
          have hFqm9_100 : F100 (qm 9) = cI (cy 3) 30 Pp.2.2 := by rw [eF100, va_up_ne _ _ (pl_ne hFqm9_94 hFo_94 rfl)]; exact hFqm9_94
          have hFqm10_100 : F100 (qm 10) = cI (cy 1) 5 Kr.1 := by rw [eF100, va_up_ne _ _ (pl_ne hFqm10_94 hFo_94 rfl)]; exact hFqm10_94
          have hFqm11_100 : F100 (qm 11) = cI (cy 3) 5 Kr.2.1 := by rw [eF100, va_up_ne _ _ (pl_ne hFqm11_94 hFo_94 rfl)]; exact hFqm11_94
          have hFqm12_100 : F100 (qm 12) = cI (cy 1) 60 Kr.2.2 := by rw [eF100, va_up_ne _ _ (pl_ne hFqm12_94 hFo_94 rfl)]; exact hFqm12_94
          have hFqm13_100 : F100 (qm 13) = cI (cy 1) 4 Bk.1 := by rw [eF100, va_up_ne _ _ (pl_ne hFqm13_94 hFo_94 rfl)]; exact hFqm13_94
          have hFqm14_100 : F100 (qm 14) = cD (cy 0) 4 Bk.2 := by rw [eF100, va_up_ne _ _ (pl_ne hFqm14_94 hFo_94 rfl)]; exact hFqm14_94
          have hFqm15_100 : F100 (qm 15) = cI (cy 1) 6 Xx.2 := by rw [eF100, va_up_ne _ _ (pl_ne hFqm15_94 hFo_94 rfl)]; exact hFqm15_94
          refine lv_aload_n hx hb dX9_slow_83 rfl (lv_at hl 0 rfl) ?_
          refine pg_get (ci := 8) (C := RX9) (T := TX9) (N := 20) hx hb hts hinX9 hown hK hP hmo hFo_100 rfl 17 (by decide) (hts (.fieldLink RX9 65 "RopeDrumsModel" "failed" "I") (by decide +kernel)) (fun _ h9 => h9) rfl dX9_slow_84 ?_
          refine lv_if_ne (tgt := 133) hx hb dX9_slow_87 (by decide) (fun c101 => absurd (by decide) c101) (fun c101 => ?_)
          refine lv_aload_n hx hb dX9_slow_90 rfl (lv_at hl 0 rfl) ?_
          refine pg_get (ci := 8) (C := RX9) (T := TX9) (N := 20) hx hb hts hinX9 hown hK hP hmo hFo_100 rfl 2 (by decide) (hts (.fieldLink RX9 13 "RopeDrumsModel" "held" "[J") (by decide +kernel)) (fun _ h9 => h9) rfl dX9_slow_91 ?_
          refine lv_iload_n hx hb dX9_slow_94 rfl (lv_at hl 2 rfl) ?_
          refine lv_aload_n hx hb dX9_slow_95 rfl (lv_at hl 0 rfl) ?_
          refine pg_get (ci := 8) (C := RX9) (T := TX9) (N := 20) hx hb hts hinX9 hown hK hP hmo hFo_100 rfl 15 (by decide) (hts (.fieldLink RX9 52 "RopeDrumsModel" "brakeSort" "[I") (by decide +kernel)) (fun _ h9 => h9) rfl dX9_slow_96 ?_
          refine lv_iload_n hx hb dX9_slow_99 rfl (lv_at hl 1 rfl) ?_
          refine pg_iald hx hb hK hP 1 hm13 hFqm13_100 rfl (vp_in_nI (by omega) (by decide)) dX9_slow_100 ?_
          refine lv_topi (fun v102 ev102 => ?_)
          rw [nI_clamp (by omega)] at ev102
          rw [hbs] at ev102
          subst ev102
          refine lv_if_ne (tgt := 111) hx hb dX9_slow_101 (by decide) (fun c103 => ?_) (fun c103 => absurd c103 (by decide))
          refine lv_iconst (v := 2) hx hb dX9_slow_111 (by decide) ?_
          refine lv_iconst (v := 3) hx hb dX9_slow_112 (by decide) ?_
          refine lv_aload_n hx hb dX9_slow_113 rfl (lv_at hl 0 rfl) ?_
          refine pg_get (ci := 8) (C := RX9) (T := TX9) (N := 20) hx hb hts hinX9 hown hK hP hmo hFo_100 rfl 19 (by decide) (hts (.fieldLink RX9 131 "RopeDrumsModel" "outcome" "J") (by decide +kernel)) (fun _ h9 => h9) rfl dX9_slow_114 ?_
          refine lv_iconst (v := 2) hx hb dX9_slow_117 (by decide) ?_
          refine vp_callSl (W.runS (As := [.int 3, .long ((FP.ddiv (db (tn (Mm.1 j_me) (Mm.2 j_me) 3)) v99).toInt64), .int 2]) (rest := [.int 2, .int (nI j_me), .ref (qm 1)]) ⟨hx, hb, hml, hown, hts⟩ (c9_turned l 3 2 ((FP.ddiv (db (tn (Mm.1 j_me) (Mm.2 j_me) 3)) v99).toInt64) (by rw [ev99]; exact (okV_3 ((FP.Core.notNaN_iff _).mp hnan)))) (va_cwS 3 hts gX9_slow_X9_turned rfl rfl rfl (by decide +kernel) ⟨Nat.le_of_ble_eq_true rfl, Nat.le_of_ble_eq_true rfl⟩) (preS_of okT (trivial)) rfl rfl hl.1 rfl (lv_room (Nat.le_of_ble_eq_true rfl)) dX9_slow_118 ⟨Nat.le_of_ble_eq_true rfl, Nat.le_of_ble_eq_true rfl⟩) (fun r104 hr104 => ?_)
          refine lv_iconst (v := 3) hx hb dX9_slow_121 (by decide) ?_
          refine vp_callSl (W.runS (As := [.int 2, .long r104, .int 3]) (rest := [.int (nI j_me), .ref (qm 1)]) ⟨hx, hb, hml, hown, hts⟩ (c9_turned l 2 3 r104 (by rw [hr104, ev99]; exact (okV_tn (okV_3 ((FP.Core.notNaN_iff _).mp hnan)) (by decide)))) (va_cwS 3 hts gX9_slow_X9_turned rfl rfl rfl (by decide +kernel) ⟨Nat.le_of_ble_eq_true rfl, Nat.le_of_ble_eq_true rfl⟩) (preS_of okT (trivial)) rfl rfl hl.1 rfl (lv_room (Nat.le_of_ble_eq_true rfl)) dX9_slow_122 ⟨Nat.le_of_ble_eq_true rfl, Nat.le_of_ble_eq_true rfl⟩) (fun r105 hr105 => ?_)
          refine pg_last hx hb hK hP hD hS 2 hm1 hFqm1_100 rfl (vp_in_nI (by omega) (by decide)) dX9_slow_125 (fun H locs F106 eF106 hP hS => ?_)
          rw [nI_clamp (by omega)] at eF106
          have hFo_106 : F106 o = .inr (8, [.int 0, .ref (qm 0), .ref (qm 1), .ref (qm 2), .ref (qm 3), .ref (qm 4), .ref (qm 5), .ref (qm 6), .ref (qm 7), .int Pp.1, .ref (qm 8), .ref (qm 9), .ref (qm 10), .ref (qm 11), .ref (qm 12), .ref (qm 13), .ref (qm 14), .int 0, .ref (qm 15), .long ((FP.ddiv (db (tn (Mm.1 j_me) (Mm.2 j_me) 3)) v99).toInt64)]) := by rw [eF106, va_up_ne _ _ (pl_ne hFo_100 hFqm1_100 rfl)]; exact hFo_100
          have hFqm0_106 : F106 (qm 0) = cI (cy 1) 10 Mm.1 := by rw [eF106, va_up_ne _ _ (pl_ne hFqm0_100 hFqm1_100 rfl)]; exact hFqm0_100
          have hFqm1_106 : F106 (qm 1) = cJ (cy 2) 10 (vp_updL Mm.2 j_me r105) := by rw [eF106]; exact va_up_self _ _ _
          have hFqm2_106 : F106 (qm 2) = cD (cy 0) 6 Dd.1 := by rw [eF106, va_up_ne _ _ (pl_ne hFqm2_100 hFqm1_100 rfl)]; exact hFqm2_100
          have hFqm3_106 : F106 (qm 3) = cD (cy 0) 6 Dd.2.1 := by rw [eF106, va_up_ne _ _ (pl_ne hFqm3_100 hFqm1_100 rfl)]; exact hFqm3_100
          have hFqm4_106 : F106 (qm 4) = cD (cy 0) 6 Dd.2.2.1 := by rw [eF106, va_up_ne _ _ (pl_ne hFqm4_100 hFqm1_100 rfl)]; exact hFqm4_100
          have hFqm5_106 : F106 (qm 5) = cJ (cy 2) 6 Dd.2.2.2 := by rw [eF106, va_up_ne _ _ (pl_ne hFqm5_100 hFqm1_100 rfl)]; exact hFqm5_100
          have hFqm6_106 : F106 (qm 6) = cI (cy 1) 8 Sl.1 := by rw [eF106, va_up_ne _ _ (pl_ne hFqm6_100 hFqm1_100 rfl)]; exact hFqm6_100
          have hFqm7_106 : F106 (qm 7) = cJ (cy 2) 128 Sl.2 := by rw [eF106, va_up_ne _ _ (pl_ne hFqm7_100 hFqm1_100 rfl)]; exact hFqm7_100
          have hFqm8_106 : F106 (qm 8) = cI (cy 1) 30 Pp.2.1 := by rw [eF106, va_up_ne _ _ (pl_ne hFqm8_100 hFqm1_100 rfl)]; exact hFqm8_100
          have hFqm9_106 : F106 (qm 9) = cI (cy 3) 30 Pp.2.2 := by rw [eF106, va_up_ne _ _ (pl_ne hFqm9_100 hFqm1_100 rfl)]; exact hFqm9_100
          have hFqm10_106 : F106 (qm 10) = cI (cy 1) 5 Kr.1 := by rw [eF106, va_up_ne _ _ (pl_ne hFqm10_100 hFqm1_100 rfl)]; exact hFqm10_100
          have hFqm11_106 : F106 (qm 11) = cI (cy 3) 5 Kr.2.1 := by rw [eF106, va_up_ne _ _ (pl_ne hFqm11_100 hFqm1_100 rfl)]; exact hFqm11_100
          have hFqm12_106 : F106 (qm 12) = cI (cy 1) 60 Kr.2.2 := by rw [eF106, va_up_ne _ _ (pl_ne hFqm12_100 hFqm1_100 rfl)]; exact hFqm12_100
          have hFqm13_106 : F106 (qm 13) = cI (cy 1) 4 Bk.1 := by rw [eF106, va_up_ne _ _ (pl_ne hFqm13_100 hFqm1_100 rfl)]; exact hFqm13_100
          have hFqm14_106 : F106 (qm 14) = cD (cy 0) 4 Bk.2 := by rw [eF106, va_up_ne _ _ (pl_ne hFqm14_100 hFqm1_100 rfl)]; exact hFqm14_100
          have hFqm15_106 : F106 (qm 15) = cI (cy 1) 6 Xx.2 := by rw [eF106, va_up_ne _ _ (pl_ne hFqm15_100 hFqm1_100 rfl)]; exact hFqm15_100
          refine lv_aload_n hx hb dX9_slow_126 rfl (lv_at hl 0 rfl) ?_
          refine pg_get (ci := 8) (C := RX9) (T := TX9) (N := 20) hx hb hts hinX9 hown hK hP hmo hFo_106 rfl 1 (by decide) (hts (.fieldLink RX9 7 "RopeDrumsModel" "laneOf" "[I") (by decide +kernel)) (fun _ h9 => h9) rfl dX9_slow_127 ?_
          refine lv_iload_n hx hb dX9_slow_130 rfl (lv_at hl 2 rfl) ?_
          refine lv_iconst (v := 3) hx hb dX9_slow_131 (by decide) ?_
          refine pg_iast hx hb hK hP hD hS 1 hm0 hFqm0_106 rfl (vp_in_nI (by omega) (by decide)) dX9_slow_132 (fun H locs F107 eF107 hP hS => ?_)
          rw [nI_clamp (by omega)] at eF107
          have hFo_107 : F107 o = .inr (8, [.int 0, .ref (qm 0), .ref (qm 1), .ref (qm 2), .ref (qm 3), .ref (qm 4), .ref (qm 5), .ref (qm 6), .ref (qm 7), .int Pp.1, .ref (qm 8), .ref (qm 9), .ref (qm 10), .ref (qm 11), .ref (qm 12), .ref (qm 13), .ref (qm 14), .int 0, .ref (qm 15), .long ((FP.ddiv (db (tn (Mm.1 j_me) (Mm.2 j_me) 3)) v99).toInt64)]) := by rw [eF107, va_up_ne _ _ (pl_ne hFo_106 hFqm0_106 rfl)]; exact hFo_106
          have hFqm0_107 : F107 (qm 0) = cI (cy 1) 10 (upd Mm.1 j_me 3) := by rw [eF107]; exact va_up_self _ _ _
          have hFqm1_107 : F107 (qm 1) = cJ (cy 2) 10 (vp_updL Mm.2 j_me r105) := by rw [eF107, va_up_ne _ _ (pl_ne hFqm1_106 hFqm0_106 rfl)]; exact hFqm1_106
          have hFqm2_107 : F107 (qm 2) = cD (cy 0) 6 Dd.1 := by rw [eF107, va_up_ne _ _ (pl_ne hFqm2_106 hFqm0_106 rfl)]; exact hFqm2_106
          have hFqm3_107 : F107 (qm 3) = cD (cy 0) 6 Dd.2.1 := by rw [eF107, va_up_ne _ _ (pl_ne hFqm3_106 hFqm0_106 rfl)]; exact hFqm3_106
          have hFqm4_107 : F107 (qm 4) = cD (cy 0) 6 Dd.2.2.1 := by rw [eF107, va_up_ne _ _ (pl_ne hFqm4_106 hFqm0_106 rfl)]; exact hFqm4_106
          have hFqm5_107 : F107 (qm 5) = cJ (cy 2) 6 Dd.2.2.2 := by rw [eF107, va_up_ne _ _ (pl_ne hFqm5_106 hFqm0_106 rfl)]; exact hFqm5_106
          have hFqm6_107 : F107 (qm 6) = cI (cy 1) 8 Sl.1 := by rw [eF107, va_up_ne _ _ (pl_ne hFqm6_106 hFqm0_106 rfl)]; exact hFqm6_106
          have hFqm7_107 : F107 (qm 7) = cJ (cy 2) 128 Sl.2 := by rw [eF107, va_up_ne _ _ (pl_ne hFqm7_106 hFqm0_106 rfl)]; exact hFqm7_106
          have hFqm8_107 : F107 (qm 8) = cI (cy 1) 30 Pp.2.1 := by rw [eF107, va_up_ne _ _ (pl_ne hFqm8_106 hFqm0_106 rfl)]; exact hFqm8_106
          have hFqm9_107 : F107 (qm 9) = cI (cy 3) 30 Pp.2.2 := by rw [eF107, va_up_ne _ _ (pl_ne hFqm9_106 hFqm0_106 rfl)]; exact hFqm9_106
          have hFqm10_107 : F107 (qm 10) = cI (cy 1) 5 Kr.1 := by rw [eF107, va_up_ne _ _ (pl_ne hFqm10_106 hFqm0_106 rfl)]; exact hFqm10_106
          have hFqm11_107 : F107 (qm 11) = cI (cy 3) 5 Kr.2.1 := by rw [eF107, va_up_ne _ _ (pl_ne hFqm11_106 hFqm0_106 rfl)]; exact hFqm11_106
          have hFqm12_107 : F107 (qm 12) = cI (cy 1) 60 Kr.2.2 := by rw [eF107, va_up_ne _ _ (pl_ne hFqm12_106 hFqm0_106 rfl)]; exact hFqm12_106
          have hFqm13_107 : F107 (qm 13) = cI (cy 1) 4 Bk.1 := by rw [eF107, va_up_ne _ _ (pl_ne hFqm13_106 hFqm0_106 rfl)]; exact hFqm13_106
          have hFqm14_107 : F107 (qm 14) = cD (cy 0) 4 Bk.2 := by rw [eF107, va_up_ne _ _ (pl_ne hFqm14_106 hFqm0_106 rfl)]; exact hFqm14_106
          have hFqm15_107 : F107 (qm 15) = cI (cy 1) 6 Xx.2 := by rw [eF107, va_up_ne _ _ (pl_ne hFqm15_106 hFqm0_106 rfl)]; exact hFqm15_106
          refine lv_aload_n hx hb dX9_slow_133 rfl (lv_at hl 0 rfl) ?_
          refine lv_iconst (v := 1) hx hb dX9_slow_134 (by decide) ?_
          refine va_calli (va_runV (As := [.int 1]) (rest := []) ⟨hx, hb, hml, hown, hts⟩ (c9_answers_0 l G cy L F107 H.size o qm 0 Pp.1 ((FP.ddiv (db (tn (Mm.1 j_me) (Mm.2 j_me) 3)) v99).toInt64) hmo hFo_107 Xx.2 hm15 hFqm15_107 1) (cwV 1 hts gX9_slow_X9_answers rfl rfl rfl (by decide +kernel) ⟨Nat.le_of_ble_eq_true rfl, Nat.le_of_ble_eq_true rfl⟩) (preV_of okQ (⟨rfl, hP, hK, hD.top⟩) (pl_recv hK hP (ci := 8) rfl hmo hFo_107)) rfl rfl hl.1 rfl (lv_room (Nat.le_of_ble_eq_true rfl)) dX9_slow_135 ⟨Nat.le_of_ble_eq_true rfl, Nat.le_of_ble_eq_true rfl⟩) hS (fun q _ h => pl_free hD hS hA q h) (pl_free hD hS hA) (fun r109 F108 t H1 locs ht hvm hw hP1 hz1 hk1 hS => ?_)
          have hP1 : va_P G vwCl (va_pl L F108) t.heap := hP1
          rw [ht] at hP1
          have hP := hP1
          generalize H1 = H at hP hS ⊢
          obtain ⟨hqr109, eF108⟩ := hw
          have hFo_F108 : F108 o = .inr (8, [.int 0, .ref (qm 0), .ref (qm 1), .ref (qm 2), .ref (qm 3), .ref (qm 4), .ref (qm 5), .ref (qm 6), .ref (qm 7), .int Pp.1, .ref (qm 8), .ref (qm 9), .ref (qm 10), .ref (qm 11), .ref (qm 12), .ref (qm 13), .ref (qm 14), .int 0, .ref (qm 15), .long ((FP.ddiv (db (tn (Mm.1 j_me) (Mm.2 j_me) 3)) v99).toInt64)]) := by rw [eF108]; exact hFo_107
          have hFqm0_F108 : F108 (qm 0) = cI (cy 1) 10 (upd Mm.1 j_me 3) := by rw [eF108]; exact hFqm0_107
          have hFqm1_F108 : F108 (qm 1) = cJ (cy 2) 10 (vp_updL Mm.2 j_me r105) := by rw [eF108]; exact hFqm1_107
          have hFqm2_F108 : F108 (qm 2) = cD (cy 0) 6 Dd.1 := by rw [eF108]; exact hFqm2_107
          have hFqm3_F108 : F108 (qm 3) = cD (cy 0) 6 Dd.2.1 := by rw [eF108]; exact hFqm3_107
          have hFqm4_F108 : F108 (qm 4) = cD (cy 0) 6 Dd.2.2.1 := by rw [eF108]; exact hFqm4_107
          have hFqm5_F108 : F108 (qm 5) = cJ (cy 2) 6 Dd.2.2.2 := by rw [eF108]; exact hFqm5_107
          have hFqm6_F108 : F108 (qm 6) = cI (cy 1) 8 Sl.1 := by rw [eF108]; exact hFqm6_107
          have hFqm7_F108 : F108 (qm 7) = cJ (cy 2) 128 Sl.2 := by rw [eF108]; exact hFqm7_107
          have hFqm8_F108 : F108 (qm 8) = cI (cy 1) 30 Pp.2.1 := by rw [eF108]; exact hFqm8_107
          have hFqm9_F108 : F108 (qm 9) = cI (cy 3) 30 Pp.2.2 := by rw [eF108]; exact hFqm9_107
          have hFqm10_F108 : F108 (qm 10) = cI (cy 1) 5 Kr.1 := by rw [eF108]; exact hFqm10_107
          have hFqm11_F108 : F108 (qm 11) = cI (cy 3) 5 Kr.2.1 := by rw [eF108]; exact hFqm11_107
          have hFqm12_F108 : F108 (qm 12) = cI (cy 1) 60 Kr.2.2 := by rw [eF108]; exact hFqm12_107
          have hFqm13_F108 : F108 (qm 13) = cI (cy 1) 4 Bk.1 := by rw [eF108]; exact hFqm13_107
          have hFqm14_F108 : F108 (qm 14) = cD (cy 0) 4 Bk.2 := by rw [eF108]; exact hFqm14_107
          have hFqm15_F108 : F108 (qm 15) = cI (cy 1) 6 Xx.2 := by rw [eF108]; exact hFqm15_107
          have hr109 := hqr109
          exact W.iret (v := r109) hx hb hr (fun t ht hW => ⟨⟨r109, F108, rfl, (by subst hr109 hr105 hr104 ev99 ev87; rw [tn23] at hFqm1_F108; have hsp : sp_slow Mm Bk Xx (nI j_br) (nI j_me) = (1, setM Mm j_me 3 (FP.f2d (FP.d2f (FP.ddiv (db (tn (Mm.1 j_me) (Mm.2 j_me) 3)) (Bk.2 j_br)))).toInt64, goodX Xx) := (by unfold sp_slow; rw [hi_br, hi_me]; show slw _ _ _ _ _ _ = _; unfold slw; rw [hbs]; exact (if_neg (by decide)).trans ((if_neg (by decide)).trans (if_neg (by rw [hnan]; decide)))); rw [hsp]; exact ⟨rfl, (by exact ⟨⟨_, _, hmo, hFo_F108⟩, ⟨hm0, hFqm0_F108⟩, ⟨hm1, hFqm1_F108⟩, ⟨hm2, hFqm2_F108⟩, ⟨hm3, hFqm3_F108⟩, ⟨hm4, hFqm4_F108⟩, ⟨hm5, hFqm5_F108⟩, ⟨hm6, hFqm6_F108⟩, ⟨hm7, hFqm7_F108⟩, ⟨hm8, hFqm8_F108⟩, ⟨hm9, hFqm9_F108⟩, ⟨hm10, hFqm10_F108⟩, ⟨hm11, hFqm11_F108⟩, ⟨hm12, hFqm12_F108⟩, ⟨hm13, hFqm13_F108⟩, ⟨hm14, hFqm14_F108⟩, ⟨hm15, hFqm15_F108⟩, hne⟩)⟩), (by show va_P _ _ _ t.heap; rw [ht]; exact hP)⟩, hS.F ht⟩) hS.2.2 dX9_slow_138

set_option maxHeartbeats 8000000 in
set_option maxRecDepth 100000 in
theorem n_failed (l : Launch) (G : va_G) (cy : Nat → ClassId) (L : List Nat) (F : Nat → va_E) (sz : Nat) (o : Nat) (qm : Nat → Nat) (Mm : SM) (Dd : SD) (Sl : SL) (Pp : SP) (Kr : SR) (Bk : SB) (Xx : SX) (hR : RepM cy L o qm Mm Dd Sl Pp Kr Bk Xx F) (hV : Val Mm Dd Sl Pp Kr Bk)  : Met l yX9_failed wsX9_failed ({ frames := 0, cells := 0, slots := 0, locals := 0 }) (va_Pc [.ref o] (fun U => bQ G cy L F sz U U.heap)) (va_Qi (fun (r : Int32) (F' : Nat → va_E) => r = Xx.1 ∧ RepM cy L o qm Mm Dd Sl Pp Kr Bk Xx F') (fun F' t => va_P G vwCl (va_pl L F') t.heap) (va_A (va_pl L F) sz)) 0 0 (va_A (va_pl L F) sz) := by
  refine Met.ofW (cc := cX9_failed) (maxL := 1) (ret := (some .int)) (by decide) rfl ?_
  intro p e s m args below meth c s₁ B hml hv
  obtain ⟨rfl, hsz, hP, hK, hD0⟩ := hv
  have hx := B.exec
  have hb := B.bytes
  have hr := B.returns
  have hts := atoms_spec (ws := wsX9_failed) B.pre
  have hown : s.vm.findClass RX9 = some m.cls := findClass_of_methodNamed B.named
  have hlocks := B.notSynchronized
  have hinX9 : ∀ w ∈ wsX90, w ∈ wsX9_failed := by decide +kernel
  subst hsz
  have hD := hD0.self F s.heap.size
  generalize hAe : va_A (va_pl L F) s.heap.size = A at hD ⊢
  have hA : ∀ q : Nat, s.heap.size ≤ q → A q := fun q h => by rw [← hAe]; exact Or.inr h
  have hS : va_S A s.heap s.heap [] := va_S.rf
  obtain ⟨⟨th, oc, hmo, hFo⟩, ⟨hm0, hF0⟩, ⟨hm1, hF1⟩, ⟨hm2, hF2⟩, ⟨hm3, hF3⟩, ⟨hm4, hF4⟩, ⟨hm5, hF5⟩, ⟨hm6, hF6⟩, ⟨hm7, hF7⟩, ⟨hm8, hF8⟩, ⟨hm9, hF9⟩, ⟨hm10, hF10⟩, ⟨hm11, hF11⟩, ⟨hm12, hF12⟩, ⟨hm13, hF13⟩, ⟨hm14, hF14⟩, ⟨hm15, hF15⟩, hne⟩ := id hR
  obtain ⟨hVM, hVD, hVS, hVP, hVK, hVB⟩ := hV
  have hl := lv_entry ([.ref o]) (n := 1) (Nat.le_of_ble_eq_true rfl)
  rw [lg_entry_eq]
  generalize (lg_sl ([.ref o]) ++ List.replicate (1 - (lg_sl ([.ref o])).length) Slot.unset).toArray = ls at hl ⊢
  have hl : lv_has ls 1 [(0, .ref o)] := hl
  refine lv_aload_n hx hb dX9_failed_0 rfl (lv_at hl 0 rfl) ?_
  refine lv_iconst (v := 0) hx hb dX9_failed_1 (by decide) ?_
  refine pg_put (ci := 8) (v := .int 0) (ty := .int) (C := RX9) (T := TX9) (N := 20) hx hb hts hinX9 tyX9 tyX9_ok nmX9 hown hK hP hD hS hmo hFo rfl 0 (by decide) (hts (.fieldLink RX9 61 "RopeDrumsModel" "thrown" "I") (by decide +kernel)) (fun _ h9 => h9) rfl (by decide +kernel) (rfl) (rfl) (Nat.le_of_ble_eq_true rfl) dX9_failed_2 (fun H locs F1 eF1 hP hS => ?_)
  have eF1 : F1 = va_up F o (.inr (8, [.int 0, .ref (qm 0), .ref (qm 1), .ref (qm 2), .ref (qm 3), .ref (qm 4), .ref (qm 5), .ref (qm 6), .ref (qm 7), .int Pp.1, .ref (qm 8), .ref (qm 9), .ref (qm 10), .ref (qm 11), .ref (qm 12), .ref (qm 13), .ref (qm 14), .int Xx.1, .ref (qm 15), .long oc])) := eF1
  have hFo_1 : F1 o = .inr (8, [.int 0, .ref (qm 0), .ref (qm 1), .ref (qm 2), .ref (qm 3), .ref (qm 4), .ref (qm 5), .ref (qm 6), .ref (qm 7), .int Pp.1, .ref (qm 8), .ref (qm 9), .ref (qm 10), .ref (qm 11), .ref (qm 12), .ref (qm 13), .ref (qm 14), .int Xx.1, .ref (qm 15), .long oc]) := by rw [eF1]; exact va_up_self _ _ _
  have hFqm0_1 : F1 (qm 0) = cI (cy 1) 10 Mm.1 := by rw [eF1, va_up_ne _ _ (pl_ne hF0 hFo rfl)]; exact hF0
  have hFqm1_1 : F1 (qm 1) = cJ (cy 2) 10 Mm.2 := by rw [eF1, va_up_ne _ _ (pl_ne hF1 hFo rfl)]; exact hF1
  have hFqm2_1 : F1 (qm 2) = cD (cy 0) 6 Dd.1 := by rw [eF1, va_up_ne _ _ (pl_ne hF2 hFo rfl)]; exact hF2
  have hFqm3_1 : F1 (qm 3) = cD (cy 0) 6 Dd.2.1 := by rw [eF1, va_up_ne _ _ (pl_ne hF3 hFo rfl)]; exact hF3
  have hFqm4_1 : F1 (qm 4) = cD (cy 0) 6 Dd.2.2.1 := by rw [eF1, va_up_ne _ _ (pl_ne hF4 hFo rfl)]; exact hF4
  have hFqm5_1 : F1 (qm 5) = cJ (cy 2) 6 Dd.2.2.2 := by rw [eF1, va_up_ne _ _ (pl_ne hF5 hFo rfl)]; exact hF5
  have hFqm6_1 : F1 (qm 6) = cI (cy 1) 8 Sl.1 := by rw [eF1, va_up_ne _ _ (pl_ne hF6 hFo rfl)]; exact hF6
  have hFqm7_1 : F1 (qm 7) = cJ (cy 2) 128 Sl.2 := by rw [eF1, va_up_ne _ _ (pl_ne hF7 hFo rfl)]; exact hF7
  have hFqm8_1 : F1 (qm 8) = cI (cy 1) 30 Pp.2.1 := by rw [eF1, va_up_ne _ _ (pl_ne hF8 hFo rfl)]; exact hF8
  have hFqm9_1 : F1 (qm 9) = cI (cy 3) 30 Pp.2.2 := by rw [eF1, va_up_ne _ _ (pl_ne hF9 hFo rfl)]; exact hF9
  have hFqm10_1 : F1 (qm 10) = cI (cy 1) 5 Kr.1 := by rw [eF1, va_up_ne _ _ (pl_ne hF10 hFo rfl)]; exact hF10
  have hFqm11_1 : F1 (qm 11) = cI (cy 3) 5 Kr.2.1 := by rw [eF1, va_up_ne _ _ (pl_ne hF11 hFo rfl)]; exact hF11
  have hFqm12_1 : F1 (qm 12) = cI (cy 1) 60 Kr.2.2 := by rw [eF1, va_up_ne _ _ (pl_ne hF12 hFo rfl)]; exact hF12
  have hFqm13_1 : F1 (qm 13) = cI (cy 1) 4 Bk.1 := by rw [eF1, va_up_ne _ _ (pl_ne hF13 hFo rfl)]; exact hF13
  have hFqm14_1 : F1 (qm 14) = cD (cy 0) 4 Bk.2 := by rw [eF1, va_up_ne _ _ (pl_ne hF14 hFo rfl)]; exact hF14
  have hFqm15_1 : F1 (qm 15) = cI (cy 1) 6 Xx.2 := by rw [eF1, va_up_ne _ _ (pl_ne hF15 hFo rfl)]; exact hF15
  refine lv_aload_n hx hb dX9_failed_5 rfl (lv_at hl 0 rfl) ?_
  refine pg_get (ci := 8) (C := RX9) (T := TX9) (N := 20) hx hb hts hinX9 hown hK hP hmo hFo_1 rfl 17 (by decide) (hts (.fieldLink RX9 65 "RopeDrumsModel" "failed" "I") (by decide +kernel)) (fun _ h9 => h9) rfl dX9_failed_6 ?_
  exact W.iret (v := Xx.1) hx hb hr (fun t ht hW => ⟨⟨Xx.1, F1, rfl, (by exact ⟨rfl, ⟨⟨_, _, hmo, hFo_1⟩, ⟨hm0, hFqm0_1⟩, ⟨hm1, hFqm1_1⟩, ⟨hm2, hFqm2_1⟩, ⟨hm3, hFqm3_1⟩, ⟨hm4, hFqm4_1⟩, ⟨hm5, hFqm5_1⟩, ⟨hm6, hFqm6_1⟩, ⟨hm7, hFqm7_1⟩, ⟨hm8, hFqm8_1⟩, ⟨hm9, hFqm9_1⟩, ⟨hm10, hFqm10_1⟩, ⟨hm11, hFqm11_1⟩, ⟨hm12, hFqm12_1⟩, ⟨hm13, hFqm13_1⟩, ⟨hm14, hFqm14_1⟩, ⟨hm15, hFqm15_1⟩, hne⟩⟩), (by show va_P _ _ _ t.heap; rw [ht]; exact hP)⟩, hS.F ht⟩) hS.2.2 dX9_failed_9

set_option maxHeartbeats 8000000 in
set_option maxRecDepth 100000 in
theorem n_count (l : Launch) (G : va_G) (cy : Nat → ClassId) (L : List Nat) (F : Nat → va_E) (sz : Nat) (o : Nat) (qm : Nat → Nat) (Mm : SM) (Dd : SD) (Sl : SL) (Pp : SP) (Kr : SR) (Bk : SB) (Xx : SX) (hR : RepM cy L o qm Mm Dd Sl Pp Kr Bk Xx F) (hV : Val Mm Dd Sl Pp Kr Bk) (wh : Int32)  : Met l yX9_count wsX9_count ({ frames := 1, cells := 0, slots := 0, locals := 25 }) (va_Pc [.ref o, .int wh] (fun U => bQ G cy L F sz U U.heap)) (va_Qi (fun (r : Int32) (F' : Nat → va_E) => r = sp_count Pp Xx wh ∧ RepM cy L o qm Mm Dd Sl Pp Kr Bk Xx F') (fun F' t => va_P G vwCl (va_pl L F') t.heap) (va_A (va_pl L F) sz)) 0 0 (va_A (va_pl L F) sz) := by
  refine Met.ofW (cc := cX9_count) (maxL := 2) (ret := (some .int)) (by decide) rfl ?_
  intro p e s m args below meth c s₁ B hml hv
  obtain ⟨rfl, hsz, hP, hK, hD0⟩ := hv
  have hx := B.exec
  have hb := B.bytes
  have hr := B.returns
  have hts := atoms_spec (ws := wsX9_count) B.pre
  have hown : s.vm.findClass RX9 = some m.cls := findClass_of_methodNamed B.named
  have hlocks := B.notSynchronized
  have hinX9 : ∀ w ∈ wsX90, w ∈ wsX9_count := by decide +kernel
  subst hsz
  have hD := hD0.self F s.heap.size
  generalize hAe : va_A (va_pl L F) s.heap.size = A at hD ⊢
  have hA : ∀ q : Nat, s.heap.size ≤ q → A q := fun q h => by rw [← hAe]; exact Or.inr h
  have hS : va_S A s.heap s.heap [] := va_S.rf
  obtain ⟨⟨th, oc, hmo, hFo⟩, ⟨hm0, hF0⟩, ⟨hm1, hF1⟩, ⟨hm2, hF2⟩, ⟨hm3, hF3⟩, ⟨hm4, hF4⟩, ⟨hm5, hF5⟩, ⟨hm6, hF6⟩, ⟨hm7, hF7⟩, ⟨hm8, hF8⟩, ⟨hm9, hF9⟩, ⟨hm10, hF10⟩, ⟨hm11, hF11⟩, ⟨hm12, hF12⟩, ⟨hm13, hF13⟩, ⟨hm14, hF14⟩, ⟨hm15, hF15⟩, hne⟩ := id hR
  obtain ⟨hVM, hVD, hVS, hVP, hVK, hVB⟩ := hV
  have hl := lv_entry ([.ref o, .int wh]) (n := 2) (Nat.le_of_ble_eq_true rfl)
  rw [lg_entry_eq]
  generalize (lg_sl ([.ref o, .int wh]) ++ List.replicate (2 - (lg_sl ([.ref o, .int wh])).length) Slot.unset).toArray = ls at hl ⊢
  have hl : lv_has ls 2 [(0, .ref o), (1, .int wh)] := hl
  by_cases hcw : 1 ≤ wh.toInt ∧ wh.toInt ≤ 5
  · refine lv_aload_n hx hb dX9_count_0 rfl (lv_at hl 0 rfl) ?_
    refine lv_iconst (v := 0) hx hb dX9_count_1 (by decide) ?_
    refine pg_put (ci := 8) (v := .int 0) (ty := .int) (C := RX9) (T := TX9) (N := 20) hx hb hts hinX9 tyX9 tyX9_ok nmX9 hown hK hP hD hS hmo hFo rfl 0 (by decide) (hts (.fieldLink RX9 61 "RopeDrumsModel" "thrown" "I") (by decide +kernel)) (fun _ h9 => h9) rfl (by decide +kernel) (rfl) (rfl) (Nat.le_of_ble_eq_true rfl) dX9_count_2 (fun H locs F1 eF1 hP hS => ?_)
    have eF1 : F1 = va_up F o (.inr (8, [.int 0, .ref (qm 0), .ref (qm 1), .ref (qm 2), .ref (qm 3), .ref (qm 4), .ref (qm 5), .ref (qm 6), .ref (qm 7), .int Pp.1, .ref (qm 8), .ref (qm 9), .ref (qm 10), .ref (qm 11), .ref (qm 12), .ref (qm 13), .ref (qm 14), .int Xx.1, .ref (qm 15), .long oc])) := eF1
    have hFo_1 : F1 o = .inr (8, [.int 0, .ref (qm 0), .ref (qm 1), .ref (qm 2), .ref (qm 3), .ref (qm 4), .ref (qm 5), .ref (qm 6), .ref (qm 7), .int Pp.1, .ref (qm 8), .ref (qm 9), .ref (qm 10), .ref (qm 11), .ref (qm 12), .ref (qm 13), .ref (qm 14), .int Xx.1, .ref (qm 15), .long oc]) := by rw [eF1]; exact va_up_self _ _ _
    have hFqm0_1 : F1 (qm 0) = cI (cy 1) 10 Mm.1 := by rw [eF1, va_up_ne _ _ (pl_ne hF0 hFo rfl)]; exact hF0
    have hFqm1_1 : F1 (qm 1) = cJ (cy 2) 10 Mm.2 := by rw [eF1, va_up_ne _ _ (pl_ne hF1 hFo rfl)]; exact hF1
    have hFqm2_1 : F1 (qm 2) = cD (cy 0) 6 Dd.1 := by rw [eF1, va_up_ne _ _ (pl_ne hF2 hFo rfl)]; exact hF2
    have hFqm3_1 : F1 (qm 3) = cD (cy 0) 6 Dd.2.1 := by rw [eF1, va_up_ne _ _ (pl_ne hF3 hFo rfl)]; exact hF3
    have hFqm4_1 : F1 (qm 4) = cD (cy 0) 6 Dd.2.2.1 := by rw [eF1, va_up_ne _ _ (pl_ne hF4 hFo rfl)]; exact hF4
    have hFqm5_1 : F1 (qm 5) = cJ (cy 2) 6 Dd.2.2.2 := by rw [eF1, va_up_ne _ _ (pl_ne hF5 hFo rfl)]; exact hF5
    have hFqm6_1 : F1 (qm 6) = cI (cy 1) 8 Sl.1 := by rw [eF1, va_up_ne _ _ (pl_ne hF6 hFo rfl)]; exact hF6
    have hFqm7_1 : F1 (qm 7) = cJ (cy 2) 128 Sl.2 := by rw [eF1, va_up_ne _ _ (pl_ne hF7 hFo rfl)]; exact hF7
    have hFqm8_1 : F1 (qm 8) = cI (cy 1) 30 Pp.2.1 := by rw [eF1, va_up_ne _ _ (pl_ne hF8 hFo rfl)]; exact hF8
    have hFqm9_1 : F1 (qm 9) = cI (cy 3) 30 Pp.2.2 := by rw [eF1, va_up_ne _ _ (pl_ne hF9 hFo rfl)]; exact hF9
    have hFqm10_1 : F1 (qm 10) = cI (cy 1) 5 Kr.1 := by rw [eF1, va_up_ne _ _ (pl_ne hF10 hFo rfl)]; exact hF10
    have hFqm11_1 : F1 (qm 11) = cI (cy 3) 5 Kr.2.1 := by rw [eF1, va_up_ne _ _ (pl_ne hF11 hFo rfl)]; exact hF11
    have hFqm12_1 : F1 (qm 12) = cI (cy 1) 60 Kr.2.2 := by rw [eF1, va_up_ne _ _ (pl_ne hF12 hFo rfl)]; exact hF12
    have hFqm13_1 : F1 (qm 13) = cI (cy 1) 4 Bk.1 := by rw [eF1, va_up_ne _ _ (pl_ne hF13 hFo rfl)]; exact hF13
    have hFqm14_1 : F1 (qm 14) = cD (cy 0) 4 Bk.2 := by rw [eF1, va_up_ne _ _ (pl_ne hF14 hFo rfl)]; exact hF14
    have hFqm15_1 : F1 (qm 15) = cI (cy 1) 6 Xx.2 := by rw [eF1, va_up_ne _ _ (pl_ne hF15 hFo rfl)]; exact hF15
    refine lv_iload_n hx hb dX9_count_5 rfl (lv_at hl 1 rfl) ?_
    refine lv_if_ne (tgt := 16) hx hb dX9_count_6 (by decide) (fun c2 => ?_) (fun c2 => ?_)
    · refine lv_iload_n hx hb dX9_count_16 rfl (lv_at hl 1 rfl) ?_
      refine lv_i2l hx hb dX9_count_17 rfl ?_
      refine lv_topl (fun v3 ev3 => ?_)
      refine lv_lconst (v := 1) hx hb dX9_count_18 (by decide) ?_
      refine lv_ldc2 hx hb hown (hts (.constantLong RX9 161 (5)) (by decide +kernel)) dX9_count_19 ?_
      refine vp_callSi (W.runS (As := [.long v3, .long 1, .long 5]) (rest := []) ⟨hx, hb, hml, hown, hts⟩ (c9_in l v3 1 5) (va_cwS 3 hts gX9_count_X9_in rfl rfl rfl (by decide +kernel) ⟨Nat.le_of_ble_eq_true rfl, Nat.le_of_ble_eq_true rfl⟩) (preS_of okT (trivial)) rfl rfl hl.1 rfl (lv_room (Nat.le_of_ble_eq_true rfl)) dX9_count_22 ⟨Nat.le_of_ble_eq_true rfl, Nat.le_of_ble_eq_true rfl⟩) (fun r4 hr4 => ?_)
      have hzr4 : r4 = 1 := by rw [hr4, ev3, inq_i (y := 1) (z := 5) (by decide) (by decide)]; exact if_pos (hcw)
      subst hzr4
      refine lv_if_eq (tgt := 37) hx hb dX9_count_25 (by decide) (fun c5 => absurd c5 (by decide)) (fun c5 => ?_)
      refine lv_aload_n hx hb dX9_count_28 rfl (lv_at hl 0 rfl) ?_
      refine pg_get (ci := 8) (C := RX9) (T := TX9) (N := 20) hx hb hts hinX9 hown hK hP hmo hFo_1 rfl 18 (by decide) (hts (.fieldLink RX9 58 "RopeDrumsModel" "counted" "[I") (by decide +kernel)) (fun _ h9 => h9) rfl dX9_count_29 ?_
      refine lv_iload_n hx hb dX9_count_32 rfl (lv_at hl 1 rfl) ?_
      refine pg_iald hx hb hK hP 1 hm15 hFqm15_1 rfl (vp_in_iff.mpr (by omega)) dX9_count_33 ?_
      refine lv_topi (fun v6 ev6 => ?_)
      refine lv_goto (tgt := 40) hx hb dX9_count_34 (by decide) ?_
      exact W.iret (v := v6) hx hb hr (fun t ht hW => ⟨⟨v6, F1, rfl, (by subst ev6 ev3; exact ⟨((if_neg c2).trans (if_pos hcw)).symm, ⟨⟨_, _, hmo, hFo_1⟩, ⟨hm0, hFqm0_1⟩, ⟨hm1, hFqm1_1⟩, ⟨hm2, hFqm2_1⟩, ⟨hm3, hFqm3_1⟩, ⟨hm4, hFqm4_1⟩, ⟨hm5, hFqm5_1⟩, ⟨hm6, hFqm6_1⟩, ⟨hm7, hFqm7_1⟩, ⟨hm8, hFqm8_1⟩, ⟨hm9, hFqm9_1⟩, ⟨hm10, hFqm10_1⟩, ⟨hm11, hFqm11_1⟩, ⟨hm12, hFqm12_1⟩, ⟨hm13, hFqm13_1⟩, ⟨hm14, hFqm14_1⟩, ⟨hm15, hFqm15_1⟩, hne⟩⟩), (by show va_P _ _ _ t.heap; rw [ht]; exact hP)⟩, hS.F ht⟩) hS.2.2 dX9_count_40
    · refine lv_aload_n hx hb dX9_count_9 rfl (lv_at hl 0 rfl) ?_
      refine pg_get (ci := 8) (C := RX9) (T := TX9) (N := 20) hx hb hts hinX9 hown hK hP hmo hFo_1 rfl 9 (by decide) (hts (.fieldLink RX9 192 "RopeDrumsModel" "spools" "I") (by decide +kernel)) (fun _ h9 => h9) rfl dX9_count_10 ?_
      refine lv_goto (tgt := 40) hx hb dX9_count_13 (by decide) ?_
      exact W.iret (v := Pp.1) hx hb hr (fun t ht hW => ⟨⟨Pp.1, F1, rfl, (by exact ⟨(if_pos c2).symm, ⟨⟨_, _, hmo, hFo_1⟩, ⟨hm0, hFqm0_1⟩, ⟨hm1, hFqm1_1⟩, ⟨hm2, hFqm2_1⟩, ⟨hm3, hFqm3_1⟩, ⟨hm4, hFqm4_1⟩, ⟨hm5, hFqm5_1⟩, ⟨hm6, hFqm6_1⟩, ⟨hm7, hFqm7_1⟩, ⟨hm8, hFqm8_1⟩, ⟨hm9, hFqm9_1⟩, ⟨hm10, hFqm10_1⟩, ⟨hm11, hFqm11_1⟩, ⟨hm12, hFqm12_1⟩, ⟨hm13, hFqm13_1⟩, ⟨hm14, hFqm14_1⟩, ⟨hm15, hFqm15_1⟩, hne⟩⟩), (by show va_P _ _ _ t.heap; rw [ht]; exact hP)⟩, hS.F ht⟩) hS.2.2 dX9_count_40
  · refine lv_aload_n hx hb dX9_count_0 rfl (lv_at hl 0 rfl) ?_
    refine lv_iconst (v := 0) hx hb dX9_count_1 (by decide) ?_
    refine pg_put (ci := 8) (v := .int 0) (ty := .int) (C := RX9) (T := TX9) (N := 20) hx hb hts hinX9 tyX9 tyX9_ok nmX9 hown hK hP hD hS hmo hFo rfl 0 (by decide) (hts (.fieldLink RX9 61 "RopeDrumsModel" "thrown" "I") (by decide +kernel)) (fun _ h9 => h9) rfl (by decide +kernel) (rfl) (rfl) (Nat.le_of_ble_eq_true rfl) dX9_count_2 (fun H locs F7 eF7 hP hS => ?_)
    have eF7 : F7 = va_up F o (.inr (8, [.int 0, .ref (qm 0), .ref (qm 1), .ref (qm 2), .ref (qm 3), .ref (qm 4), .ref (qm 5), .ref (qm 6), .ref (qm 7), .int Pp.1, .ref (qm 8), .ref (qm 9), .ref (qm 10), .ref (qm 11), .ref (qm 12), .ref (qm 13), .ref (qm 14), .int Xx.1, .ref (qm 15), .long oc])) := eF7
    have hFo_7 : F7 o = .inr (8, [.int 0, .ref (qm 0), .ref (qm 1), .ref (qm 2), .ref (qm 3), .ref (qm 4), .ref (qm 5), .ref (qm 6), .ref (qm 7), .int Pp.1, .ref (qm 8), .ref (qm 9), .ref (qm 10), .ref (qm 11), .ref (qm 12), .ref (qm 13), .ref (qm 14), .int Xx.1, .ref (qm 15), .long oc]) := by rw [eF7]; exact va_up_self _ _ _
    have hFqm0_7 : F7 (qm 0) = cI (cy 1) 10 Mm.1 := by rw [eF7, va_up_ne _ _ (pl_ne hF0 hFo rfl)]; exact hF0
    have hFqm1_7 : F7 (qm 1) = cJ (cy 2) 10 Mm.2 := by rw [eF7, va_up_ne _ _ (pl_ne hF1 hFo rfl)]; exact hF1
    have hFqm2_7 : F7 (qm 2) = cD (cy 0) 6 Dd.1 := by rw [eF7, va_up_ne _ _ (pl_ne hF2 hFo rfl)]; exact hF2
    have hFqm3_7 : F7 (qm 3) = cD (cy 0) 6 Dd.2.1 := by rw [eF7, va_up_ne _ _ (pl_ne hF3 hFo rfl)]; exact hF3
    have hFqm4_7 : F7 (qm 4) = cD (cy 0) 6 Dd.2.2.1 := by rw [eF7, va_up_ne _ _ (pl_ne hF4 hFo rfl)]; exact hF4
    have hFqm5_7 : F7 (qm 5) = cJ (cy 2) 6 Dd.2.2.2 := by rw [eF7, va_up_ne _ _ (pl_ne hF5 hFo rfl)]; exact hF5
    have hFqm6_7 : F7 (qm 6) = cI (cy 1) 8 Sl.1 := by rw [eF7, va_up_ne _ _ (pl_ne hF6 hFo rfl)]; exact hF6
    have hFqm7_7 : F7 (qm 7) = cJ (cy 2) 128 Sl.2 := by rw [eF7, va_up_ne _ _ (pl_ne hF7 hFo rfl)]; exact hF7
    have hFqm8_7 : F7 (qm 8) = cI (cy 1) 30 Pp.2.1 := by rw [eF7, va_up_ne _ _ (pl_ne hF8 hFo rfl)]; exact hF8
    have hFqm9_7 : F7 (qm 9) = cI (cy 3) 30 Pp.2.2 := by rw [eF7, va_up_ne _ _ (pl_ne hF9 hFo rfl)]; exact hF9
    have hFqm10_7 : F7 (qm 10) = cI (cy 1) 5 Kr.1 := by rw [eF7, va_up_ne _ _ (pl_ne hF10 hFo rfl)]; exact hF10
    have hFqm11_7 : F7 (qm 11) = cI (cy 3) 5 Kr.2.1 := by rw [eF7, va_up_ne _ _ (pl_ne hF11 hFo rfl)]; exact hF11
    have hFqm12_7 : F7 (qm 12) = cI (cy 1) 60 Kr.2.2 := by rw [eF7, va_up_ne _ _ (pl_ne hF12 hFo rfl)]; exact hF12
    have hFqm13_7 : F7 (qm 13) = cI (cy 1) 4 Bk.1 := by rw [eF7, va_up_ne _ _ (pl_ne hF13 hFo rfl)]; exact hF13
    have hFqm14_7 : F7 (qm 14) = cD (cy 0) 4 Bk.2 := by rw [eF7, va_up_ne _ _ (pl_ne hF14 hFo rfl)]; exact hF14
    have hFqm15_7 : F7 (qm 15) = cI (cy 1) 6 Xx.2 := by rw [eF7, va_up_ne _ _ (pl_ne hF15 hFo rfl)]; exact hF15
    refine lv_iload_n hx hb dX9_count_5 rfl (lv_at hl 1 rfl) ?_
    refine lv_if_ne (tgt := 16) hx hb dX9_count_6 (by decide) (fun c8 => ?_) (fun c8 => ?_)
    · refine lv_iload_n hx hb dX9_count_16 rfl (lv_at hl 1 rfl) ?_
      refine lv_i2l hx hb dX9_count_17 rfl ?_
      refine lv_topl (fun v9 ev9 => ?_)
      refine lv_lconst (v := 1) hx hb dX9_count_18 (by decide) ?_
      refine lv_ldc2 hx hb hown (hts (.constantLong RX9 161 (5)) (by decide +kernel)) dX9_count_19 ?_
      refine vp_callSi (W.runS (As := [.long v9, .long 1, .long 5]) (rest := []) ⟨hx, hb, hml, hown, hts⟩ (c9_in l v9 1 5) (va_cwS 3 hts gX9_count_X9_in rfl rfl rfl (by decide +kernel) ⟨Nat.le_of_ble_eq_true rfl, Nat.le_of_ble_eq_true rfl⟩) (preS_of okT (trivial)) rfl rfl hl.1 rfl (lv_room (Nat.le_of_ble_eq_true rfl)) dX9_count_22 ⟨Nat.le_of_ble_eq_true rfl, Nat.le_of_ble_eq_true rfl⟩) (fun r10 hr10 => ?_)
      have hzr10 : r10 = 0 := by rw [hr10, ev9, inq_i (y := 1) (z := 5) (by decide) (by decide)]; exact if_neg (hcw)
      subst hzr10
      refine lv_if_eq (tgt := 37) hx hb dX9_count_25 (by decide) (fun c11 => ?_) (fun c11 => absurd (by decide) c11)
      refine lv_sipush (v := -1002) hx hb dX9_count_37 (by decide) ?_
      exact W.iret (v := -1002) hx hb hr (fun t ht hW => ⟨⟨-1002, F7, rfl, (by subst ev9; exact ⟨((if_neg c8).trans (if_neg hcw)).symm, ⟨⟨_, _, hmo, hFo_7⟩, ⟨hm0, hFqm0_7⟩, ⟨hm1, hFqm1_7⟩, ⟨hm2, hFqm2_7⟩, ⟨hm3, hFqm3_7⟩, ⟨hm4, hFqm4_7⟩, ⟨hm5, hFqm5_7⟩, ⟨hm6, hFqm6_7⟩, ⟨hm7, hFqm7_7⟩, ⟨hm8, hFqm8_7⟩, ⟨hm9, hFqm9_7⟩, ⟨hm10, hFqm10_7⟩, ⟨hm11, hFqm11_7⟩, ⟨hm12, hFqm12_7⟩, ⟨hm13, hFqm13_7⟩, ⟨hm14, hFqm14_7⟩, ⟨hm15, hFqm15_7⟩, hne⟩⟩), (by show va_P _ _ _ t.heap; rw [ht]; exact hP)⟩, hS.F ht⟩) hS.2.2 dX9_count_40
    · refine lv_aload_n hx hb dX9_count_9 rfl (lv_at hl 0 rfl) ?_
      refine pg_get (ci := 8) (C := RX9) (T := TX9) (N := 20) hx hb hts hinX9 hown hK hP hmo hFo_7 rfl 9 (by decide) (hts (.fieldLink RX9 192 "RopeDrumsModel" "spools" "I") (by decide +kernel)) (fun _ h9 => h9) rfl dX9_count_10 ?_
      refine lv_goto (tgt := 40) hx hb dX9_count_13 (by decide) ?_
      exact W.iret (v := Pp.1) hx hb hr (fun t ht hW => ⟨⟨Pp.1, F7, rfl, (by exact ⟨(if_pos c8).symm, ⟨⟨_, _, hmo, hFo_7⟩, ⟨hm0, hFqm0_7⟩, ⟨hm1, hFqm1_7⟩, ⟨hm2, hFqm2_7⟩, ⟨hm3, hFqm3_7⟩, ⟨hm4, hFqm4_7⟩, ⟨hm5, hFqm5_7⟩, ⟨hm6, hFqm6_7⟩, ⟨hm7, hFqm7_7⟩, ⟨hm8, hFqm8_7⟩, ⟨hm9, hFqm9_7⟩, ⟨hm10, hFqm10_7⟩, ⟨hm11, hFqm11_7⟩, ⟨hm12, hFqm12_7⟩, ⟨hm13, hFqm13_7⟩, ⟨hm14, hFqm14_7⟩, ⟨hm15, hFqm15_7⟩, hne⟩⟩), (by show va_P _ _ _ t.heap; rw [ht]; exact hP)⟩, hS.F ht⟩) hS.2.2 dX9_count_40
