theorem vfid {α : Type} (f : Nat → α) (j : Nat) : vf_upd f j (f j) = f := by
  funext i
  unfold vf_upd
  by_cases h : i = j
  · rw [if_pos h, h]
  · rw [if_neg h]
theorem numB3g {n : Nat} (hn : n < 2 ^ 64) (h : numB 3 (lN n) = true) : FP.Core.val64 (db (lN n)) ≠ .nan := by
  by_cases q : n % 2 ^ 63 ≤ 9218868437227405312
  · rw [FP.Core.ne_nan]
    unfold db
    rw [lN_u, u_tn hn]
    exact q
  · exact absurd h (numB3 hn q)
theorem cmpL1 {a b : Int64} (h : ¬ 0 ≤ lg_cmp a b) : cmpL a b = -1 := by
  rw [lg_cmp_ge] at h
  exact if_pos (Int64.not_le.mp h)
theorem cmpL2 {a b : Int64} (h : 0 ≤ lg_cmp a b) (h2 : ¬ lg_cmp a b ≤ 0) : cmpL a b = 1 := by
  rw [lg_cmp_ge] at h
  rw [lg_cmp_le] at h2
  exact (if_neg (Int64.not_lt.mpr h)).trans (if_pos (Int64.not_le.mp h2))
theorem cmpL3 {a b : Int64} (h : 0 ≤ lg_cmp a b) (h2 : lg_cmp a b ≤ 0) : cmpL a b = 0 := by
  rw [lg_cmp_ge] at h
  rw [lg_cmp_le] at h2
  exact (if_neg (Int64.not_lt.mpr h)).trans (if_neg (Int64.not_lt.mpr h2))
theorem cmpD1 {a b : UInt64} {op : CmpOp} (ha : FP.Core.val64 a ≠ .nan) (hb : FP.Core.val64 b ≠ .nan) (h : ¬ 0 ≤ Op.cmpValue (FP.dcmp a b) op) : cmpD a b = -1 := by
  rw [dcmpk ha hb, cv_ge] at h
  exact if_pos (by omega)
theorem cmpD2 {a b : UInt64} {op op2 : CmpOp} (ha : FP.Core.val64 a ≠ .nan) (hb : FP.Core.val64 b ≠ .nan) (h : 0 ≤ Op.cmpValue (FP.dcmp a b) op) (h2 : ¬ Op.cmpValue (FP.dcmp a b) op2 ≤ 0) : cmpD a b = 1 := by
  rw [dcmpk ha hb, cv_ge] at h
  rw [dcmpk ha hb, cv_le] at h2
  exact (if_neg (by omega)).trans (if_pos (by omega))
theorem cmpD3 {a b : UInt64} {op op2 : CmpOp} (ha : FP.Core.val64 a ≠ .nan) (hb : FP.Core.val64 b ≠ .nan) (h : 0 ≤ Op.cmpValue (FP.dcmp a b) op) (h2 : Op.cmpValue (FP.dcmp a b) op2 ≤ 0) : cmpD a b = 0 := by
  rw [dcmpk ha hb, cv_ge] at h
  rw [dcmpk ha hb, cv_le] at h2
  exact (if_neg (by omega)).trans (if_neg (by omega))

set_option maxHeartbeats 8000000 in
set_option maxRecDepth 100000 in
theorem n_compare (l : Launch) (G : va_G) (cy : Nat → ClassId) (L : List Nat) (F : Nat → va_E) (sz : Nat) (o : Nat) (qm : Nat → Nat) (Mm : SM) (Dd : SD) (Sl : SL) (Pp : SP) (Kr : SR) (Bk : SB) (Xx : SX) (hR : RepM cy L o qm Mm Dd Sl Pp Kr Bk Xx F) (hV : Val Mm Dd Sl Pp Kr Bk) (x y : Int32)  : Met l yX9_compare wsX9_compare ({ frames := 3, cells := 0, slots := 0, locals := 70 }) (va_Pc [.ref o, .int x, .int y] (fun U => bQ G cy L F sz U U.heap)) (va_Qi (fun (r : Int32) (F' : Nat → va_E) => r = sp_cmp Mm x y ∧ RepM cy L o qm Mm Dd Sl Pp Kr Bk Xx F') (fun F' t => va_P G vwCl (va_pl L F') t.heap) (va_A (va_pl L F) sz)) 0 0 (va_A (va_pl L F) sz) := by
  refine Met.ofW (cc := cX9_compare) (maxL := 12) (ret := (some .int)) (by decide) rfl ?_
  intro p e s m args below meth c s₁ B hml hv
  obtain ⟨rfl, hsz, hP, hK, hD0⟩ := hv
  have hx := B.exec
  have hb := B.bytes
  have hr := B.returns
  have hts := atoms_spec (ws := wsX9_compare) B.pre
  have hown : s.vm.findClass RX9 = some m.cls := findClass_of_methodNamed B.named
  have hlocks := B.notSynchronized
  have hinX9 : ∀ w ∈ wsX90, w ∈ wsX9_compare := by decide +kernel
  subst hsz
  have hD := hD0.self F s.heap.size
  generalize hAe : va_A (va_pl L F) s.heap.size = A at hD ⊢
  have hA : ∀ q : Nat, s.heap.size ≤ q → A q := fun q h => by rw [← hAe]; exact Or.inr h
  have hS : va_S A s.heap s.heap [] := va_S.rf
  obtain ⟨⟨th, oc, hmo, hFo⟩, ⟨hm0, hF0⟩, ⟨hm1, hF1⟩, ⟨hm2, hF2⟩, ⟨hm3, hF3⟩, ⟨hm4, hF4⟩, ⟨hm5, hF5⟩, ⟨hm6, hF6⟩, ⟨hm7, hF7⟩, ⟨hm8, hF8⟩, ⟨hm9, hF9⟩, ⟨hm10, hF10⟩, ⟨hm11, hF11⟩, ⟨hm12, hF12⟩, ⟨hm13, hF13⟩, ⟨hm14, hF14⟩, ⟨hm15, hF15⟩, hne⟩ := id hR
  obtain ⟨hVM, hVD, hVS, hVP, hVK, hVB⟩ := hV
  have hl := lv_entry ([.ref o, .int x, .int y]) (n := 12) (Nat.le_of_ble_eq_true rfl)
  rw [lg_entry_eq]
  generalize (lg_sl ([.ref o, .int x, .int y]) ++ List.replicate (12 - (lg_sl ([.ref o, .int x, .int y])).length) Slot.unset).toArray = ls at hl ⊢
  have hl : lv_has ls 12 [(0, .ref o), (1, .int x), (2, .int y)] := hl
  rcases ixc 10 x with hi_x | ⟨j_x, hj_x, hi_x, ei_x⟩
  · rcases ixc 10 y with hi_y | ⟨j_y, hj_y, hi_y, ei_y⟩
    · refine lv_aload_n hx hb dX9_compare_0 rfl (lv_at hl 0 rfl) ?_
      refine lv_iconst (v := 0) hx hb dX9_compare_1 (by decide) ?_
      refine pg_put (ci := 8) (v := .int 0) (ty := .int) (C := RX9) (T := TX9) (N := 20) hx hb hts hinX9 tyX9 tyX9_ok nmX9 hown hK hP hD hS hmo hFo rfl 0 (by decide) (hts (.fieldLink RX9 61 "RopeDrumsModel" "thrown" "I") (by decide +kernel)) (fun _ h9 => h9) rfl (by decide +kernel) (rfl) (rfl) (Nat.le_of_ble_eq_true rfl) dX9_compare_2 (fun H locs F1 eF1 hP hS => ?_)
      have eF1 : F1 = va_up F o (.inr (8, [.int 0, .ref (qm 0), .ref (qm 1), .ref (qm 2), .ref (qm 3), .ref (qm 4), .ref (qm 5), .ref (qm 6), .ref (qm 7), .int Pp.1, .ref (qm 8), .ref (qm 9), .ref (qm 10), .ref (qm 11), .ref (qm 12), .ref (qm 13), .ref (qm 14), .int Xx.1, .ref (qm 15), .long oc])) := eF1
      have hFo_1 : F1 o = .inr (8, [.int 0, .ref (qm 0), .ref (qm 1), .ref (qm 2), .ref (qm 3), .ref (qm 4), .ref (qm 5), .ref (qm 6), .ref (qm 7), .int Pp.1, .ref (qm 8), .ref (qm 9), .ref (qm 10), .ref (qm 11), .ref (qm 12), .ref (qm 13), .ref (qm 14), .int Xx.1, .ref (qm 15), .long oc]) := by rw [eF1]; exact va_up_self _ _ _
      have hFqm0_1 : F1 (qm 0) = cI (cy 1) 10 Mm.1 := by rw [eF1, va_up_ne _ _ (pl_ne hF0 hFo rfl)]; exact hF0
      have hFqm1_1 : F1 (qm 1) = cJ (cy 2) 10 Mm.2 := by rw [eF1, va_up_ne _ _ (pl_ne hF1 hFo rfl)]; exact hF1
      have hFqm2_1 : F1 (qm 2) = cD (cy 0) 6 Dd.1 := by rw [eF1, va_up_ne _ _ (pl_ne hF2 hFo rfl)]; exact hF2
      have hFqm3_1 : F1 (qm 3) = cD (cy 0) 6 Dd.2.1 := by rw [eF1, va_up_ne _ _ (pl_ne hF3 hFo rfl)]; exact hF3
      have hFqm4_1 : F1 (qm 4) = cD (cy 0) 6 Dd.2.2.1 := by rw [eF1, va_up_ne _ _ (pl_ne hF4 hFo rfl)]; exact hF4
      have hFqm5_1 : F1 (qm 5) = cJ (cy 2) 6 Dd.2.2.2 := by rw [eF1, va_up_ne _ _ (pl_ne hF5 hFo rfl)]; exact hF5
      have hFqm6_1 : F1 (qm 6) = cI (cy 1) 8 Sl.1 := by rw [eF1, va_up_ne _ _ (pl_ne hF6 hFo rfl)]; exact hF6
      have hFqm7_1 : F1 (qm 7) = cJ (cy 2) 128 Sl.2 := by rw [eF1, va_up_ne _ _ (pl_ne hF7 hFo rfl)]; exact hF7
      have hFqm8_1 : F1 (qm 8) = cI (cy 1) 30 Pp.2.1 := by rw [eF1, va_up_ne _ _ (pl_ne hF8 hFo rfl)]; exact hF8
      have hFqm9_1 : F1 (qm 9) = cI (cy 3) 30 Pp.2.2 := by rw [eF1, va_up_ne _ _ (pl_ne hF9 hFo rfl)]; exact hF9
      have hFqm10_1 : F1 (qm 10) = cI (cy 1) 5 Kr.1 := by rw [eF1, va_up_ne _ _ (pl_ne hF10 hFo rfl)]; exact hF10
      have hFqm11_1 : F1 (qm 11) = cI (cy 3) 5 Kr.2.1 := by rw [eF1, va_up_ne _ _ (pl_ne hF11 hFo rfl)]; exact hF11
      have hFqm12_1 : F1 (qm 12) = cI (cy 1) 60 Kr.2.2 := by rw [eF1, va_up_ne _ _ (pl_ne hF12 hFo rfl)]; exact hF12
      have hFqm13_1 : F1 (qm 13) = cI (cy 1) 4 Bk.1 := by rw [eF1, va_up_ne _ _ (pl_ne hF13 hFo rfl)]; exact hF13
      have hFqm14_1 : F1 (qm 14) = cD (cy 0) 4 Bk.2 := by rw [eF1, va_up_ne _ _ (pl_ne hF14 hFo rfl)]; exact hF14
      have hFqm15_1 : F1 (qm 15) = cI (cy 1) 6 Xx.2 := by rw [eF1, va_up_ne _ _ (pl_ne hF15 hFo rfl)]; exact hF15
      refine lv_iload_n hx hb dX9_compare_5 rfl (lv_at hl 1 rfl) ?_
      refine vp_callSi (W.runS (As := [.int x]) (rest := []) ⟨hx, hb, hml, hown, hts⟩ (c9_isMeter l x) (va_cwS 1 hts gX9_compare_X9_isMeter rfl rfl rfl (by decide +kernel) ⟨Nat.le_of_ble_eq_true rfl, Nat.le_of_ble_eq_true rfl⟩) (preS_of okT (trivial)) rfl rfl hl.1 rfl (lv_room (Nat.le_of_ble_eq_true rfl)) dX9_compare_6 ⟨Nat.le_of_ble_eq_true rfl, Nat.le_of_ble_eq_true rfl⟩) (fun r2 hr2 => ?_)
      rw [isx0 hi_x] at hr2
      subst hr2
      refine lv_if_eq (tgt := 19) hx hb dX9_compare_9 (by decide) (fun c3 => ?_) (fun c3 => absurd (by decide) c3)
      refine lv_sipush (v := -1001) hx hb dX9_compare_19 (by decide) ?_
      exact W.iret (v := -1001) hx hb hr (fun t ht hW => ⟨⟨-1001, F1, rfl, (by exact ⟨by unfold sp_cmp; rw [hi_x], ⟨⟨_, _, hmo, hFo_1⟩, ⟨hm0, hFqm0_1⟩, ⟨hm1, hFqm1_1⟩, ⟨hm2, hFqm2_1⟩, ⟨hm3, hFqm3_1⟩, ⟨hm4, hFqm4_1⟩, ⟨hm5, hFqm5_1⟩, ⟨hm6, hFqm6_1⟩, ⟨hm7, hFqm7_1⟩, ⟨hm8, hFqm8_1⟩, ⟨hm9, hFqm9_1⟩, ⟨hm10, hFqm10_1⟩, ⟨hm11, hFqm11_1⟩, ⟨hm12, hFqm12_1⟩, ⟨hm13, hFqm13_1⟩, ⟨hm14, hFqm14_1⟩, ⟨hm15, hFqm15_1⟩, hne⟩⟩), (by show va_P _ _ _ t.heap; rw [ht]; exact hP)⟩, hS.F ht⟩) hS.2.2 dX9_compare_22
    · subst ei_y
      refine lv_aload_n hx hb dX9_compare_0 rfl (lv_at hl 0 rfl) ?_
      refine lv_iconst (v := 0) hx hb dX9_compare_1 (by decide) ?_
      refine pg_put (ci := 8) (v := .int 0) (ty := .int) (C := RX9) (T := TX9) (N := 20) hx hb hts hinX9 tyX9 tyX9_ok nmX9 hown hK hP hD hS hmo hFo rfl 0 (by decide) (hts (.fieldLink RX9 61 "RopeDrumsModel" "thrown" "I") (by decide +kernel)) (fun _ h9 => h9) rfl (by decide +kernel) (rfl) (rfl) (Nat.le_of_ble_eq_true rfl) dX9_compare_2 (fun H locs F4 eF4 hP hS => ?_)
      have eF4 : F4 = va_up F o (.inr (8, [.int 0, .ref (qm 0), .ref (qm 1), .ref (qm 2), .ref (qm 3), .ref (qm 4), .ref (qm 5), .ref (qm 6), .ref (qm 7), .int Pp.1, .ref (qm 8), .ref (qm 9), .ref (qm 10), .ref (qm 11), .ref (qm 12), .ref (qm 13), .ref (qm 14), .int Xx.1, .ref (qm 15), .long oc])) := eF4
      have hFo_4 : F4 o = .inr (8, [.int 0, .ref (qm 0), .ref (qm 1), .ref (qm 2), .ref (qm 3), .ref (qm 4), .ref (qm 5), .ref (qm 6), .ref (qm 7), .int Pp.1, .ref (qm 8), .ref (qm 9), .ref (qm 10), .ref (qm 11), .ref (qm 12), .ref (qm 13), .ref (qm 14), .int Xx.1, .ref (qm 15), .long oc]) := by rw [eF4]; exact va_up_self _ _ _
      have hFqm0_4 : F4 (qm 0) = cI (cy 1) 10 Mm.1 := by rw [eF4, va_up_ne _ _ (pl_ne hF0 hFo rfl)]; exact hF0
      have hFqm1_4 : F4 (qm 1) = cJ (cy 2) 10 Mm.2 := by rw [eF4, va_up_ne _ _ (pl_ne hF1 hFo rfl)]; exact hF1
      have hFqm2_4 : F4 (qm 2) = cD (cy 0) 6 Dd.1 := by rw [eF4, va_up_ne _ _ (pl_ne hF2 hFo rfl)]; exact hF2
      have hFqm3_4 : F4 (qm 3) = cD (cy 0) 6 Dd.2.1 := by rw [eF4, va_up_ne _ _ (pl_ne hF3 hFo rfl)]; exact hF3
      have hFqm4_4 : F4 (qm 4) = cD (cy 0) 6 Dd.2.2.1 := by rw [eF4, va_up_ne _ _ (pl_ne hF4 hFo rfl)]; exact hF4
      have hFqm5_4 : F4 (qm 5) = cJ (cy 2) 6 Dd.2.2.2 := by rw [eF4, va_up_ne _ _ (pl_ne hF5 hFo rfl)]; exact hF5
      have hFqm6_4 : F4 (qm 6) = cI (cy 1) 8 Sl.1 := by rw [eF4, va_up_ne _ _ (pl_ne hF6 hFo rfl)]; exact hF6
      have hFqm7_4 : F4 (qm 7) = cJ (cy 2) 128 Sl.2 := by rw [eF4, va_up_ne _ _ (pl_ne hF7 hFo rfl)]; exact hF7
      have hFqm8_4 : F4 (qm 8) = cI (cy 1) 30 Pp.2.1 := by rw [eF4, va_up_ne _ _ (pl_ne hF8 hFo rfl)]; exact hF8
      have hFqm9_4 : F4 (qm 9) = cI (cy 3) 30 Pp.2.2 := by rw [eF4, va_up_ne _ _ (pl_ne hF9 hFo rfl)]; exact hF9
      have hFqm10_4 : F4 (qm 10) = cI (cy 1) 5 Kr.1 := by rw [eF4, va_up_ne _ _ (pl_ne hF10 hFo rfl)]; exact hF10
      have hFqm11_4 : F4 (qm 11) = cI (cy 3) 5 Kr.2.1 := by rw [eF4, va_up_ne _ _ (pl_ne hF11 hFo rfl)]; exact hF11
      have hFqm12_4 : F4 (qm 12) = cI (cy 1) 60 Kr.2.2 := by rw [eF4, va_up_ne _ _ (pl_ne hF12 hFo rfl)]; exact hF12
      have hFqm13_4 : F4 (qm 13) = cI (cy 1) 4 Bk.1 := by rw [eF4, va_up_ne _ _ (pl_ne hF13 hFo rfl)]; exact hF13
      have hFqm14_4 : F4 (qm 14) = cD (cy 0) 4 Bk.2 := by rw [eF4, va_up_ne _ _ (pl_ne hF14 hFo rfl)]; exact hF14
      have hFqm15_4 : F4 (qm 15) = cI (cy 1) 6 Xx.2 := by rw [eF4, va_up_ne _ _ (pl_ne hF15 hFo rfl)]; exact hF15
      refine lv_iload_n hx hb dX9_compare_5 rfl (lv_at hl 1 rfl) ?_
      refine vp_callSi (W.runS (As := [.int x]) (rest := []) ⟨hx, hb, hml, hown, hts⟩ (c9_isMeter l x) (va_cwS 1 hts gX9_compare_X9_isMeter rfl rfl rfl (by decide +kernel) ⟨Nat.le_of_ble_eq_true rfl, Nat.le_of_ble_eq_true rfl⟩) (preS_of okT (trivial)) rfl rfl hl.1 rfl (lv_room (Nat.le_of_ble_eq_true rfl)) dX9_compare_6 ⟨Nat.le_of_ble_eq_true rfl, Nat.le_of_ble_eq_true rfl⟩) (fun r5 hr5 => ?_)
      rw [isx0 hi_x] at hr5
      subst hr5
      refine lv_if_eq (tgt := 19) hx hb dX9_compare_9 (by decide) (fun c6 => ?_) (fun c6 => absurd (by decide) c6)
      refine lv_sipush (v := -1001) hx hb dX9_compare_19 (by decide) ?_
      exact W.iret (v := -1001) hx hb hr (fun t ht hW => ⟨⟨-1001, F4, rfl, (by exact ⟨by unfold sp_cmp; rw [hi_x], ⟨⟨_, _, hmo, hFo_4⟩, ⟨hm0, hFqm0_4⟩, ⟨hm1, hFqm1_4⟩, ⟨hm2, hFqm2_4⟩, ⟨hm3, hFqm3_4⟩, ⟨hm4, hFqm4_4⟩, ⟨hm5, hFqm5_4⟩, ⟨hm6, hFqm6_4⟩, ⟨hm7, hFqm7_4⟩, ⟨hm8, hFqm8_4⟩, ⟨hm9, hFqm9_4⟩, ⟨hm10, hFqm10_4⟩, ⟨hm11, hFqm11_4⟩, ⟨hm12, hFqm12_4⟩, ⟨hm13, hFqm13_4⟩, ⟨hm14, hFqm14_4⟩, ⟨hm15, hFqm15_4⟩, hne⟩⟩), (by show va_P _ _ _ t.heap; rw [ht]; exact hP)⟩, hS.F ht⟩) hS.2.2 dX9_compare_22
  · subst ei_x
    rcases ixc 10 y with hi_y | ⟨j_y, hj_y, hi_y, ei_y⟩
    · refine lv_aload_n hx hb dX9_compare_0 rfl (lv_at hl 0 rfl) ?_
      refine lv_iconst (v := 0) hx hb dX9_compare_1 (by decide) ?_
      refine pg_put (ci := 8) (v := .int 0) (ty := .int) (C := RX9) (T := TX9) (N := 20) hx hb hts hinX9 tyX9 tyX9_ok nmX9 hown hK hP hD hS hmo hFo rfl 0 (by decide) (hts (.fieldLink RX9 61 "RopeDrumsModel" "thrown" "I") (by decide +kernel)) (fun _ h9 => h9) rfl (by decide +kernel) (rfl) (rfl) (Nat.le_of_ble_eq_true rfl) dX9_compare_2 (fun H locs F7 eF7 hP hS => ?_)
      have eF7 : F7 = va_up F o (.inr (8, [.int 0, .ref (qm 0), .ref (qm 1), .ref (qm 2), .ref (qm 3), .ref (qm 4), .ref (qm 5), .ref (qm 6), .ref (qm 7), .int Pp.1, .ref (qm 8), .ref (qm 9), .ref (qm 10), .ref (qm 11), .ref (qm 12), .ref (qm 13), .ref (qm 14), .int Xx.1, .ref (qm 15), .long oc])) := eF7
      have hFo_7 : F7 o = .inr (8, [.int 0, .ref (qm 0), .ref (qm 1), .ref (qm 2), .ref (qm 3), .ref (qm 4), .ref (qm 5), .ref (qm 6), .ref (qm 7), .int Pp.1, .ref (qm 8), .ref (qm 9), .ref (qm 10), .ref (qm 11), .ref (qm 12), .ref (qm 13), .ref (qm 14), .int Xx.1, .ref (qm 15), .long oc]) := by rw [eF7]; exact va_up_self _ _ _
      have hFqm0_7 : F7 (qm 0) = cI (cy 1) 10 Mm.1 := by rw [eF7, va_up_ne _ _ (pl_ne hF0 hFo rfl)]; exact hF0
      have hFqm1_7 : F7 (qm 1) = cJ (cy 2) 10 Mm.2 := by rw [eF7, va_up_ne _ _ (pl_ne hF1 hFo rfl)]; exact hF1
      have hFqm2_7 : F7 (qm 2) = cD (cy 0) 6 Dd.1 := by rw [eF7, va_up_ne _ _ (pl_ne hF2 hFo rfl)]; exact hF2
      have hFqm3_7 : F7 (qm 3) = cD (cy 0) 6 Dd.2.1 := by rw [eF7, va_up_ne _ _ (pl_ne hF3 hFo rfl)]; exact hF3
      have hFqm4_7 : F7 (qm 4) = cD (cy 0) 6 Dd.2.2.1 := by rw [eF7, va_up_ne _ _ (pl_ne hF4 hFo rfl)]; exact hF4
      have hFqm5_7 : F7 (qm 5) = cJ (cy 2) 6 Dd.2.2.2 := by rw [eF7, va_up_ne _ _ (pl_ne hF5 hFo rfl)]; exact hF5
      have hFqm6_7 : F7 (qm 6) = cI (cy 1) 8 Sl.1 := by rw [eF7, va_up_ne _ _ (pl_ne hF6 hFo rfl)]; exact hF6
      have hFqm7_7 : F7 (qm 7) = cJ (cy 2) 128 Sl.2 := by rw [eF7, va_up_ne _ _ (pl_ne hF7 hFo rfl)]; exact hF7
      have hFqm8_7 : F7 (qm 8) = cI (cy 1) 30 Pp.2.1 := by rw [eF7, va_up_ne _ _ (pl_ne hF8 hFo rfl)]; exact hF8
      have hFqm9_7 : F7 (qm 9) = cI (cy 3) 30 Pp.2.2 := by rw [eF7, va_up_ne _ _ (pl_ne hF9 hFo rfl)]; exact hF9
      have hFqm10_7 : F7 (qm 10) = cI (cy 1) 5 Kr.1 := by rw [eF7, va_up_ne _ _ (pl_ne hF10 hFo rfl)]; exact hF10
      have hFqm11_7 : F7 (qm 11) = cI (cy 3) 5 Kr.2.1 := by rw [eF7, va_up_ne _ _ (pl_ne hF11 hFo rfl)]; exact hF11
      have hFqm12_7 : F7 (qm 12) = cI (cy 1) 60 Kr.2.2 := by rw [eF7, va_up_ne _ _ (pl_ne hF12 hFo rfl)]; exact hF12
      have hFqm13_7 : F7 (qm 13) = cI (cy 1) 4 Bk.1 := by rw [eF7, va_up_ne _ _ (pl_ne hF13 hFo rfl)]; exact hF13
      have hFqm14_7 : F7 (qm 14) = cD (cy 0) 4 Bk.2 := by rw [eF7, va_up_ne _ _ (pl_ne hF14 hFo rfl)]; exact hF14
      have hFqm15_7 : F7 (qm 15) = cI (cy 1) 6 Xx.2 := by rw [eF7, va_up_ne _ _ (pl_ne hF15 hFo rfl)]; exact hF15
      refine lv_iload_n hx hb dX9_compare_5 rfl (lv_at hl 1 rfl) ?_
      refine vp_callSi (W.runS (As := [.int (nI j_x)]) (rest := []) ⟨hx, hb, hml, hown, hts⟩ (c9_isMeter l (nI j_x)) (va_cwS 1 hts gX9_compare_X9_isMeter rfl rfl rfl (by decide +kernel) ⟨Nat.le_of_ble_eq_true rfl, Nat.le_of_ble_eq_true rfl⟩) (preS_of okT (trivial)) rfl rfl hl.1 rfl (lv_room (Nat.le_of_ble_eq_true rfl)) dX9_compare_6 ⟨Nat.le_of_ble_eq_true rfl, Nat.le_of_ble_eq_true rfl⟩) (fun r8 hr8 => ?_)
      rw [isx1 hi_x] at hr8
      subst hr8
      refine lv_if_eq (tgt := 19) hx hb dX9_compare_9 (by decide) (fun c9 => absurd c9 (by decide)) (fun c9 => ?_)
      refine lv_iload_n hx hb dX9_compare_12 rfl (lv_at hl 2 rfl) ?_
      refine vp_callSi (W.runS (As := [.int y]) (rest := []) ⟨hx, hb, hml, hown, hts⟩ (c9_isMeter l y) (va_cwS 1 hts gX9_compare_X9_isMeter rfl rfl rfl (by decide +kernel) ⟨Nat.le_of_ble_eq_true rfl, Nat.le_of_ble_eq_true rfl⟩) (preS_of okT (trivial)) rfl rfl hl.1 rfl (lv_room (Nat.le_of_ble_eq_true rfl)) dX9_compare_13 ⟨Nat.le_of_ble_eq_true rfl, Nat.le_of_ble_eq_true rfl⟩) (fun r10 hr10 => ?_)
      rw [isx0 hi_y] at hr10
      subst hr10
      refine lv_if_ne (tgt := 23) hx hb dX9_compare_16 (by decide) (fun c11 => absurd (by decide) c11) (fun c11 => ?_)
      refine lv_sipush (v := -1001) hx hb dX9_compare_19 (by decide) ?_
      exact W.iret (v := -1001) hx hb hr (fun t ht hW => ⟨⟨-1001, F7, rfl, (by exact ⟨by unfold sp_cmp; rw [hi_x, hi_y], ⟨⟨_, _, hmo, hFo_7⟩, ⟨hm0, hFqm0_7⟩, ⟨hm1, hFqm1_7⟩, ⟨hm2, hFqm2_7⟩, ⟨hm3, hFqm3_7⟩, ⟨hm4, hFqm4_7⟩, ⟨hm5, hFqm5_7⟩, ⟨hm6, hFqm6_7⟩, ⟨hm7, hFqm7_7⟩, ⟨hm8, hFqm8_7⟩, ⟨hm9, hFqm9_7⟩, ⟨hm10, hFqm10_7⟩, ⟨hm11, hFqm11_7⟩, ⟨hm12, hFqm12_7⟩, ⟨hm13, hFqm13_7⟩, ⟨hm14, hFqm14_7⟩, ⟨hm15, hFqm15_7⟩, hne⟩⟩), (by show va_P _ _ _ t.heap; rw [ht]; exact hP)⟩, hS.F ht⟩) hS.2.2 dX9_compare_22
    · subst ei_y
      refine lv_aload_n hx hb dX9_compare_0 rfl (lv_at hl 0 rfl) ?_
      refine lv_iconst (v := 0) hx hb dX9_compare_1 (by decide) ?_
      refine pg_put (ci := 8) (v := .int 0) (ty := .int) (C := RX9) (T := TX9) (N := 20) hx hb hts hinX9 tyX9 tyX9_ok nmX9 hown hK hP hD hS hmo hFo rfl 0 (by decide) (hts (.fieldLink RX9 61 "RopeDrumsModel" "thrown" "I") (by decide +kernel)) (fun _ h9 => h9) rfl (by decide +kernel) (rfl) (rfl) (Nat.le_of_ble_eq_true rfl) dX9_compare_2 (fun H locs F12 eF12 hP hS => ?_)
      have eF12 : F12 = va_up F o (.inr (8, [.int 0, .ref (qm 0), .ref (qm 1), .ref (qm 2), .ref (qm 3), .ref (qm 4), .ref (qm 5), .ref (qm 6), .ref (qm 7), .int Pp.1, .ref (qm 8), .ref (qm 9), .ref (qm 10), .ref (qm 11), .ref (qm 12), .ref (qm 13), .ref (qm 14), .int Xx.1, .ref (qm 15), .long oc])) := eF12
      have hFo_12 : F12 o = .inr (8, [.int 0, .ref (qm 0), .ref (qm 1), .ref (qm 2), .ref (qm 3), .ref (qm 4), .ref (qm 5), .ref (qm 6), .ref (qm 7), .int Pp.1, .ref (qm 8), .ref (qm 9), .ref (qm 10), .ref (qm 11), .ref (qm 12), .ref (qm 13), .ref (qm 14), .int Xx.1, .ref (qm 15), .long oc]) := by rw [eF12]; exact va_up_self _ _ _
      have hFqm0_12 : F12 (qm 0) = cI (cy 1) 10 Mm.1 := by rw [eF12, va_up_ne _ _ (pl_ne hF0 hFo rfl)]; exact hF0
      have hFqm1_12 : F12 (qm 1) = cJ (cy 2) 10 Mm.2 := by rw [eF12, va_up_ne _ _ (pl_ne hF1 hFo rfl)]; exact hF1
      have hFqm2_12 : F12 (qm 2) = cD (cy 0) 6 Dd.1 := by rw [eF12, va_up_ne _ _ (pl_ne hF2 hFo rfl)]; exact hF2
      have hFqm3_12 : F12 (qm 3) = cD (cy 0) 6 Dd.2.1 := by rw [eF12, va_up_ne _ _ (pl_ne hF3 hFo rfl)]; exact hF3
      have hFqm4_12 : F12 (qm 4) = cD (cy 0) 6 Dd.2.2.1 := by rw [eF12, va_up_ne _ _ (pl_ne hF4 hFo rfl)]; exact hF4
      have hFqm5_12 : F12 (qm 5) = cJ (cy 2) 6 Dd.2.2.2 := by rw [eF12, va_up_ne _ _ (pl_ne hF5 hFo rfl)]; exact hF5
      have hFqm6_12 : F12 (qm 6) = cI (cy 1) 8 Sl.1 := by rw [eF12, va_up_ne _ _ (pl_ne hF6 hFo rfl)]; exact hF6
      have hFqm7_12 : F12 (qm 7) = cJ (cy 2) 128 Sl.2 := by rw [eF12, va_up_ne _ _ (pl_ne hF7 hFo rfl)]; exact hF7
      have hFqm8_12 : F12 (qm 8) = cI (cy 1) 30 Pp.2.1 := by rw [eF12, va_up_ne _ _ (pl_ne hF8 hFo rfl)]; exact hF8
      have hFqm9_12 : F12 (qm 9) = cI (cy 3) 30 Pp.2.2 := by rw [eF12, va_up_ne _ _ (pl_ne hF9 hFo rfl)]; exact hF9
      have hFqm10_12 : F12 (qm 10) = cI (cy 1) 5 Kr.1 := by rw [eF12, va_up_ne _ _ (pl_ne hF10 hFo rfl)]; exact hF10
      have hFqm11_12 : F12 (qm 11) = cI (cy 3) 5 Kr.2.1 := by rw [eF12, va_up_ne _ _ (pl_ne hF11 hFo rfl)]; exact hF11
      have hFqm12_12 : F12 (qm 12) = cI (cy 1) 60 Kr.2.2 := by rw [eF12, va_up_ne _ _ (pl_ne hF12 hFo rfl)]; exact hF12
      have hFqm13_12 : F12 (qm 13) = cI (cy 1) 4 Bk.1 := by rw [eF12, va_up_ne _ _ (pl_ne hF13 hFo rfl)]; exact hF13
      have hFqm14_12 : F12 (qm 14) = cD (cy 0) 4 Bk.2 := by rw [eF12, va_up_ne _ _ (pl_ne hF14 hFo rfl)]; exact hF14
      have hFqm15_12 : F12 (qm 15) = cI (cy 1) 6 Xx.2 := by rw [eF12, va_up_ne _ _ (pl_ne hF15 hFo rfl)]; exact hF15
      refine lv_iload_n hx hb dX9_compare_5 rfl (lv_at hl 1 rfl) ?_
      refine vp_callSi (W.runS (As := [.int (nI j_x)]) (rest := []) ⟨hx, hb, hml, hown, hts⟩ (c9_isMeter l (nI j_x)) (va_cwS 1 hts gX9_compare_X9_isMeter rfl rfl rfl (by decide +kernel) ⟨Nat.le_of_ble_eq_true rfl, Nat.le_of_ble_eq_true rfl⟩) (preS_of okT (trivial)) rfl rfl hl.1 rfl (lv_room (Nat.le_of_ble_eq_true rfl)) dX9_compare_6 ⟨Nat.le_of_ble_eq_true rfl, Nat.le_of_ble_eq_true rfl⟩) (fun r13 hr13 => ?_)
      rw [isx1 hi_x] at hr13
      subst hr13
      refine lv_if_eq (tgt := 19) hx hb dX9_compare_9 (by decide) (fun c14 => absurd c14 (by decide)) (fun c14 => ?_)
      refine lv_iload_n hx hb dX9_compare_12 rfl (lv_at hl 2 rfl) ?_
      refine vp_callSi (W.runS (As := [.int (nI j_y)]) (rest := []) ⟨hx, hb, hml, hown, hts⟩ (c9_isMeter l (nI j_y)) (va_cwS 1 hts gX9_compare_X9_isMeter rfl rfl rfl (by decide +kernel) ⟨Nat.le_of_ble_eq_true rfl, Nat.le_of_ble_eq_true rfl⟩) (preS_of okT (trivial)) rfl rfl hl.1 rfl (lv_room (Nat.le_of_ble_eq_true rfl)) dX9_compare_13 ⟨Nat.le_of_ble_eq_true rfl, Nat.le_of_ble_eq_true rfl⟩) (fun r15 hr15 => ?_)
      rw [isx1 hi_y] at hr15
      subst hr15
      refine lv_if_ne (tgt := 23) hx hb dX9_compare_16 (by decide) (fun c16 => ?_) (fun c16 => absurd c16 (by decide))
      refine jn_i (pc := 53) (ls := ls) (rest := []) (fun vv => vv = mx (Mm.1 j_x) (Mm.1 j_y)) (fun j17 hj17 => ?_) (fun K => ?_)
      · subst hj17
        refine lv_istore_n (lv' := [(3, .int (mx (Mm.1 j_x) (Mm.1 j_y))), (0, .ref o), (1, .int (nI j_x)), (2, .int (nI j_y))]) hx hb dX9_compare_53 rfl hl (by decide) rfl (fun ls hl => ?_)
        refine lv_aload_n hx hb dX9_compare_54 rfl (lv_at hl 1 rfl) ?_
        refine pg_get (ci := 8) (C := RX9) (T := TX9) (N := 20) hx hb hts hinX9 hown hK hP hmo hFo_12 rfl 1 (by decide) (hts (.fieldLink RX9 7 "RopeDrumsModel" "laneOf" "[I") (by decide +kernel)) (fun _ h9 => h9) rfl dX9_compare_55 ?_
        refine lv_iload_n hx hb dX9_compare_58 rfl (lv_at hl 2 rfl) ?_
        refine pg_iald hx hb hK hP 1 hm0 hFqm0_12 rfl (vp_in_nI (by omega) (by decide)) dX9_compare_59 ?_
        refine lv_topi (fun v18 ev18 => ?_)
        rw [nI_clamp (by omega)] at ev18
        refine lv_aload_n hx hb dX9_compare_60 rfl (lv_at hl 1 rfl) ?_
        refine pg_get (ci := 8) (C := RX9) (T := TX9) (N := 20) hx hb hts hinX9 hown hK hP hmo hFo_12 rfl 2 (by decide) (hts (.fieldLink RX9 13 "RopeDrumsModel" "held" "[J") (by decide +kernel)) (fun _ h9 => h9) rfl dX9_compare_61 ?_
        refine lv_iload_n hx hb dX9_compare_64 rfl (lv_at hl 2 rfl) ?_
        refine pg_lald hx hb hK hP 2 hm1 hFqm1_12 rfl (vp_in_nI (by omega) (by decide)) dX9_compare_65 ?_
        refine lv_topl (fun v19 ev19 => ?_)
        rw [nI_clamp (by omega)] at ev19
        refine lv_iload_n hx hb dX9_compare_66 rfl (lv_at hl 0 rfl) ?_
        refine vp_callSl (W.runS (As := [.int v18, .long v19, .int (mx (Mm.1 j_x) (Mm.1 j_y))]) (rest := []) ⟨hx, hb, hml, hown, hts⟩ (c9_turned l v18 (mx (Mm.1 j_x) (Mm.1 j_y)) v19 (by rw [ev18, ev19]; exact (hVM j_x hj_x))) (va_cwS 3 hts gX9_compare_X9_turned rfl rfl rfl (by decide +kernel) ⟨Nat.le_of_ble_eq_true rfl, Nat.le_of_ble_eq_true rfl⟩) (preS_of okT (trivial)) rfl rfl hl.1 rfl (lv_room (Nat.le_of_ble_eq_true rfl)) dX9_compare_67 ⟨Nat.le_of_ble_eq_true rfl, Nat.le_of_ble_eq_true rfl⟩) (fun r20 hr20 => ?_)
        refine lv_lstore (lv' := [(4, .long r20), (3, .int (mx (Mm.1 j_x) (Mm.1 j_y))), (0, .ref o), (1, .int (nI j_x)), (2, .int (nI j_y))]) hx hb dX9_compare_70 hl (by decide) rfl (fun ls hl => ?_)
        refine lv_aload_n hx hb dX9_compare_72 rfl (lv_at hl 2 rfl) ?_
        refine pg_get (ci := 8) (C := RX9) (T := TX9) (N := 20) hx hb hts hinX9 hown hK hP hmo hFo_12 rfl 1 (by decide) (hts (.fieldLink RX9 7 "RopeDrumsModel" "laneOf" "[I") (by decide +kernel)) (fun _ h9 => h9) rfl dX9_compare_73 ?_
        refine lv_iload_n hx hb dX9_compare_76 rfl (lv_at hl 4 rfl) ?_
        refine pg_iald hx hb hK hP 1 hm0 hFqm0_12 rfl (vp_in_nI (by omega) (by decide)) dX9_compare_77 ?_
        refine lv_topi (fun v21 ev21 => ?_)
        rw [nI_clamp (by omega)] at ev21
        refine lv_aload_n hx hb dX9_compare_78 rfl (lv_at hl 2 rfl) ?_
        refine pg_get (ci := 8) (C := RX9) (T := TX9) (N := 20) hx hb hts hinX9 hown hK hP hmo hFo_12 rfl 2 (by decide) (hts (.fieldLink RX9 13 "RopeDrumsModel" "held" "[J") (by decide +kernel)) (fun _ h9 => h9) rfl dX9_compare_79 ?_
        refine lv_iload_n hx hb dX9_compare_82 rfl (lv_at hl 4 rfl) ?_
        refine pg_lald hx hb hK hP 2 hm1 hFqm1_12 rfl (vp_in_nI (by omega) (by decide)) dX9_compare_83 ?_
        refine lv_topl (fun v22 ev22 => ?_)
        rw [nI_clamp (by omega)] at ev22
        refine lv_iload_n hx hb dX9_compare_84 rfl (lv_at hl 1 rfl) ?_
        refine vp_callSl (W.runS (As := [.int v21, .long v22, .int (mx (Mm.1 j_x) (Mm.1 j_y))]) (rest := []) ⟨hx, hb, hml, hown, hts⟩ (c9_turned l v21 (mx (Mm.1 j_x) (Mm.1 j_y)) v22 (by rw [ev21, ev22]; exact (hVM j_y hj_y))) (va_cwS 3 hts gX9_compare_X9_turned rfl rfl rfl (by decide +kernel) ⟨Nat.le_of_ble_eq_true rfl, Nat.le_of_ble_eq_true rfl⟩) (preS_of okT (trivial)) rfl rfl hl.1 rfl (lv_room (Nat.le_of_ble_eq_true rfl)) dX9_compare_85 ⟨Nat.le_of_ble_eq_true rfl, Nat.le_of_ble_eq_true rfl⟩) (fun r23 hr23 => ?_)
        refine lv_lstore (lv' := [(6, .long r23), (4, .long r20), (3, .int (mx (Mm.1 j_x) (Mm.1 j_y))), (0, .ref o), (1, .int (nI j_x)), (2, .int (nI j_y))]) hx hb dX9_compare_88 hl (by decide) rfl (fun ls hl => ?_)
        have hmx := mx_v (hVM j_x hj_x).lane (hVM j_y hj_y).lane
        by_cases h1l : (1 : Int32) < mx (Mm.1 j_x) (Mm.1 j_y)
        · rcases (hmx.2 h1l).1 with hmxl | hmxl
          · refine lv_iload_n hx hb dX9_compare_90 rfl (lv_at hl 2 rfl) ?_
            refine lv_iconst (v := 2) hx hb dX9_compare_91 (by decide) ?_
            refine lv_icmp_ge (tgt := 121) hx hb dX9_compare_92 (by decide) (fun c24 => ?_) (fun c24 => absurd (by rw [hmxl]; decide) c24)
            refine lv_iload_n hx hb dX9_compare_121 rfl (lv_at hl 2 rfl) ?_
            refine lv_lload hx hb dX9_compare_122 (lv_at hl 1 rfl) ?_
            refine lv_iconst (v := 3) hx hb dX9_compare_124 (by decide) ?_
            refine vp_callSl (W.runS (As := [.int (mx (Mm.1 j_x) (Mm.1 j_y)), .long r20, .int 3]) (rest := []) ⟨hx, hb, hml, hown, hts⟩ (c9_turned l (mx (Mm.1 j_x) (Mm.1 j_y)) 3 r20 (by rw [hr20, ev18, ev19]; exact (okV_tn (hVM j_x hj_x) (by rw [hmxl]; decide)))) (va_cwS 3 hts gX9_compare_X9_turned rfl rfl rfl (by decide +kernel) ⟨Nat.le_of_ble_eq_true rfl, Nat.le_of_ble_eq_true rfl⟩) (preS_of okT (trivial)) rfl rfl hl.1 rfl (lv_room (Nat.le_of_ble_eq_true rfl)) dX9_compare_125 ⟨Nat.le_of_ble_eq_true rfl, Nat.le_of_ble_eq_true rfl⟩) (fun r25 hr25 => ?_)
            refine vp_callSd (W.runS (As := [.long r25]) (rest := []) ⟨hx, hb, hml, hown, hts⟩ (c9_doubleOf l r25 (by rw [hr25, hr20, ev18, ev19]; exact (tn3_ok (okV_tn (hVM j_x hj_x) (by rw [hmxl]; decide))))) (va_cwS 1 hts gX9_compare_X9_doubleOf rfl rfl rfl (by decide +kernel) ⟨Nat.le_of_ble_eq_true rfl, Nat.le_of_ble_eq_true rfl⟩) (preS_of okT (trivial)) rfl rfl hl.1 rfl (lv_room (Nat.le_of_ble_eq_true rfl)) dX9_compare_128 ⟨Nat.le_of_ble_eq_true rfl, Nat.le_of_ble_eq_true rfl⟩) (fun r26 hr26 => ?_)
            refine lv_dstore (lv' := [(8, .double r26), (6, .long r23), (4, .long r20), (3, .int (mx (Mm.1 j_x) (Mm.1 j_y))), (0, .ref o), (1, .int (nI j_x)), (2, .int (nI j_y))]) hx hb dX9_compare_131 hl (by decide) rfl (fun ls hl => ?_)
            refine lv_iload_n hx hb dX9_compare_133 rfl (lv_at hl 3 rfl) ?_
            refine lv_lload hx hb dX9_compare_134 (lv_at hl 1 rfl) ?_
            refine lv_iconst (v := 3) hx hb dX9_compare_136 (by decide) ?_
            refine vp_callSl (W.runS (As := [.int (mx (Mm.1 j_x) (Mm.1 j_y)), .long r23, .int 3]) (rest := []) ⟨hx, hb, hml, hown, hts⟩ (c9_turned l (mx (Mm.1 j_x) (Mm.1 j_y)) 3 r23 (by rw [hr23, ev21, ev22]; exact (okV_tn (hVM j_y hj_y) (by rw [hmxl]; decide)))) (va_cwS 3 hts gX9_compare_X9_turned rfl rfl rfl (by decide +kernel) ⟨Nat.le_of_ble_eq_true rfl, Nat.le_of_ble_eq_true rfl⟩) (preS_of okT (trivial)) rfl rfl hl.1 rfl (lv_room (Nat.le_of_ble_eq_true rfl)) dX9_compare_137 ⟨Nat.le_of_ble_eq_true rfl, Nat.le_of_ble_eq_true rfl⟩) (fun r27 hr27 => ?_)
            refine vp_callSd (W.runS (As := [.long r27]) (rest := []) ⟨hx, hb, hml, hown, hts⟩ (c9_doubleOf l r27 (by rw [hr27, hr23, ev21, ev22]; exact (tn3_ok (okV_tn (hVM j_y hj_y) (by rw [hmxl]; decide))))) (va_cwS 1 hts gX9_compare_X9_doubleOf rfl rfl rfl (by decide +kernel) ⟨Nat.le_of_ble_eq_true rfl, Nat.le_of_ble_eq_true rfl⟩) (preS_of okT (trivial)) rfl rfl hl.1 rfl (lv_room (Nat.le_of_ble_eq_true rfl)) dX9_compare_140 ⟨Nat.le_of_ble_eq_true rfl, Nat.le_of_ble_eq_true rfl⟩) (fun r28 hr28 => ?_)
            refine lv_dstore (lv' := [(10, .double r28), (8, .double r26), (6, .long r23), (4, .long r20), (3, .int (mx (Mm.1 j_x) (Mm.1 j_y))), (0, .ref o), (1, .int (nI j_x)), (2, .int (nI j_y))]) hx hb dX9_compare_143 hl (by decide) rfl (fun ls hl => ?_)
            refine lv_dload hx hb dX9_compare_145 (lv_at hl 1 rfl) ?_
            refine lv_dload hx hb dX9_compare_147 (lv_at hl 0 rfl) ?_
            refine lv_dcmp hx hb dX9_compare_149 ?_
            refine lv_if_ge (tgt := 157) hx hb dX9_compare_150 (by decide) (fun c29 => ?_) (fun c29 => ?_)
            · refine lv_dload hx hb dX9_compare_157 (lv_at hl 1 rfl) ?_
              refine lv_dload hx hb dX9_compare_159 (lv_at hl 0 rfl) ?_
              refine lv_dcmp hx hb dX9_compare_161 ?_
              refine lv_if_le (tgt := 169) hx hb dX9_compare_162 (by decide) (fun c30 => ?_) (fun c30 => ?_)
              · refine lv_iconst (v := 0) hx hb dX9_compare_169 (by decide) ?_
                exact W.iret (v := 0) hx hb hr (fun t ht hW => ⟨⟨0, F12, rfl, (by subst hr28 hr27 hr26 hr25 hr23 ev22 ev21 hr20 ev19 ev18; exact ⟨(by unfold sp_cmp; rw [hi_x, hi_y]; show _ = cmpM _ _ _ _; unfold cmpM; rw [if_neg (hmx.2 h1l).2]; exact (cmpD3 (tn3_ok (okV_tn (hVM j_x hj_x) (by rw [hmxl]; decide))) (tn3_ok (okV_tn (hVM j_y hj_y) (by rw [hmxl]; decide))) c29 c30).symm), ⟨⟨_, _, hmo, hFo_12⟩, ⟨hm0, hFqm0_12⟩, ⟨hm1, hFqm1_12⟩, ⟨hm2, hFqm2_12⟩, ⟨hm3, hFqm3_12⟩, ⟨hm4, hFqm4_12⟩, ⟨hm5, hFqm5_12⟩, ⟨hm6, hFqm6_12⟩, ⟨hm7, hFqm7_12⟩, ⟨hm8, hFqm8_12⟩, ⟨hm9, hFqm9_12⟩, ⟨hm10, hFqm10_12⟩, ⟨hm11, hFqm11_12⟩, ⟨hm12, hFqm12_12⟩, ⟨hm13, hFqm13_12⟩, ⟨hm14, hFqm14_12⟩, ⟨hm15, hFqm15_12⟩, hne⟩⟩), (by show va_P _ _ _ t.heap; rw [ht]; exact hP)⟩, hS.F ht⟩) hS.2.2 dX9_compare_170
              · refine lv_iconst (v := 1) hx hb dX9_compare_165 (by decide) ?_
                refine lv_goto (tgt := 170) hx hb dX9_compare_166 (by decide) ?_
                exact W.iret (v := 1) hx hb hr (fun t ht hW => ⟨⟨1, F12, rfl, (by subst hr28 hr27 hr26 hr25 hr23 ev22 ev21 hr20 ev19 ev18; exact ⟨(by unfold sp_cmp; rw [hi_x, hi_y]; show _ = cmpM _ _ _ _; unfold cmpM; rw [if_neg (hmx.2 h1l).2]; exact (cmpD2 (tn3_ok (okV_tn (hVM j_x hj_x) (by rw [hmxl]; decide))) (tn3_ok (okV_tn (hVM j_y hj_y) (by rw [hmxl]; decide))) c29 c30).symm), ⟨⟨_, _, hmo, hFo_12⟩, ⟨hm0, hFqm0_12⟩, ⟨hm1, hFqm1_12⟩, ⟨hm2, hFqm2_12⟩, ⟨hm3, hFqm3_12⟩, ⟨hm4, hFqm4_12⟩, ⟨hm5, hFqm5_12⟩, ⟨hm6, hFqm6_12⟩, ⟨hm7, hFqm7_12⟩, ⟨hm8, hFqm8_12⟩, ⟨hm9, hFqm9_12⟩, ⟨hm10, hFqm10_12⟩, ⟨hm11, hFqm11_12⟩, ⟨hm12, hFqm12_12⟩, ⟨hm13, hFqm13_12⟩, ⟨hm14, hFqm14_12⟩, ⟨hm15, hFqm15_12⟩, hne⟩⟩), (by show va_P _ _ _ t.heap; rw [ht]; exact hP)⟩, hS.F ht⟩) hS.2.2 dX9_compare_170
            · refine lv_iconst (v := -1) hx hb dX9_compare_153 (by decide) ?_
              refine lv_goto (tgt := 170) hx hb dX9_compare_154 (by decide) ?_
              exact W.iret (v := -1) hx hb hr (fun t ht hW => ⟨⟨-1, F12, rfl, (by subst hr28 hr27 hr26 hr25 hr23 ev22 ev21 hr20 ev19 ev18; exact ⟨(by unfold sp_cmp; rw [hi_x, hi_y]; show _ = cmpM _ _ _ _; unfold cmpM; rw [if_neg (hmx.2 h1l).2]; exact (cmpD1 (tn3_ok (okV_tn (hVM j_x hj_x) (by rw [hmxl]; decide))) (tn3_ok (okV_tn (hVM j_y hj_y) (by rw [hmxl]; decide))) c29).symm), ⟨⟨_, _, hmo, hFo_12⟩, ⟨hm0, hFqm0_12⟩, ⟨hm1, hFqm1_12⟩, ⟨hm2, hFqm2_12⟩, ⟨hm3, hFqm3_12⟩, ⟨hm4, hFqm4_12⟩, ⟨hm5, hFqm5_12⟩, ⟨hm6, hFqm6_12⟩, ⟨hm7, hFqm7_12⟩, ⟨hm8, hFqm8_12⟩, ⟨hm9, hFqm9_12⟩, ⟨hm10, hFqm10_12⟩, ⟨hm11, hFqm11_12⟩, ⟨hm12, hFqm12_12⟩, ⟨hm13, hFqm13_12⟩, ⟨hm14, hFqm14_12⟩, ⟨hm15, hFqm15_12⟩, hne⟩⟩), (by show va_P _ _ _ t.heap; rw [ht]; exact hP)⟩, hS.F ht⟩) hS.2.2 dX9_compare_170
          · refine lv_iload_n hx hb dX9_compare_90 rfl (lv_at hl 2 rfl) ?_
            refine lv_iconst (v := 2) hx hb dX9_compare_91 (by decide) ?_
            refine lv_icmp_ge (tgt := 121) hx hb dX9_compare_92 (by decide) (fun c31 => ?_) (fun c31 => absurd (by rw [hmxl]; decide) c31)
            refine lv_iload_n hx hb dX9_compare_121 rfl (lv_at hl 2 rfl) ?_
            refine lv_lload hx hb dX9_compare_122 (lv_at hl 1 rfl) ?_
            refine lv_iconst (v := 3) hx hb dX9_compare_124 (by decide) ?_
            refine vp_callSl (W.runS (As := [.int (mx (Mm.1 j_x) (Mm.1 j_y)), .long r20, .int 3]) (rest := []) ⟨hx, hb, hml, hown, hts⟩ (c9_turned l (mx (Mm.1 j_x) (Mm.1 j_y)) 3 r20 (by rw [hr20, ev18, ev19]; exact (okV_tn (hVM j_x hj_x) (by rw [hmxl]; decide)))) (va_cwS 3 hts gX9_compare_X9_turned rfl rfl rfl (by decide +kernel) ⟨Nat.le_of_ble_eq_true rfl, Nat.le_of_ble_eq_true rfl⟩) (preS_of okT (trivial)) rfl rfl hl.1 rfl (lv_room (Nat.le_of_ble_eq_true rfl)) dX9_compare_125 ⟨Nat.le_of_ble_eq_true rfl, Nat.le_of_ble_eq_true rfl⟩) (fun r32 hr32 => ?_)
            refine vp_callSd (W.runS (As := [.long r32]) (rest := []) ⟨hx, hb, hml, hown, hts⟩ (c9_doubleOf l r32 (by rw [hr32, hr20, ev18, ev19]; exact (tn3_ok (okV_tn (hVM j_x hj_x) (by rw [hmxl]; decide))))) (va_cwS 1 hts gX9_compare_X9_doubleOf rfl rfl rfl (by decide +kernel) ⟨Nat.le_of_ble_eq_true rfl, Nat.le_of_ble_eq_true rfl⟩) (preS_of okT (trivial)) rfl rfl hl.1 rfl (lv_room (Nat.le_of_ble_eq_true rfl)) dX9_compare_128 ⟨Nat.le_of_ble_eq_true rfl, Nat.le_of_ble_eq_true rfl⟩) (fun r33 hr33 => ?_)
            refine lv_dstore (lv' := [(8, .double r33), (6, .long r23), (4, .long r20), (3, .int (mx (Mm.1 j_x) (Mm.1 j_y))), (0, .ref o), (1, .int (nI j_x)), (2, .int (nI j_y))]) hx hb dX9_compare_131 hl (by decide) rfl (fun ls hl => ?_)
            refine lv_iload_n hx hb dX9_compare_133 rfl (lv_at hl 3 rfl) ?_
            refine lv_lload hx hb dX9_compare_134 (lv_at hl 1 rfl) ?_
            refine lv_iconst (v := 3) hx hb dX9_compare_136 (by decide) ?_
            refine vp_callSl (W.runS (As := [.int (mx (Mm.1 j_x) (Mm.1 j_y)), .long r23, .int 3]) (rest := []) ⟨hx, hb, hml, hown, hts⟩ (c9_turned l (mx (Mm.1 j_x) (Mm.1 j_y)) 3 r23 (by rw [hr23, ev21, ev22]; exact (okV_tn (hVM j_y hj_y) (by rw [hmxl]; decide)))) (va_cwS 3 hts gX9_compare_X9_turned rfl rfl rfl (by decide +kernel) ⟨Nat.le_of_ble_eq_true rfl, Nat.le_of_ble_eq_true rfl⟩) (preS_of okT (trivial)) rfl rfl hl.1 rfl (lv_room (Nat.le_of_ble_eq_true rfl)) dX9_compare_137 ⟨Nat.le_of_ble_eq_true rfl, Nat.le_of_ble_eq_true rfl⟩) (fun r34 hr34 => ?_)
            refine vp_callSd (W.runS (As := [.long r34]) (rest := []) ⟨hx, hb, hml, hown, hts⟩ (c9_doubleOf l r34 (by rw [hr34, hr23, ev21, ev22]; exact (tn3_ok (okV_tn (hVM j_y hj_y) (by rw [hmxl]; decide))))) (va_cwS 1 hts gX9_compare_X9_doubleOf rfl rfl rfl (by decide +kernel) ⟨Nat.le_of_ble_eq_true rfl, Nat.le_of_ble_eq_true rfl⟩) (preS_of okT (trivial)) rfl rfl hl.1 rfl (lv_room (Nat.le_of_ble_eq_true rfl)) dX9_compare_140 ⟨Nat.le_of_ble_eq_true rfl, Nat.le_of_ble_eq_true rfl⟩) (fun r35 hr35 => ?_)
            refine lv_dstore (lv' := [(10, .double r35), (8, .double r33), (6, .long r23), (4, .long r20), (3, .int (mx (Mm.1 j_x) (Mm.1 j_y))), (0, .ref o), (1, .int (nI j_x)), (2, .int (nI j_y))]) hx hb dX9_compare_143 hl (by decide) rfl (fun ls hl => ?_)
            refine lv_dload hx hb dX9_compare_145 (lv_at hl 1 rfl) ?_
            refine lv_dload hx hb dX9_compare_147 (lv_at hl 0 rfl) ?_
            refine lv_dcmp hx hb dX9_compare_149 ?_
            refine lv_if_ge (tgt := 157) hx hb dX9_compare_150 (by decide) (fun c36 => ?_) (fun c36 => ?_)
            · refine lv_dload hx hb dX9_compare_157 (lv_at hl 1 rfl) ?_
              refine lv_dload hx hb dX9_compare_159 (lv_at hl 0 rfl) ?_
              refine lv_dcmp hx hb dX9_compare_161 ?_
              refine lv_if_le (tgt := 169) hx hb dX9_compare_162 (by decide) (fun c37 => ?_) (fun c37 => ?_)
              · refine lv_iconst (v := 0) hx hb dX9_compare_169 (by decide) ?_
                exact W.iret (v := 0) hx hb hr (fun t ht hW => ⟨⟨0, F12, rfl, (by subst hr35 hr34 hr33 hr32 hr23 ev22 ev21 hr20 ev19 ev18; exact ⟨(by unfold sp_cmp; rw [hi_x, hi_y]; show _ = cmpM _ _ _ _; unfold cmpM; rw [if_neg (hmx.2 h1l).2]; exact (cmpD3 (tn3_ok (okV_tn (hVM j_x hj_x) (by rw [hmxl]; decide))) (tn3_ok (okV_tn (hVM j_y hj_y) (by rw [hmxl]; decide))) c36 c37).symm), ⟨⟨_, _, hmo, hFo_12⟩, ⟨hm0, hFqm0_12⟩, ⟨hm1, hFqm1_12⟩, ⟨hm2, hFqm2_12⟩, ⟨hm3, hFqm3_12⟩, ⟨hm4, hFqm4_12⟩, ⟨hm5, hFqm5_12⟩, ⟨hm6, hFqm6_12⟩, ⟨hm7, hFqm7_12⟩, ⟨hm8, hFqm8_12⟩, ⟨hm9, hFqm9_12⟩, ⟨hm10, hFqm10_12⟩, ⟨hm11, hFqm11_12⟩, ⟨hm12, hFqm12_12⟩, ⟨hm13, hFqm13_12⟩, ⟨hm14, hFqm14_12⟩, ⟨hm15, hFqm15_12⟩, hne⟩⟩), (by show va_P _ _ _ t.heap; rw [ht]; exact hP)⟩, hS.F ht⟩) hS.2.2 dX9_compare_170
              · refine lv_iconst (v := 1) hx hb dX9_compare_165 (by decide) ?_
                refine lv_goto (tgt := 170) hx hb dX9_compare_166 (by decide) ?_
                exact W.iret (v := 1) hx hb hr (fun t ht hW => ⟨⟨1, F12, rfl, (by subst hr35 hr34 hr33 hr32 hr23 ev22 ev21 hr20 ev19 ev18; exact ⟨(by unfold sp_cmp; rw [hi_x, hi_y]; show _ = cmpM _ _ _ _; unfold cmpM; rw [if_neg (hmx.2 h1l).2]; exact (cmpD2 (tn3_ok (okV_tn (hVM j_x hj_x) (by rw [hmxl]; decide))) (tn3_ok (okV_tn (hVM j_y hj_y) (by rw [hmxl]; decide))) c36 c37).symm), ⟨⟨_, _, hmo, hFo_12⟩, ⟨hm0, hFqm0_12⟩, ⟨hm1, hFqm1_12⟩, ⟨hm2, hFqm2_12⟩, ⟨hm3, hFqm3_12⟩, ⟨hm4, hFqm4_12⟩, ⟨hm5, hFqm5_12⟩, ⟨hm6, hFqm6_12⟩, ⟨hm7, hFqm7_12⟩, ⟨hm8, hFqm8_12⟩, ⟨hm9, hFqm9_12⟩, ⟨hm10, hFqm10_12⟩, ⟨hm11, hFqm11_12⟩, ⟨hm12, hFqm12_12⟩, ⟨hm13, hFqm13_12⟩, ⟨hm14, hFqm14_12⟩, ⟨hm15, hFqm15_12⟩, hne⟩⟩), (by show va_P _ _ _ t.heap; rw [ht]; exact hP)⟩, hS.F ht⟩) hS.2.2 dX9_compare_170
            · refine lv_iconst (v := -1) hx hb dX9_compare_153 (by decide) ?_
              refine lv_goto (tgt := 170) hx hb dX9_compare_154 (by decide) ?_
              exact W.iret (v := -1) hx hb hr (fun t ht hW => ⟨⟨-1, F12, rfl, (by subst hr35 hr34 hr33 hr32 hr23 ev22 ev21 hr20 ev19 ev18; exact ⟨(by unfold sp_cmp; rw [hi_x, hi_y]; show _ = cmpM _ _ _ _; unfold cmpM; rw [if_neg (hmx.2 h1l).2]; exact (cmpD1 (tn3_ok (okV_tn (hVM j_x hj_x) (by rw [hmxl]; decide))) (tn3_ok (okV_tn (hVM j_y hj_y) (by rw [hmxl]; decide))) c36).symm), ⟨⟨_, _, hmo, hFo_12⟩, ⟨hm0, hFqm0_12⟩, ⟨hm1, hFqm1_12⟩, ⟨hm2, hFqm2_12⟩, ⟨hm3, hFqm3_12⟩, ⟨hm4, hFqm4_12⟩, ⟨hm5, hFqm5_12⟩, ⟨hm6, hFqm6_12⟩, ⟨hm7, hFqm7_12⟩, ⟨hm8, hFqm8_12⟩, ⟨hm9, hFqm9_12⟩, ⟨hm10, hFqm10_12⟩, ⟨hm11, hFqm11_12⟩, ⟨hm12, hFqm12_12⟩, ⟨hm13, hFqm13_12⟩, ⟨hm14, hFqm14_12⟩, ⟨hm15, hFqm15_12⟩, hne⟩⟩), (by show va_P _ _ _ t.heap; rw [ht]; exact hP)⟩, hS.F ht⟩) hS.2.2 dX9_compare_170
        · refine lv_iload_n hx hb dX9_compare_90 rfl (lv_at hl 2 rfl) ?_
          refine lv_iconst (v := 2) hx hb dX9_compare_91 (by decide) ?_
          refine lv_icmp_ge (tgt := 121) hx hb dX9_compare_92 (by decide) (fun c38 => absurd c38 (Int32.not_le.mpr (hmx.1 h1l).2.1)) (fun c38 => ?_)
          refine lv_lload hx hb dX9_compare_95 (lv_at hl 1 rfl) ?_
          refine lv_lload hx hb dX9_compare_97 (lv_at hl 0 rfl) ?_
          refine W.lcmp hx hb dX9_compare_99 ?_
          refine lv_if_ge (tgt := 107) hx hb dX9_compare_100 (by decide) (fun c39 => ?_) (fun c39 => ?_)
          · refine lv_lload hx hb dX9_compare_107 (lv_at hl 1 rfl) ?_
            refine lv_lload hx hb dX9_compare_109 (lv_at hl 0 rfl) ?_
            refine W.lcmp hx hb dX9_compare_111 ?_
            refine lv_if_le (tgt := 119) hx hb dX9_compare_112 (by decide) (fun c40 => ?_) (fun c40 => ?_)
            · refine lv_iconst (v := 0) hx hb dX9_compare_119 (by decide) ?_
              exact W.iret (v := 0) hx hb hr (fun t ht hW => ⟨⟨0, F12, rfl, (by subst hr23 ev22 ev21 hr20 ev19 ev18; exact ⟨(by unfold sp_cmp; rw [hi_x, hi_y]; show _ = cmpM _ _ _ _; unfold cmpM; rw [if_pos (hmx.1 h1l).2.1]; exact (cmpL3 c39 c40).symm), ⟨⟨_, _, hmo, hFo_12⟩, ⟨hm0, hFqm0_12⟩, ⟨hm1, hFqm1_12⟩, ⟨hm2, hFqm2_12⟩, ⟨hm3, hFqm3_12⟩, ⟨hm4, hFqm4_12⟩, ⟨hm5, hFqm5_12⟩, ⟨hm6, hFqm6_12⟩, ⟨hm7, hFqm7_12⟩, ⟨hm8, hFqm8_12⟩, ⟨hm9, hFqm9_12⟩, ⟨hm10, hFqm10_12⟩, ⟨hm11, hFqm11_12⟩, ⟨hm12, hFqm12_12⟩, ⟨hm13, hFqm13_12⟩, ⟨hm14, hFqm14_12⟩, ⟨hm15, hFqm15_12⟩, hne⟩⟩), (by show va_P _ _ _ t.heap; rw [ht]; exact hP)⟩, hS.F ht⟩) hS.2.2 dX9_compare_120
            · refine lv_iconst (v := 1) hx hb dX9_compare_115 (by decide) ?_
              refine lv_goto (tgt := 120) hx hb dX9_compare_116 (by decide) ?_
              exact W.iret (v := 1) hx hb hr (fun t ht hW => ⟨⟨1, F12, rfl, (by subst hr23 ev22 ev21 hr20 ev19 ev18; exact ⟨(by unfold sp_cmp; rw [hi_x, hi_y]; show _ = cmpM _ _ _ _; unfold cmpM; rw [if_pos (hmx.1 h1l).2.1]; exact (cmpL2 c39 c40).symm), ⟨⟨_, _, hmo, hFo_12⟩, ⟨hm0, hFqm0_12⟩, ⟨hm1, hFqm1_12⟩, ⟨hm2, hFqm2_12⟩, ⟨hm3, hFqm3_12⟩, ⟨hm4, hFqm4_12⟩, ⟨hm5, hFqm5_12⟩, ⟨hm6, hFqm6_12⟩, ⟨hm7, hFqm7_12⟩, ⟨hm8, hFqm8_12⟩, ⟨hm9, hFqm9_12⟩, ⟨hm10, hFqm10_12⟩, ⟨hm11, hFqm11_12⟩, ⟨hm12, hFqm12_12⟩, ⟨hm13, hFqm13_12⟩, ⟨hm14, hFqm14_12⟩, ⟨hm15, hFqm15_12⟩, hne⟩⟩), (by show va_P _ _ _ t.heap; rw [ht]; exact hP)⟩, hS.F ht⟩) hS.2.2 dX9_compare_120
          · refine lv_iconst (v := -1) hx hb dX9_compare_103 (by decide) ?_
            refine lv_goto (tgt := 120) hx hb dX9_compare_104 (by decide) ?_
            exact W.iret (v := -1) hx hb hr (fun t ht hW => ⟨⟨-1, F12, rfl, (by subst hr23 ev22 ev21 hr20 ev19 ev18; exact ⟨(by unfold sp_cmp; rw [hi_x, hi_y]; show _ = cmpM _ _ _ _; unfold cmpM; rw [if_pos (hmx.1 h1l).2.1]; exact (cmpL1 c39).symm), ⟨⟨_, _, hmo, hFo_12⟩, ⟨hm0, hFqm0_12⟩, ⟨hm1, hFqm1_12⟩, ⟨hm2, hFqm2_12⟩, ⟨hm3, hFqm3_12⟩, ⟨hm4, hFqm4_12⟩, ⟨hm5, hFqm5_12⟩, ⟨hm6, hFqm6_12⟩, ⟨hm7, hFqm7_12⟩, ⟨hm8, hFqm8_12⟩, ⟨hm9, hFqm9_12⟩, ⟨hm10, hFqm10_12⟩, ⟨hm11, hFqm11_12⟩, ⟨hm12, hFqm12_12⟩, ⟨hm13, hFqm13_12⟩, ⟨hm14, hFqm14_12⟩, ⟨hm15, hFqm15_12⟩, hne⟩⟩), (by show va_P _ _ _ t.heap; rw [ht]; exact hP)⟩, hS.F ht⟩) hS.2.2 dX9_compare_120
      · refine lv_aload_n hx hb dX9_compare_23 rfl (lv_at hl 0 rfl) ?_
        refine pg_get (ci := 8) (C := RX9) (T := TX9) (N := 20) hx hb hts hinX9 hown hK hP hmo hFo_12 rfl 1 (by decide) (hts (.fieldLink RX9 7 "RopeDrumsModel" "laneOf" "[I") (by decide +kernel)) (fun _ h9 => h9) rfl dX9_compare_24 ?_
        refine lv_iload_n hx hb dX9_compare_27 rfl (lv_at hl 1 rfl) ?_
        refine pg_iald hx hb hK hP 1 hm0 hFqm0_12 rfl (vp_in_nI (by omega) (by decide)) dX9_compare_28 ?_
        refine lv_topi (fun v41 ev41 => ?_)
        rw [nI_clamp (by omega)] at ev41
        refine lv_aload_n hx hb dX9_compare_29 rfl (lv_at hl 0 rfl) ?_
        refine pg_get (ci := 8) (C := RX9) (T := TX9) (N := 20) hx hb hts hinX9 hown hK hP hmo hFo_12 rfl 1 (by decide) (hts (.fieldLink RX9 7 "RopeDrumsModel" "laneOf" "[I") (by decide +kernel)) (fun _ h9 => h9) rfl dX9_compare_30 ?_
        refine lv_iload_n hx hb dX9_compare_33 rfl (lv_at hl 2 rfl) ?_
        refine pg_iald hx hb hK hP 1 hm0 hFqm0_12 rfl (vp_in_nI (by omega) (by decide)) dX9_compare_34 ?_
        refine lv_topi (fun v42 ev42 => ?_)
        rw [nI_clamp (by omega)] at ev42
        refine lv_icmp_le (tgt := 47) hx hb dX9_compare_35 (by decide) (fun c43 => ?_) (fun c43 => ?_)
        · refine lv_aload_n hx hb dX9_compare_47 rfl (lv_at hl 0 rfl) ?_
          refine pg_get (ci := 8) (C := RX9) (T := TX9) (N := 20) hx hb hts hinX9 hown hK hP hmo hFo_12 rfl 1 (by decide) (hts (.fieldLink RX9 7 "RopeDrumsModel" "laneOf" "[I") (by decide +kernel)) (fun _ h9 => h9) rfl dX9_compare_48 ?_
          refine lv_iload_n hx hb dX9_compare_51 rfl (lv_at hl 2 rfl) ?_
          refine pg_iald hx hb hK hP 1 hm0 hFqm0_12 rfl (vp_in_nI (by omega) (by decide)) dX9_compare_52 ?_
          refine lv_topi (fun v44 ev44 => ?_)
          rw [nI_clamp (by omega)] at ev44
          exact K _ ((by have hc := c43; rw [ev41, ev42] at hc; rw [ev44]; exact (if_neg (Int32.not_lt.mpr hc)).symm))
        · refine lv_aload_n hx hb dX9_compare_38 rfl (lv_at hl 0 rfl) ?_
          refine pg_get (ci := 8) (C := RX9) (T := TX9) (N := 20) hx hb hts hinX9 hown hK hP hmo hFo_12 rfl 1 (by decide) (hts (.fieldLink RX9 7 "RopeDrumsModel" "laneOf" "[I") (by decide +kernel)) (fun _ h9 => h9) rfl dX9_compare_39 ?_
          refine lv_iload_n hx hb dX9_compare_42 rfl (lv_at hl 1 rfl) ?_
          refine pg_iald hx hb hK hP 1 hm0 hFqm0_12 rfl (vp_in_nI (by omega) (by decide)) dX9_compare_43 ?_
          refine lv_topi (fun v45 ev45 => ?_)
          rw [nI_clamp (by omega)] at ev45
          refine lv_goto (tgt := 53) hx hb dX9_compare_44 (by decide) ?_
          exact K _ ((by have hc := c43; rw [ev41, ev42] at hc; rw [ev45]; exact (if_pos (Int32.not_le.mp hc)).symm))

theorem okAr_num {n : Nat} (hn : n < 2 ^ 64) (h : okAr (db (lN n)).toNat = true) : numB 3 (lN n) = true := by
  unfold okAr at h
  simp only [Bool.and_eq_true, decide_eq_true_eq] at h
  unfold db at h
  rw [lN_u, u_tn hn] at h
  exact (set_3 (nm := 0) hn (by omega)).2

set_option maxHeartbeats 8000000 in
set_option maxRecDepth 100000 in
theorem n_drum (l : Launch) (G : va_G) (cy : Nat → ClassId) (L : List Nat) (F : Nat → va_E) (sz : Nat) (o : Nat) (qm : Nat → Nat) (Mm : SM) (Dd : SD) (Sl : SL) (Pp : SP) (Kr : SR) (Bk : SB) (Xx : SX) (hR : RepM cy L o qm Mm Dd Sl Pp Kr Bk Xx F) (hV : Val Mm Dd Sl Pp Kr Bk) (dr : Int32) (n : Nat) (hn : n < 2 ^ 64)  : Met l yX9_drum wsX9_drum ({ frames := 2, cells := 0, slots := 0, locals := 45 }) (va_Pc [.ref o, .int dr, .long (lN n)] (fun U => bQ G cy L F sz U U.heap)) (va_Qi (fun (r : Int32) (F' : Nat → va_E) => r = (sp_drum Dd dr (lN n)).1 ∧ RepM cy L o qm Mm (sp_drum Dd dr (lN n)).2 Sl Pp Kr Bk Xx F') (fun F' t => va_P G vwCl (va_pl L F') t.heap) (va_A (va_pl L F) sz)) 0 0 (va_A (va_pl L F) sz) := by
  refine Met.ofW (cc := cX9_drum) (maxL := 4) (ret := (some .int)) (by decide) rfl ?_
  intro p e s m args below meth c s₁ B hml hv
  obtain ⟨rfl, hsz, hP, hK, hD0⟩ := hv
  have hx := B.exec
  have hb := B.bytes
  have hr := B.returns
  have hts := atoms_spec (ws := wsX9_drum) B.pre
  have hown : s.vm.findClass RX9 = some m.cls := findClass_of_methodNamed B.named
  have hlocks := B.notSynchronized
  have hinX9 : ∀ w ∈ wsX90, w ∈ wsX9_drum := by decide +kernel
  subst hsz
  have hD := hD0.self F s.heap.size
  generalize hAe : va_A (va_pl L F) s.heap.size = A at hD ⊢
  have hA : ∀ q : Nat, s.heap.size ≤ q → A q := fun q h => by rw [← hAe]; exact Or.inr h
  have hS : va_S A s.heap s.heap [] := va_S.rf
  obtain ⟨⟨th, oc, hmo, hFo⟩, ⟨hm0, hF0⟩, ⟨hm1, hF1⟩, ⟨hm2, hF2⟩, ⟨hm3, hF3⟩, ⟨hm4, hF4⟩, ⟨hm5, hF5⟩, ⟨hm6, hF6⟩, ⟨hm7, hF7⟩, ⟨hm8, hF8⟩, ⟨hm9, hF9⟩, ⟨hm10, hF10⟩, ⟨hm11, hF11⟩, ⟨hm12, hF12⟩, ⟨hm13, hF13⟩, ⟨hm14, hF14⟩, ⟨hm15, hF15⟩, hne⟩ := id hR
  obtain ⟨hVM, hVD, hVS, hVP, hVK, hVB⟩ := hV
  have hl := lv_entry ([.ref o, .int dr, .long (lN n)]) (n := 4) (Nat.le_of_ble_eq_true rfl)
  rw [lg_entry_eq]
  generalize (lg_sl ([.ref o, .int dr, .long (lN n)]) ++ List.replicate (4 - (lg_sl ([.ref o, .int dr, .long (lN n)])).length) Slot.unset).toArray = ls at hl ⊢
  have hl : lv_has ls 4 [(0, .ref o), (1, .int dr), (2, .long (lN n))] := hl
  rcases ixc 6 dr with hi_dr | ⟨j_dr, hj_dr, hi_dr, ei_dr⟩
  · refine lv_aload_n hx hb dX9_drum_0 rfl (lv_at hl 0 rfl) ?_
    refine lv_iconst (v := 0) hx hb dX9_drum_1 (by decide) ?_
    refine pg_put (ci := 8) (v := .int 0) (ty := .int) (C := RX9) (T := TX9) (N := 20) hx hb hts hinX9 tyX9 tyX9_ok nmX9 hown hK hP hD hS hmo hFo rfl 0 (by decide) (hts (.fieldLink RX9 61 "RopeDrumsModel" "thrown" "I") (by decide +kernel)) (fun _ h9 => h9) rfl (by decide +kernel) (rfl) (rfl) (Nat.le_of_ble_eq_true rfl) dX9_drum_2 (fun H locs F1 eF1 hP hS => ?_)
    have eF1 : F1 = va_up F o (.inr (8, [.int 0, .ref (qm 0), .ref (qm 1), .ref (qm 2), .ref (qm 3), .ref (qm 4), .ref (qm 5), .ref (qm 6), .ref (qm 7), .int Pp.1, .ref (qm 8), .ref (qm 9), .ref (qm 10), .ref (qm 11), .ref (qm 12), .ref (qm 13), .ref (qm 14), .int Xx.1, .ref (qm 15), .long oc])) := eF1
    have hFo_1 : F1 o = .inr (8, [.int 0, .ref (qm 0), .ref (qm 1), .ref (qm 2), .ref (qm 3), .ref (qm 4), .ref (qm 5), .ref (qm 6), .ref (qm 7), .int Pp.1, .ref (qm 8), .ref (qm 9), .ref (qm 10), .ref (qm 11), .ref (qm 12), .ref (qm 13), .ref (qm 14), .int Xx.1, .ref (qm 15), .long oc]) := by rw [eF1]; exact va_up_self _ _ _
    have hFqm0_1 : F1 (qm 0) = cI (cy 1) 10 Mm.1 := by rw [eF1, va_up_ne _ _ (pl_ne hF0 hFo rfl)]; exact hF0
    have hFqm1_1 : F1 (qm 1) = cJ (cy 2) 10 Mm.2 := by rw [eF1, va_up_ne _ _ (pl_ne hF1 hFo rfl)]; exact hF1
    have hFqm2_1 : F1 (qm 2) = cD (cy 0) 6 Dd.1 := by rw [eF1, va_up_ne _ _ (pl_ne hF2 hFo rfl)]; exact hF2
    have hFqm3_1 : F1 (qm 3) = cD (cy 0) 6 Dd.2.1 := by rw [eF1, va_up_ne _ _ (pl_ne hF3 hFo rfl)]; exact hF3
    have hFqm4_1 : F1 (qm 4) = cD (cy 0) 6 Dd.2.2.1 := by rw [eF1, va_up_ne _ _ (pl_ne hF4 hFo rfl)]; exact hF4
    have hFqm5_1 : F1 (qm 5) = cJ (cy 2) 6 Dd.2.2.2 := by rw [eF1, va_up_ne _ _ (pl_ne hF5 hFo rfl)]; exact hF5
    have hFqm6_1 : F1 (qm 6) = cI (cy 1) 8 Sl.1 := by rw [eF1, va_up_ne _ _ (pl_ne hF6 hFo rfl)]; exact hF6
    have hFqm7_1 : F1 (qm 7) = cJ (cy 2) 128 Sl.2 := by rw [eF1, va_up_ne _ _ (pl_ne hF7 hFo rfl)]; exact hF7
    have hFqm8_1 : F1 (qm 8) = cI (cy 1) 30 Pp.2.1 := by rw [eF1, va_up_ne _ _ (pl_ne hF8 hFo rfl)]; exact hF8
    have hFqm9_1 : F1 (qm 9) = cI (cy 3) 30 Pp.2.2 := by rw [eF1, va_up_ne _ _ (pl_ne hF9 hFo rfl)]; exact hF9
    have hFqm10_1 : F1 (qm 10) = cI (cy 1) 5 Kr.1 := by rw [eF1, va_up_ne _ _ (pl_ne hF10 hFo rfl)]; exact hF10
    have hFqm11_1 : F1 (qm 11) = cI (cy 3) 5 Kr.2.1 := by rw [eF1, va_up_ne _ _ (pl_ne hF11 hFo rfl)]; exact hF11
    have hFqm12_1 : F1 (qm 12) = cI (cy 1) 60 Kr.2.2 := by rw [eF1, va_up_ne _ _ (pl_ne hF12 hFo rfl)]; exact hF12
    have hFqm13_1 : F1 (qm 13) = cI (cy 1) 4 Bk.1 := by rw [eF1, va_up_ne _ _ (pl_ne hF13 hFo rfl)]; exact hF13
    have hFqm14_1 : F1 (qm 14) = cD (cy 0) 4 Bk.2 := by rw [eF1, va_up_ne _ _ (pl_ne hF14 hFo rfl)]; exact hF14
    have hFqm15_1 : F1 (qm 15) = cI (cy 1) 6 Xx.2 := by rw [eF1, va_up_ne _ _ (pl_ne hF15 hFo rfl)]; exact hF15
    refine lv_iload_n hx hb dX9_drum_5 rfl (lv_at hl 1 rfl) ?_
    refine vp_callSi (W.runS (As := [.int dr]) (rest := []) ⟨hx, hb, hml, hown, hts⟩ (c9_isDrum l dr) (va_cwS 1 hts gX9_drum_X9_isDrum rfl rfl rfl (by decide +kernel) ⟨Nat.le_of_ble_eq_true rfl, Nat.le_of_ble_eq_true rfl⟩) (preS_of okT (trivial)) rfl rfl hl.1 rfl (lv_room (Nat.le_of_ble_eq_true rfl)) dX9_drum_6 ⟨Nat.le_of_ble_eq_true rfl, Nat.le_of_ble_eq_true rfl⟩) (fun r2 hr2 => ?_)
    rw [isx0 hi_dr] at hr2
    subst hr2
    refine lv_if_ne (tgt := 16) hx hb dX9_drum_9 (by decide) (fun c3 => absurd (by decide) c3) (fun c3 => ?_)
    refine lv_sipush (v := -1001) hx hb dX9_drum_12 (by decide) ?_
    exact W.iret (v := -1001) hx hb hr (fun t ht hW => ⟨⟨-1001, F1, rfl, (by have hsp : sp_drum Dd dr (lN n) = (-1001, Dd) := (by unfold sp_drum; rw [hi_dr]); rw [hsp]; exact ⟨rfl, (by exact ⟨⟨_, _, hmo, hFo_1⟩, ⟨hm0, hFqm0_1⟩, ⟨hm1, hFqm1_1⟩, ⟨hm2, hFqm2_1⟩, ⟨hm3, hFqm3_1⟩, ⟨hm4, hFqm4_1⟩, ⟨hm5, hFqm5_1⟩, ⟨hm6, hFqm6_1⟩, ⟨hm7, hFqm7_1⟩, ⟨hm8, hFqm8_1⟩, ⟨hm9, hFqm9_1⟩, ⟨hm10, hFqm10_1⟩, ⟨hm11, hFqm11_1⟩, ⟨hm12, hFqm12_1⟩, ⟨hm13, hFqm13_1⟩, ⟨hm14, hFqm14_1⟩, ⟨hm15, hFqm15_1⟩, hne⟩)⟩), (by show va_P _ _ _ t.heap; rw [ht]; exact hP)⟩, hS.F ht⟩) hS.2.2 dX9_drum_15
  · subst ei_dr
    by_cases hnum : numB 3 (lN n) = true
    · refine lv_aload_n hx hb dX9_drum_0 rfl (lv_at hl 0 rfl) ?_
      refine lv_iconst (v := 0) hx hb dX9_drum_1 (by decide) ?_
      refine pg_put (ci := 8) (v := .int 0) (ty := .int) (C := RX9) (T := TX9) (N := 20) hx hb hts hinX9 tyX9 tyX9_ok nmX9 hown hK hP hD hS hmo hFo rfl 0 (by decide) (hts (.fieldLink RX9 61 "RopeDrumsModel" "thrown" "I") (by decide +kernel)) (fun _ h9 => h9) rfl (by decide +kernel) (rfl) (rfl) (Nat.le_of_ble_eq_true rfl) dX9_drum_2 (fun H locs F4 eF4 hP hS => ?_)
      have eF4 : F4 = va_up F o (.inr (8, [.int 0, .ref (qm 0), .ref (qm 1), .ref (qm 2), .ref (qm 3), .ref (qm 4), .ref (qm 5), .ref (qm 6), .ref (qm 7), .int Pp.1, .ref (qm 8), .ref (qm 9), .ref (qm 10), .ref (qm 11), .ref (qm 12), .ref (qm 13), .ref (qm 14), .int Xx.1, .ref (qm 15), .long oc])) := eF4
      have hFo_4 : F4 o = .inr (8, [.int 0, .ref (qm 0), .ref (qm 1), .ref (qm 2), .ref (qm 3), .ref (qm 4), .ref (qm 5), .ref (qm 6), .ref (qm 7), .int Pp.1, .ref (qm 8), .ref (qm 9), .ref (qm 10), .ref (qm 11), .ref (qm 12), .ref (qm 13), .ref (qm 14), .int Xx.1, .ref (qm 15), .long oc]) := by rw [eF4]; exact va_up_self _ _ _
      have hFqm0_4 : F4 (qm 0) = cI (cy 1) 10 Mm.1 := by rw [eF4, va_up_ne _ _ (pl_ne hF0 hFo rfl)]; exact hF0
      have hFqm1_4 : F4 (qm 1) = cJ (cy 2) 10 Mm.2 := by rw [eF4, va_up_ne _ _ (pl_ne hF1 hFo rfl)]; exact hF1
      have hFqm2_4 : F4 (qm 2) = cD (cy 0) 6 Dd.1 := by rw [eF4, va_up_ne _ _ (pl_ne hF2 hFo rfl)]; exact hF2
      have hFqm3_4 : F4 (qm 3) = cD (cy 0) 6 Dd.2.1 := by rw [eF4, va_up_ne _ _ (pl_ne hF3 hFo rfl)]; exact hF3
      have hFqm4_4 : F4 (qm 4) = cD (cy 0) 6 Dd.2.2.1 := by rw [eF4, va_up_ne _ _ (pl_ne hF4 hFo rfl)]; exact hF4
      have hFqm5_4 : F4 (qm 5) = cJ (cy 2) 6 Dd.2.2.2 := by rw [eF4, va_up_ne _ _ (pl_ne hF5 hFo rfl)]; exact hF5
      have hFqm6_4 : F4 (qm 6) = cI (cy 1) 8 Sl.1 := by rw [eF4, va_up_ne _ _ (pl_ne hF6 hFo rfl)]; exact hF6
      have hFqm7_4 : F4 (qm 7) = cJ (cy 2) 128 Sl.2 := by rw [eF4, va_up_ne _ _ (pl_ne hF7 hFo rfl)]; exact hF7
      have hFqm8_4 : F4 (qm 8) = cI (cy 1) 30 Pp.2.1 := by rw [eF4, va_up_ne _ _ (pl_ne hF8 hFo rfl)]; exact hF8
      have hFqm9_4 : F4 (qm 9) = cI (cy 3) 30 Pp.2.2 := by rw [eF4, va_up_ne _ _ (pl_ne hF9 hFo rfl)]; exact hF9
      have hFqm10_4 : F4 (qm 10) = cI (cy 1) 5 Kr.1 := by rw [eF4, va_up_ne _ _ (pl_ne hF10 hFo rfl)]; exact hF10
      have hFqm11_4 : F4 (qm 11) = cI (cy 3) 5 Kr.2.1 := by rw [eF4, va_up_ne _ _ (pl_ne hF11 hFo rfl)]; exact hF11
      have hFqm12_4 : F4 (qm 12) = cI (cy 1) 60 Kr.2.2 := by rw [eF4, va_up_ne _ _ (pl_ne hF12 hFo rfl)]; exact hF12
      have hFqm13_4 : F4 (qm 13) = cI (cy 1) 4 Bk.1 := by rw [eF4, va_up_ne _ _ (pl_ne hF13 hFo rfl)]; exact hF13
      have hFqm14_4 : F4 (qm 14) = cD (cy 0) 4 Bk.2 := by rw [eF4, va_up_ne _ _ (pl_ne hF14 hFo rfl)]; exact hF14
      have hFqm15_4 : F4 (qm 15) = cI (cy 1) 6 Xx.2 := by rw [eF4, va_up_ne _ _ (pl_ne hF15 hFo rfl)]; exact hF15
      refine lv_iload_n hx hb dX9_drum_5 rfl (lv_at hl 1 rfl) ?_
      refine vp_callSi (W.runS (As := [.int (nI j_dr)]) (rest := []) ⟨hx, hb, hml, hown, hts⟩ (c9_isDrum l (nI j_dr)) (va_cwS 1 hts gX9_drum_X9_isDrum rfl rfl rfl (by decide +kernel) ⟨Nat.le_of_ble_eq_true rfl, Nat.le_of_ble_eq_true rfl⟩) (preS_of okT (trivial)) rfl rfl hl.1 rfl (lv_room (Nat.le_of_ble_eq_true rfl)) dX9_drum_6 ⟨Nat.le_of_ble_eq_true rfl, Nat.le_of_ble_eq_true rfl⟩) (fun r5 hr5 => ?_)
      rw [isx1 hi_dr] at hr5
      subst hr5
      refine lv_if_ne (tgt := 16) hx hb dX9_drum_9 (by decide) (fun c6 => ?_) (fun c6 => absurd c6 (by decide))
      refine lv_iconst (v := 3) hx hb dX9_drum_16 (by decide) ?_
      refine lv_lload_n hx hb dX9_drum_17 rfl (lv_at hl 2 rfl) ?_
      refine vp_callSi (W.runS (As := [.int 3, .long (lN n)]) (rest := []) ⟨hx, hb, hml, hown, hts⟩ (c9_isNumber l 3 n hn) (va_cwS 2 hts gX9_drum_X9_isNumber rfl rfl rfl (by decide +kernel) ⟨Nat.le_of_ble_eq_true rfl, Nat.le_of_ble_eq_true rfl⟩) (preS_of okT (trivial)) rfl rfl hl.1 rfl (lv_room (Nat.le_of_ble_eq_true rfl)) dX9_drum_18 ⟨Nat.le_of_ble_eq_true rfl, Nat.le_of_ble_eq_true rfl⟩) (fun r7 hr7 => ?_)
      rw [if_pos hnum] at hr7
      subst hr7
      have hv9 := numB3g hn hnum
      refine lv_if_eq (tgt := 46) hx hb dX9_drum_21 (by decide) (fun c8 => absurd c8 (by decide)) (fun c8 => ?_)
      refine lv_lload_n hx hb dX9_drum_24 rfl (lv_at hl 2 rfl) ?_
      refine vp_callSd (W.runS (As := [.long (lN n)]) (rest := []) ⟨hx, hb, hml, hown, hts⟩ (c9_doubleOf l (lN n) (by exact hv9)) (va_cwS 1 hts gX9_drum_X9_doubleOf rfl rfl rfl (by decide +kernel) ⟨Nat.le_of_ble_eq_true rfl, Nat.le_of_ble_eq_true rfl⟩) (preS_of okT (trivial)) rfl rfl hl.1 rfl (lv_room (Nat.le_of_ble_eq_true rfl)) dX9_drum_25 ⟨Nat.le_of_ble_eq_true rfl, Nat.le_of_ble_eq_true rfl⟩) (fun r9 hr9 => ?_)
      refine lv_ldc2d hx hb hown (hts (.constantDouble RX9 166 (4593671619917905920)) (by decide +kernel)) dX9_drum_28 ?_
      refine lv_dcmp hx hb dX9_drum_31 ?_
      refine lv_if_lt (tgt := 46) hx hb dX9_drum_32 (by decide) (fun c10 => ?_) (fun c10 => ?_)
      · refine lv_sipush (v := -1002) hx hb dX9_drum_46 (by decide) ?_
        exact W.iret (v := -1002) hx hb hr (fun t ht hW => ⟨⟨-1002, F4, rfl, (by subst hr9; have hsp : sp_drum Dd (nI j_dr) (lN n) = (-1002, Dd) := (by unfold sp_drum; rw [hi_dr]; exact if_neg (by have hc := (ar_cmp hv9).1.mp c10; unfold okAr; simp; omega)); rw [hsp]; exact ⟨rfl, (by exact ⟨⟨_, _, hmo, hFo_4⟩, ⟨hm0, hFqm0_4⟩, ⟨hm1, hFqm1_4⟩, ⟨hm2, hFqm2_4⟩, ⟨hm3, hFqm3_4⟩, ⟨hm4, hFqm4_4⟩, ⟨hm5, hFqm5_4⟩, ⟨hm6, hFqm6_4⟩, ⟨hm7, hFqm7_4⟩, ⟨hm8, hFqm8_4⟩, ⟨hm9, hFqm9_4⟩, ⟨hm10, hFqm10_4⟩, ⟨hm11, hFqm11_4⟩, ⟨hm12, hFqm12_4⟩, ⟨hm13, hFqm13_4⟩, ⟨hm14, hFqm14_4⟩, ⟨hm15, hFqm15_4⟩, hne⟩)⟩), (by show va_P _ _ _ t.heap; rw [ht]; exact hP)⟩, hS.F ht⟩) hS.2.2 dX9_drum_49
      · refine lv_lload_n hx hb dX9_drum_35 rfl (lv_at hl 2 rfl) ?_
        refine vp_callSd (W.runS (As := [.long (lN n)]) (rest := []) ⟨hx, hb, hml, hown, hts⟩ (c9_doubleOf l (lN n) (by exact hv9)) (va_cwS 1 hts gX9_drum_X9_doubleOf rfl rfl rfl (by decide +kernel) ⟨Nat.le_of_ble_eq_true rfl, Nat.le_of_ble_eq_true rfl⟩) (preS_of okT (trivial)) rfl rfl hl.1 rfl (lv_room (Nat.le_of_ble_eq_true rfl)) dX9_drum_36 ⟨Nat.le_of_ble_eq_true rfl, Nat.le_of_ble_eq_true rfl⟩) (fun r11 hr11 => ?_)
        refine lv_ldc2d hx hb hown (hts (.constantDouble RX9 168 (4696837146684686336)) (by decide +kernel)) dX9_drum_39 ?_
        refine lv_dcmp hx hb dX9_drum_42 ?_
        refine lv_if_le (tgt := 50) hx hb dX9_drum_43 (by decide) (fun c12 => ?_) (fun c12 => ?_)
        · refine lv_aload_n hx hb dX9_drum_50 rfl (lv_at hl 0 rfl) ?_
          refine pg_get (ci := 8) (C := RX9) (T := TX9) (N := 20) hx hb hts hinX9 hown hK hP hmo hFo_4 rfl 3 (by decide) (hts (.fieldLink RX9 17 "RopeDrumsModel" "around" "[D") (by decide +kernel)) (fun _ h9 => h9) rfl dX9_drum_51 ?_
          refine lv_iload_n hx hb dX9_drum_54 rfl (lv_at hl 1 rfl) ?_
          refine lv_lload_n hx hb dX9_drum_55 rfl (lv_at hl 2 rfl) ?_
          refine vp_callSd (W.runS (As := [.long (lN n)]) (rest := [.int (nI j_dr), .ref (qm 2)]) ⟨hx, hb, hml, hown, hts⟩ (c9_doubleOf l (lN n) (by exact hv9)) (va_cwS 1 hts gX9_drum_X9_doubleOf rfl rfl rfl (by decide +kernel) ⟨Nat.le_of_ble_eq_true rfl, Nat.le_of_ble_eq_true rfl⟩) (preS_of okT (trivial)) rfl rfl hl.1 rfl (lv_room (Nat.le_of_ble_eq_true rfl)) dX9_drum_56 ⟨Nat.le_of_ble_eq_true rfl, Nat.le_of_ble_eq_true rfl⟩) (fun r13 hr13 => ?_)
          refine pg_dast hx hb hK hP hD hS 0 hm2 hFqm2_4 rfl (vp_in_nI (by omega) (by decide)) dX9_drum_59 (fun H locs F14 eF14 hP hS => ?_)
          rw [nI_clamp (by omega)] at eF14
          have hFo_14 : F14 o = .inr (8, [.int 0, .ref (qm 0), .ref (qm 1), .ref (qm 2), .ref (qm 3), .ref (qm 4), .ref (qm 5), .ref (qm 6), .ref (qm 7), .int Pp.1, .ref (qm 8), .ref (qm 9), .ref (qm 10), .ref (qm 11), .ref (qm 12), .ref (qm 13), .ref (qm 14), .int Xx.1, .ref (qm 15), .long oc]) := by rw [eF14, va_up_ne _ _ (pl_ne hFo_4 hFqm2_4 rfl)]; exact hFo_4
          have hFqm0_14 : F14 (qm 0) = cI (cy 1) 10 Mm.1 := by rw [eF14, va_up_ne _ _ (pl_ne hFqm0_4 hFqm2_4 rfl)]; exact hFqm0_4
          have hFqm1_14 : F14 (qm 1) = cJ (cy 2) 10 Mm.2 := by rw [eF14, va_up_ne _ _ (pl_ne hFqm1_4 hFqm2_4 rfl)]; exact hFqm1_4
          have hFqm2_14 : F14 (qm 2) = cD (cy 0) 6 (vf_upd Dd.1 j_dr r13) := by rw [eF14]; exact va_up_self _ _ _
          have hFqm3_14 : F14 (qm 3) = cD (cy 0) 6 Dd.2.1 := by rw [eF14, va_up_ne _ _ ((Ne.symm hne.1))]; exact hFqm3_4
          have hFqm4_14 : F14 (qm 4) = cD (cy 0) 6 Dd.2.2.1 := by rw [eF14, va_up_ne _ _ ((Ne.symm hne.2.1))]; exact hFqm4_4
          have hFqm5_14 : F14 (qm 5) = cJ (cy 2) 6 Dd.2.2.2 := by rw [eF14, va_up_ne _ _ (pl_ne hFqm5_4 hFqm2_4 rfl)]; exact hFqm5_4
          have hFqm6_14 : F14 (qm 6) = cI (cy 1) 8 Sl.1 := by rw [eF14, va_up_ne _ _ (pl_ne hFqm6_4 hFqm2_4 rfl)]; exact hFqm6_4
          have hFqm7_14 : F14 (qm 7) = cJ (cy 2) 128 Sl.2 := by rw [eF14, va_up_ne _ _ (pl_ne hFqm7_4 hFqm2_4 rfl)]; exact hFqm7_4
          have hFqm8_14 : F14 (qm 8) = cI (cy 1) 30 Pp.2.1 := by rw [eF14, va_up_ne _ _ (pl_ne hFqm8_4 hFqm2_4 rfl)]; exact hFqm8_4
          have hFqm9_14 : F14 (qm 9) = cI (cy 3) 30 Pp.2.2 := by rw [eF14, va_up_ne _ _ (pl_ne hFqm9_4 hFqm2_4 rfl)]; exact hFqm9_4
          have hFqm10_14 : F14 (qm 10) = cI (cy 1) 5 Kr.1 := by rw [eF14, va_up_ne _ _ (pl_ne hFqm10_4 hFqm2_4 rfl)]; exact hFqm10_4
          have hFqm11_14 : F14 (qm 11) = cI (cy 3) 5 Kr.2.1 := by rw [eF14, va_up_ne _ _ (pl_ne hFqm11_4 hFqm2_4 rfl)]; exact hFqm11_4
          have hFqm12_14 : F14 (qm 12) = cI (cy 1) 60 Kr.2.2 := by rw [eF14, va_up_ne _ _ (pl_ne hFqm12_4 hFqm2_4 rfl)]; exact hFqm12_4
          have hFqm13_14 : F14 (qm 13) = cI (cy 1) 4 Bk.1 := by rw [eF14, va_up_ne _ _ (pl_ne hFqm13_4 hFqm2_4 rfl)]; exact hFqm13_4
          have hFqm14_14 : F14 (qm 14) = cD (cy 0) 4 Bk.2 := by rw [eF14, va_up_ne _ _ (pl_ne hFqm14_4 hFqm2_4 rfl)]; exact hFqm14_4
          have hFqm15_14 : F14 (qm 15) = cI (cy 1) 6 Xx.2 := by rw [eF14, va_up_ne _ _ (pl_ne hFqm15_4 hFqm2_4 rfl)]; exact hFqm15_4
          refine lv_aload_n hx hb dX9_drum_60 rfl (lv_at hl 0 rfl) ?_
          refine pg_get (ci := 8) (C := RX9) (T := TX9) (N := 20) hx hb hts hinX9 hown hK hP hmo hFo_14 rfl 4 (by decide) (hts (.fieldLink RX9 21 "RopeDrumsModel" "at" "[D") (by decide +kernel)) (fun _ h9 => h9) rfl dX9_drum_61 ?_
          refine lv_iload_n hx hb dX9_drum_64 rfl (lv_at hl 1 rfl) ?_
          refine lv_dconst0 hx hb dX9_drum_65 ?_
          refine pg_dast hx hb hK hP hD hS 0 hm3 hFqm3_14 rfl (vp_in_nI (by omega) (by decide)) dX9_drum_66 (fun H locs F15 eF15 hP hS => ?_)
          rw [nI_clamp (by omega)] at eF15
          have hFo_15 : F15 o = .inr (8, [.int 0, .ref (qm 0), .ref (qm 1), .ref (qm 2), .ref (qm 3), .ref (qm 4), .ref (qm 5), .ref (qm 6), .ref (qm 7), .int Pp.1, .ref (qm 8), .ref (qm 9), .ref (qm 10), .ref (qm 11), .ref (qm 12), .ref (qm 13), .ref (qm 14), .int Xx.1, .ref (qm 15), .long oc]) := by rw [eF15, va_up_ne _ _ (pl_ne hFo_14 hFqm3_14 rfl)]; exact hFo_14
          have hFqm0_15 : F15 (qm 0) = cI (cy 1) 10 Mm.1 := by rw [eF15, va_up_ne _ _ (pl_ne hFqm0_14 hFqm3_14 rfl)]; exact hFqm0_14
          have hFqm1_15 : F15 (qm 1) = cJ (cy 2) 10 Mm.2 := by rw [eF15, va_up_ne _ _ (pl_ne hFqm1_14 hFqm3_14 rfl)]; exact hFqm1_14
          have hFqm2_15 : F15 (qm 2) = cD (cy 0) 6 (vf_upd Dd.1 j_dr r13) := by rw [eF15, va_up_ne _ _ (hne.1)]; exact hFqm2_14
          have hFqm3_15 : F15 (qm 3) = cD (cy 0) 6 (vf_upd Dd.2.1 j_dr FP.dconst0) := by rw [eF15]; exact va_up_self _ _ _
          have hFqm4_15 : F15 (qm 4) = cD (cy 0) 6 Dd.2.2.1 := by rw [eF15, va_up_ne _ _ ((Ne.symm hne.2.2.1))]; exact hFqm4_14
          have hFqm5_15 : F15 (qm 5) = cJ (cy 2) 6 Dd.2.2.2 := by rw [eF15, va_up_ne _ _ (pl_ne hFqm5_14 hFqm3_14 rfl)]; exact hFqm5_14
          have hFqm6_15 : F15 (qm 6) = cI (cy 1) 8 Sl.1 := by rw [eF15, va_up_ne _ _ (pl_ne hFqm6_14 hFqm3_14 rfl)]; exact hFqm6_14
          have hFqm7_15 : F15 (qm 7) = cJ (cy 2) 128 Sl.2 := by rw [eF15, va_up_ne _ _ (pl_ne hFqm7_14 hFqm3_14 rfl)]; exact hFqm7_14
          have hFqm8_15 : F15 (qm 8) = cI (cy 1) 30 Pp.2.1 := by rw [eF15, va_up_ne _ _ (pl_ne hFqm8_14 hFqm3_14 rfl)]; exact hFqm8_14
          have hFqm9_15 : F15 (qm 9) = cI (cy 3) 30 Pp.2.2 := by rw [eF15, va_up_ne _ _ (pl_ne hFqm9_14 hFqm3_14 rfl)]; exact hFqm9_14
          have hFqm10_15 : F15 (qm 10) = cI (cy 1) 5 Kr.1 := by rw [eF15, va_up_ne _ _ (pl_ne hFqm10_14 hFqm3_14 rfl)]; exact hFqm10_14
          have hFqm11_15 : F15 (qm 11) = cI (cy 3) 5 Kr.2.1 := by rw [eF15, va_up_ne _ _ (pl_ne hFqm11_14 hFqm3_14 rfl)]; exact hFqm11_14
          have hFqm12_15 : F15 (qm 12) = cI (cy 1) 60 Kr.2.2 := by rw [eF15, va_up_ne _ _ (pl_ne hFqm12_14 hFqm3_14 rfl)]; exact hFqm12_14
          have hFqm13_15 : F15 (qm 13) = cI (cy 1) 4 Bk.1 := by rw [eF15, va_up_ne _ _ (pl_ne hFqm13_14 hFqm3_14 rfl)]; exact hFqm13_14
          have hFqm14_15 : F15 (qm 14) = cD (cy 0) 4 Bk.2 := by rw [eF15, va_up_ne _ _ (pl_ne hFqm14_14 hFqm3_14 rfl)]; exact hFqm14_14
          have hFqm15_15 : F15 (qm 15) = cI (cy 1) 6 Xx.2 := by rw [eF15, va_up_ne _ _ (pl_ne hFqm15_14 hFqm3_14 rfl)]; exact hFqm15_14
          refine lv_aload_n hx hb dX9_drum_67 rfl (lv_at hl 0 rfl) ?_
          refine pg_get (ci := 8) (C := RX9) (T := TX9) (N := 20) hx hb hts hinX9 hown hK hP hmo hFo_15 rfl 5 (by decide) (hts (.fieldLink RX9 24 "RopeDrumsModel" "rope" "[D") (by decide +kernel)) (fun _ h9 => h9) rfl dX9_drum_68 ?_
          refine lv_iload_n hx hb dX9_drum_71 rfl (lv_at hl 1 rfl) ?_
          refine lv_dconst0 hx hb dX9_drum_72 ?_
          refine pg_dast hx hb hK hP hD hS 0 hm4 hFqm4_15 rfl (vp_in_nI (by omega) (by decide)) dX9_drum_73 (fun H locs F16 eF16 hP hS => ?_)
          rw [nI_clamp (by omega)] at eF16
          have hFo_16 : F16 o = .inr (8, [.int 0, .ref (qm 0), .ref (qm 1), .ref (qm 2), .ref (qm 3), .ref (qm 4), .ref (qm 5), .ref (qm 6), .ref (qm 7), .int Pp.1, .ref (qm 8), .ref (qm 9), .ref (qm 10), .ref (qm 11), .ref (qm 12), .ref (qm 13), .ref (qm 14), .int Xx.1, .ref (qm 15), .long oc]) := by rw [eF16, va_up_ne _ _ (pl_ne hFo_15 hFqm4_15 rfl)]; exact hFo_15
          have hFqm0_16 : F16 (qm 0) = cI (cy 1) 10 Mm.1 := by rw [eF16, va_up_ne _ _ (pl_ne hFqm0_15 hFqm4_15 rfl)]; exact hFqm0_15
          have hFqm1_16 : F16 (qm 1) = cJ (cy 2) 10 Mm.2 := by rw [eF16, va_up_ne _ _ (pl_ne hFqm1_15 hFqm4_15 rfl)]; exact hFqm1_15
          have hFqm2_16 : F16 (qm 2) = cD (cy 0) 6 (vf_upd Dd.1 j_dr r13) := by rw [eF16, va_up_ne _ _ (hne.2.1)]; exact hFqm2_15
          have hFqm3_16 : F16 (qm 3) = cD (cy 0) 6 (vf_upd Dd.2.1 j_dr FP.dconst0) := by rw [eF16, va_up_ne _ _ (hne.2.2.1)]; exact hFqm3_15
          have hFqm4_16 : F16 (qm 4) = cD (cy 0) 6 (vf_upd Dd.2.2.1 j_dr FP.dconst0) := by rw [eF16]; exact va_up_self _ _ _
          have hFqm5_16 : F16 (qm 5) = cJ (cy 2) 6 Dd.2.2.2 := by rw [eF16, va_up_ne _ _ (pl_ne hFqm5_15 hFqm4_15 rfl)]; exact hFqm5_15
          have hFqm6_16 : F16 (qm 6) = cI (cy 1) 8 Sl.1 := by rw [eF16, va_up_ne _ _ (pl_ne hFqm6_15 hFqm4_15 rfl)]; exact hFqm6_15
          have hFqm7_16 : F16 (qm 7) = cJ (cy 2) 128 Sl.2 := by rw [eF16, va_up_ne _ _ (pl_ne hFqm7_15 hFqm4_15 rfl)]; exact hFqm7_15
          have hFqm8_16 : F16 (qm 8) = cI (cy 1) 30 Pp.2.1 := by rw [eF16, va_up_ne _ _ (pl_ne hFqm8_15 hFqm4_15 rfl)]; exact hFqm8_15
          have hFqm9_16 : F16 (qm 9) = cI (cy 3) 30 Pp.2.2 := by rw [eF16, va_up_ne _ _ (pl_ne hFqm9_15 hFqm4_15 rfl)]; exact hFqm9_15
          have hFqm10_16 : F16 (qm 10) = cI (cy 1) 5 Kr.1 := by rw [eF16, va_up_ne _ _ (pl_ne hFqm10_15 hFqm4_15 rfl)]; exact hFqm10_15
          have hFqm11_16 : F16 (qm 11) = cI (cy 3) 5 Kr.2.1 := by rw [eF16, va_up_ne _ _ (pl_ne hFqm11_15 hFqm4_15 rfl)]; exact hFqm11_15
          have hFqm12_16 : F16 (qm 12) = cI (cy 1) 60 Kr.2.2 := by rw [eF16, va_up_ne _ _ (pl_ne hFqm12_15 hFqm4_15 rfl)]; exact hFqm12_15
          have hFqm13_16 : F16 (qm 13) = cI (cy 1) 4 Bk.1 := by rw [eF16, va_up_ne _ _ (pl_ne hFqm13_15 hFqm4_15 rfl)]; exact hFqm13_15
          have hFqm14_16 : F16 (qm 14) = cD (cy 0) 4 Bk.2 := by rw [eF16, va_up_ne _ _ (pl_ne hFqm14_15 hFqm4_15 rfl)]; exact hFqm14_15
          have hFqm15_16 : F16 (qm 15) = cI (cy 1) 6 Xx.2 := by rw [eF16, va_up_ne _ _ (pl_ne hFqm15_15 hFqm4_15 rfl)]; exact hFqm15_15
          refine lv_aload_n hx hb dX9_drum_74 rfl (lv_at hl 0 rfl) ?_
          refine pg_get (ci := 8) (C := RX9) (T := TX9) (N := 20) hx hb hts hinX9 hown hK hP hmo hFo_16 rfl 6 (by decide) (hts (.fieldLink RX9 27 "RopeDrumsModel" "turns" "[J") (by decide +kernel)) (fun _ h9 => h9) rfl dX9_drum_75 ?_
          refine lv_iload_n hx hb dX9_drum_78 rfl (lv_at hl 1 rfl) ?_
          refine lv_lconst (v := 0) hx hb dX9_drum_79 (by decide) ?_
          refine pg_last hx hb hK hP hD hS 2 hm5 hFqm5_16 rfl (vp_in_nI (by omega) (by decide)) dX9_drum_80 (fun H locs F17 eF17 hP hS => ?_)
          rw [nI_clamp (by omega)] at eF17
          have hFo_17 : F17 o = .inr (8, [.int 0, .ref (qm 0), .ref (qm 1), .ref (qm 2), .ref (qm 3), .ref (qm 4), .ref (qm 5), .ref (qm 6), .ref (qm 7), .int Pp.1, .ref (qm 8), .ref (qm 9), .ref (qm 10), .ref (qm 11), .ref (qm 12), .ref (qm 13), .ref (qm 14), .int Xx.1, .ref (qm 15), .long oc]) := by rw [eF17, va_up_ne _ _ (pl_ne hFo_16 hFqm5_16 rfl)]; exact hFo_16
          have hFqm0_17 : F17 (qm 0) = cI (cy 1) 10 Mm.1 := by rw [eF17, va_up_ne _ _ (pl_ne hFqm0_16 hFqm5_16 rfl)]; exact hFqm0_16
          have hFqm1_17 : F17 (qm 1) = cJ (cy 2) 10 Mm.2 := by rw [eF17, va_up_ne _ _ (pl_ne hFqm1_16 hFqm5_16 rfl)]; exact hFqm1_16
          have hFqm2_17 : F17 (qm 2) = cD (cy 0) 6 (vf_upd Dd.1 j_dr r13) := by rw [eF17, va_up_ne _ _ (pl_ne hFqm2_16 hFqm5_16 rfl)]; exact hFqm2_16
          have hFqm3_17 : F17 (qm 3) = cD (cy 0) 6 (vf_upd Dd.2.1 j_dr FP.dconst0) := by rw [eF17, va_up_ne _ _ (pl_ne hFqm3_16 hFqm5_16 rfl)]; exact hFqm3_16
          have hFqm4_17 : F17 (qm 4) = cD (cy 0) 6 (vf_upd Dd.2.2.1 j_dr FP.dconst0) := by rw [eF17, va_up_ne _ _ (pl_ne hFqm4_16 hFqm5_16 rfl)]; exact hFqm4_16
          have hFqm5_17 : F17 (qm 5) = cJ (cy 2) 6 (vp_updL Dd.2.2.2 j_dr 0) := by rw [eF17]; exact va_up_self _ _ _
          have hFqm6_17 : F17 (qm 6) = cI (cy 1) 8 Sl.1 := by rw [eF17, va_up_ne _ _ (pl_ne hFqm6_16 hFqm5_16 rfl)]; exact hFqm6_16
          have hFqm7_17 : F17 (qm 7) = cJ (cy 2) 128 Sl.2 := by rw [eF17, va_up_ne _ _ (pl_ne hFqm7_16 hFqm5_16 rfl)]; exact hFqm7_16
          have hFqm8_17 : F17 (qm 8) = cI (cy 1) 30 Pp.2.1 := by rw [eF17, va_up_ne _ _ (pl_ne hFqm8_16 hFqm5_16 rfl)]; exact hFqm8_16
          have hFqm9_17 : F17 (qm 9) = cI (cy 3) 30 Pp.2.2 := by rw [eF17, va_up_ne _ _ (pl_ne hFqm9_16 hFqm5_16 rfl)]; exact hFqm9_16
          have hFqm10_17 : F17 (qm 10) = cI (cy 1) 5 Kr.1 := by rw [eF17, va_up_ne _ _ (pl_ne hFqm10_16 hFqm5_16 rfl)]; exact hFqm10_16
          have hFqm11_17 : F17 (qm 11) = cI (cy 3) 5 Kr.2.1 := by rw [eF17, va_up_ne _ _ (pl_ne hFqm11_16 hFqm5_16 rfl)]; exact hFqm11_16
          have hFqm12_17 : F17 (qm 12) = cI (cy 1) 60 Kr.2.2 := by rw [eF17, va_up_ne _ _ (pl_ne hFqm12_16 hFqm5_16 rfl)]; exact hFqm12_16
          have hFqm13_17 : F17 (qm 13) = cI (cy 1) 4 Bk.1 := by rw [eF17, va_up_ne _ _ (pl_ne hFqm13_16 hFqm5_16 rfl)]; exact hFqm13_16
          have hFqm14_17 : F17 (qm 14) = cD (cy 0) 4 Bk.2 := by rw [eF17, va_up_ne _ _ (pl_ne hFqm14_16 hFqm5_16 rfl)]; exact hFqm14_16
          have hFqm15_17 : F17 (qm 15) = cI (cy 1) 6 Xx.2 := by rw [eF17, va_up_ne _ _ (pl_ne hFqm15_16 hFqm5_16 rfl)]; exact hFqm15_16
          refine lv_iconst (v := 1) hx hb dX9_drum_81 (by decide) ?_
          exact W.iret (v := 1) hx hb hr (fun t ht hW => ⟨⟨1, F17, rfl, (by subst hr13 hr11 hr9; have hsp : sp_drum Dd (nI j_dr) (lN n) = (1, setD Dd j_dr (db (lN n)) 0 0 0) := (by unfold sp_drum; rw [hi_dr]; exact if_pos (by have hc1 := (not_congr (ar_cmp hv9).1).mp c10; have hc := (ar_cmp hv9).2.mp c12; unfold okAr; simp; omega)); rw [hsp]; exact ⟨rfl, (by exact ⟨⟨_, _, hmo, hFo_17⟩, ⟨hm0, hFqm0_17⟩, ⟨hm1, hFqm1_17⟩, ⟨hm2, hFqm2_17⟩, ⟨hm3, hFqm3_17⟩, ⟨hm4, hFqm4_17⟩, ⟨hm5, hFqm5_17⟩, ⟨hm6, hFqm6_17⟩, ⟨hm7, hFqm7_17⟩, ⟨hm8, hFqm8_17⟩, ⟨hm9, hFqm9_17⟩, ⟨hm10, hFqm10_17⟩, ⟨hm11, hFqm11_17⟩, ⟨hm12, hFqm12_17⟩, ⟨hm13, hFqm13_17⟩, ⟨hm14, hFqm14_17⟩, ⟨hm15, hFqm15_17⟩, hne⟩)⟩), (by show va_P _ _ _ t.heap; rw [ht]; exact hP)⟩, hS.F ht⟩) hS.2.2 dX9_drum_82
        · refine lv_sipush (v := -1002) hx hb dX9_drum_46 (by decide) ?_
          exact W.iret (v := -1002) hx hb hr (fun t ht hW => ⟨⟨-1002, F4, rfl, (by subst hr11 hr9; have hsp : sp_drum Dd (nI j_dr) (lN n) = (-1002, Dd) := (by unfold sp_drum; rw [hi_dr]; exact if_neg (by have hc1 := (not_congr (ar_cmp hv9).1).mp c10; have hc := (not_congr (ar_cmp hv9).2).mp c12; unfold okAr; simp; omega)); rw [hsp]; exact ⟨rfl, (by exact ⟨⟨_, _, hmo, hFo_4⟩, ⟨hm0, hFqm0_4⟩, ⟨hm1, hFqm1_4⟩, ⟨hm2, hFqm2_4⟩, ⟨hm3, hFqm3_4⟩, ⟨hm4, hFqm4_4⟩, ⟨hm5, hFqm5_4⟩, ⟨hm6, hFqm6_4⟩, ⟨hm7, hFqm7_4⟩, ⟨hm8, hFqm8_4⟩, ⟨hm9, hFqm9_4⟩, ⟨hm10, hFqm10_4⟩, ⟨hm11, hFqm11_4⟩, ⟨hm12, hFqm12_4⟩, ⟨hm13, hFqm13_4⟩, ⟨hm14, hFqm14_4⟩, ⟨hm15, hFqm15_4⟩, hne⟩)⟩), (by show va_P _ _ _ t.heap; rw [ht]; exact hP)⟩, hS.F ht⟩) hS.2.2 dX9_drum_49
    · refine lv_aload_n hx hb dX9_drum_0 rfl (lv_at hl 0 rfl) ?_
      refine lv_iconst (v := 0) hx hb dX9_drum_1 (by decide) ?_
      refine pg_put (ci := 8) (v := .int 0) (ty := .int) (C := RX9) (T := TX9) (N := 20) hx hb hts hinX9 tyX9 tyX9_ok nmX9 hown hK hP hD hS hmo hFo rfl 0 (by decide) (hts (.fieldLink RX9 61 "RopeDrumsModel" "thrown" "I") (by decide +kernel)) (fun _ h9 => h9) rfl (by decide +kernel) (rfl) (rfl) (Nat.le_of_ble_eq_true rfl) dX9_drum_2 (fun H locs F18 eF18 hP hS => ?_)
      have eF18 : F18 = va_up F o (.inr (8, [.int 0, .ref (qm 0), .ref (qm 1), .ref (qm 2), .ref (qm 3), .ref (qm 4), .ref (qm 5), .ref (qm 6), .ref (qm 7), .int Pp.1, .ref (qm 8), .ref (qm 9), .ref (qm 10), .ref (qm 11), .ref (qm 12), .ref (qm 13), .ref (qm 14), .int Xx.1, .ref (qm 15), .long oc])) := eF18
      have hFo_18 : F18 o = .inr (8, [.int 0, .ref (qm 0), .ref (qm 1), .ref (qm 2), .ref (qm 3), .ref (qm 4), .ref (qm 5), .ref (qm 6), .ref (qm 7), .int Pp.1, .ref (qm 8), .ref (qm 9), .ref (qm 10), .ref (qm 11), .ref (qm 12), .ref (qm 13), .ref (qm 14), .int Xx.1, .ref (qm 15), .long oc]) := by rw [eF18]; exact va_up_self _ _ _
      have hFqm0_18 : F18 (qm 0) = cI (cy 1) 10 Mm.1 := by rw [eF18, va_up_ne _ _ (pl_ne hF0 hFo rfl)]; exact hF0
      have hFqm1_18 : F18 (qm 1) = cJ (cy 2) 10 Mm.2 := by rw [eF18, va_up_ne _ _ (pl_ne hF1 hFo rfl)]; exact hF1
      have hFqm2_18 : F18 (qm 2) = cD (cy 0) 6 Dd.1 := by rw [eF18, va_up_ne _ _ (pl_ne hF2 hFo rfl)]; exact hF2
      have hFqm3_18 : F18 (qm 3) = cD (cy 0) 6 Dd.2.1 := by rw [eF18, va_up_ne _ _ (pl_ne hF3 hFo rfl)]; exact hF3
      have hFqm4_18 : F18 (qm 4) = cD (cy 0) 6 Dd.2.2.1 := by rw [eF18, va_up_ne _ _ (pl_ne hF4 hFo rfl)]; exact hF4
      have hFqm5_18 : F18 (qm 5) = cJ (cy 2) 6 Dd.2.2.2 := by rw [eF18, va_up_ne _ _ (pl_ne hF5 hFo rfl)]; exact hF5
      have hFqm6_18 : F18 (qm 6) = cI (cy 1) 8 Sl.1 := by rw [eF18, va_up_ne _ _ (pl_ne hF6 hFo rfl)]; exact hF6
      have hFqm7_18 : F18 (qm 7) = cJ (cy 2) 128 Sl.2 := by rw [eF18, va_up_ne _ _ (pl_ne hF7 hFo rfl)]; exact hF7
      have hFqm8_18 : F18 (qm 8) = cI (cy 1) 30 Pp.2.1 := by rw [eF18, va_up_ne _ _ (pl_ne hF8 hFo rfl)]; exact hF8
      have hFqm9_18 : F18 (qm 9) = cI (cy 3) 30 Pp.2.2 := by rw [eF18, va_up_ne _ _ (pl_ne hF9 hFo rfl)]; exact hF9
      have hFqm10_18 : F18 (qm 10) = cI (cy 1) 5 Kr.1 := by rw [eF18, va_up_ne _ _ (pl_ne hF10 hFo rfl)]; exact hF10
      have hFqm11_18 : F18 (qm 11) = cI (cy 3) 5 Kr.2.1 := by rw [eF18, va_up_ne _ _ (pl_ne hF11 hFo rfl)]; exact hF11
      have hFqm12_18 : F18 (qm 12) = cI (cy 1) 60 Kr.2.2 := by rw [eF18, va_up_ne _ _ (pl_ne hF12 hFo rfl)]; exact hF12
      have hFqm13_18 : F18 (qm 13) = cI (cy 1) 4 Bk.1 := by rw [eF18, va_up_ne _ _ (pl_ne hF13 hFo rfl)]; exact hF13
      have hFqm14_18 : F18 (qm 14) = cD (cy 0) 4 Bk.2 := by rw [eF18, va_up_ne _ _ (pl_ne hF14 hFo rfl)]; exact hF14
      have hFqm15_18 : F18 (qm 15) = cI (cy 1) 6 Xx.2 := by rw [eF18, va_up_ne _ _ (pl_ne hF15 hFo rfl)]; exact hF15
      refine lv_iload_n hx hb dX9_drum_5 rfl (lv_at hl 1 rfl) ?_
      refine vp_callSi (W.runS (As := [.int (nI j_dr)]) (rest := []) ⟨hx, hb, hml, hown, hts⟩ (c9_isDrum l (nI j_dr)) (va_cwS 1 hts gX9_drum_X9_isDrum rfl rfl rfl (by decide +kernel) ⟨Nat.le_of_ble_eq_true rfl, Nat.le_of_ble_eq_true rfl⟩) (preS_of okT (trivial)) rfl rfl hl.1 rfl (lv_room (Nat.le_of_ble_eq_true rfl)) dX9_drum_6 ⟨Nat.le_of_ble_eq_true rfl, Nat.le_of_ble_eq_true rfl⟩) (fun r19 hr19 => ?_)
      rw [isx1 hi_dr] at hr19
      subst hr19
      refine lv_if_ne (tgt := 16) hx hb dX9_drum_9 (by decide) (fun c20 => ?_) (fun c20 => absurd c20 (by decide))
      refine lv_iconst (v := 3) hx hb dX9_drum_16 (by decide) ?_
      refine lv_lload_n hx hb dX9_drum_17 rfl (lv_at hl 2 rfl) ?_
      refine vp_callSi (W.runS (As := [.int 3, .long (lN n)]) (rest := []) ⟨hx, hb, hml, hown, hts⟩ (c9_isNumber l 3 n hn) (va_cwS 2 hts gX9_drum_X9_isNumber rfl rfl rfl (by decide +kernel) ⟨Nat.le_of_ble_eq_true rfl, Nat.le_of_ble_eq_true rfl⟩) (preS_of okT (trivial)) rfl rfl hl.1 rfl (lv_room (Nat.le_of_ble_eq_true rfl)) dX9_drum_18 ⟨Nat.le_of_ble_eq_true rfl, Nat.le_of_ble_eq_true rfl⟩) (fun r21 hr21 => ?_)
      rw [if_neg hnum] at hr21
      subst hr21
      refine lv_if_eq (tgt := 46) hx hb dX9_drum_21 (by decide) (fun c22 => ?_) (fun c22 => absurd (by decide) c22)
      refine lv_sipush (v := -1002) hx hb dX9_drum_46 (by decide) ?_
      exact W.iret (v := -1002) hx hb hr (fun t ht hW => ⟨⟨-1002, F18, rfl, (by have hsp : sp_drum Dd (nI j_dr) (lN n) = (-1002, Dd) := (by unfold sp_drum; rw [hi_dr]; exact if_neg (fun q => hnum (okAr_num hn q))); rw [hsp]; exact ⟨rfl, (by exact ⟨⟨_, _, hmo, hFo_18⟩, ⟨hm0, hFqm0_18⟩, ⟨hm1, hFqm1_18⟩, ⟨hm2, hFqm2_18⟩, ⟨hm3, hFqm3_18⟩, ⟨hm4, hFqm4_18⟩, ⟨hm5, hFqm5_18⟩, ⟨hm6, hFqm6_18⟩, ⟨hm7, hFqm7_18⟩, ⟨hm8, hFqm8_18⟩, ⟨hm9, hFqm9_18⟩, ⟨hm10, hFqm10_18⟩, ⟨hm11, hFqm11_18⟩, ⟨hm12, hFqm12_18⟩, ⟨hm13, hFqm13_18⟩, ⟨hm14, hFqm14_18⟩, ⟨hm15, hFqm15_18⟩, hne⟩)⟩), (by show va_P _ _ _ t.heap; rw [ht]; exact hP)⟩, hS.F ht⟩) hS.2.2 dX9_drum_49

set_option maxHeartbeats 8000000 in
set_option maxRecDepth 100000 in
theorem n_wind (l : Launch) (G : va_G) (cy : Nat → ClassId) (L : List Nat) (F : Nat → va_E) (sz : Nat) (o : Nat) (qm : Nat → Nat) (Mm : SM) (Dd : SD) (Sl : SL) (Pp : SP) (Kr : SR) (Bk : SB) (Xx : SX) (hR : RepM cy L o qm Mm Dd Sl Pp Kr Bk Xx F) (hV : Val Mm Dd Sl Pp Kr Bk) (dr me : Int32)  : Met l yX9_wind wsX9_wind ({ frames := 4, cells := 0, slots := 0, locals := 91 }) (va_Pc [.ref o, .int dr, .int me] (fun U => bQ G cy L F sz U U.heap)) (va_Qi (fun (r : Int32) (F' : Nat → va_E) => r = (sp_wind Mm Dd Xx dr me).1 ∧ RepM cy L o qm Mm (sp_wind Mm Dd Xx dr me).2.1 Sl Pp Kr Bk (sp_wind Mm Dd Xx dr me).2.2 F') (fun F' t => va_P G vwCl (va_pl L F') t.heap) (va_A (va_pl L F) sz)) 0 0 (va_A (va_pl L F) sz) := by
  refine Met.ofW (cc := cX9_wind) (maxL := 7) (ret := (some .int)) (by decide) rfl ?_
  intro p e s m args below meth c s₁ B hml hv
  obtain ⟨rfl, hsz, hP, hK, hD0⟩ := hv
  have hx := B.exec
  have hb := B.bytes
  have hr := B.returns
  have hts := atoms_spec (ws := wsX9_wind) B.pre
  have hown : s.vm.findClass RX9 = some m.cls := findClass_of_methodNamed B.named
  have hlocks := B.notSynchronized
  have hinX9 : ∀ w ∈ wsX90, w ∈ wsX9_wind := by decide +kernel
  subst hsz
  have hD := hD0.self F s.heap.size
  generalize hAe : va_A (va_pl L F) s.heap.size = A at hD ⊢
  have hA : ∀ q : Nat, s.heap.size ≤ q → A q := fun q h => by rw [← hAe]; exact Or.inr h
  have hS : va_S A s.heap s.heap [] := va_S.rf
  obtain ⟨⟨th, oc, hmo, hFo⟩, ⟨hm0, hF0⟩, ⟨hm1, hF1⟩, ⟨hm2, hF2⟩, ⟨hm3, hF3⟩, ⟨hm4, hF4⟩, ⟨hm5, hF5⟩, ⟨hm6, hF6⟩, ⟨hm7, hF7⟩, ⟨hm8, hF8⟩, ⟨hm9, hF9⟩, ⟨hm10, hF10⟩, ⟨hm11, hF11⟩, ⟨hm12, hF12⟩, ⟨hm13, hF13⟩, ⟨hm14, hF14⟩, ⟨hm15, hF15⟩, hne⟩ := id hR
  obtain ⟨hVM, hVD, hVS, hVP, hVK, hVB⟩ := hV
  have hl := lv_entry ([.ref o, .int dr, .int me]) (n := 7) (Nat.le_of_ble_eq_true rfl)
  rw [lg_entry_eq]
  generalize (lg_sl ([.ref o, .int dr, .int me]) ++ List.replicate (7 - (lg_sl ([.ref o, .int dr, .int me])).length) Slot.unset).toArray = ls at hl ⊢
  have hl : lv_has ls 7 [(0, .ref o), (1, .int dr), (2, .int me)] := hl
  rcases ixc 6 dr with hi_dr | ⟨j_dr, hj_dr, hi_dr, ei_dr⟩
  · rcases ixc 10 me with hi_me | ⟨j_me, hj_me, hi_me, ei_me⟩
    · refine lv_aload_n hx hb dX9_wind_0 rfl (lv_at hl 0 rfl) ?_
      refine lv_iconst (v := 0) hx hb dX9_wind_1 (by decide) ?_
      refine pg_put (ci := 8) (v := .int 0) (ty := .int) (C := RX9) (T := TX9) (N := 20) hx hb hts hinX9 tyX9 tyX9_ok nmX9 hown hK hP hD hS hmo hFo rfl 0 (by decide) (hts (.fieldLink RX9 61 "RopeDrumsModel" "thrown" "I") (by decide +kernel)) (fun _ h9 => h9) rfl (by decide +kernel) (rfl) (rfl) (Nat.le_of_ble_eq_true rfl) dX9_wind_2 (fun H locs F1 eF1 hP hS => ?_)
      have eF1 : F1 = va_up F o (.inr (8, [.int 0, .ref (qm 0), .ref (qm 1), .ref (qm 2), .ref (qm 3), .ref (qm 4), .ref (qm 5), .ref (qm 6), .ref (qm 7), .int Pp.1, .ref (qm 8), .ref (qm 9), .ref (qm 10), .ref (qm 11), .ref (qm 12), .ref (qm 13), .ref (qm 14), .int Xx.1, .ref (qm 15), .long oc])) := eF1
      have hFo_1 : F1 o = .inr (8, [.int 0, .ref (qm 0), .ref (qm 1), .ref (qm 2), .ref (qm 3), .ref (qm 4), .ref (qm 5), .ref (qm 6), .ref (qm 7), .int Pp.1, .ref (qm 8), .ref (qm 9), .ref (qm 10), .ref (qm 11), .ref (qm 12), .ref (qm 13), .ref (qm 14), .int Xx.1, .ref (qm 15), .long oc]) := by rw [eF1]; exact va_up_self _ _ _
      have hFqm0_1 : F1 (qm 0) = cI (cy 1) 10 Mm.1 := by rw [eF1, va_up_ne _ _ (pl_ne hF0 hFo rfl)]; exact hF0
      have hFqm1_1 : F1 (qm 1) = cJ (cy 2) 10 Mm.2 := by rw [eF1, va_up_ne _ _ (pl_ne hF1 hFo rfl)]; exact hF1
      have hFqm2_1 : F1 (qm 2) = cD (cy 0) 6 Dd.1 := by rw [eF1, va_up_ne _ _ (pl_ne hF2 hFo rfl)]; exact hF2
      have hFqm3_1 : F1 (qm 3) = cD (cy 0) 6 Dd.2.1 := by rw [eF1, va_up_ne _ _ (pl_ne hF3 hFo rfl)]; exact hF3
      have hFqm4_1 : F1 (qm 4) = cD (cy 0) 6 Dd.2.2.1 := by rw [eF1, va_up_ne _ _ (pl_ne hF4 hFo rfl)]; exact hF4
      have hFqm5_1 : F1 (qm 5) = cJ (cy 2) 6 Dd.2.2.2 := by rw [eF1, va_up_ne _ _ (pl_ne hF5 hFo rfl)]; exact hF5
      have hFqm6_1 : F1 (qm 6) = cI (cy 1) 8 Sl.1 := by rw [eF1, va_up_ne _ _ (pl_ne hF6 hFo rfl)]; exact hF6
      have hFqm7_1 : F1 (qm 7) = cJ (cy 2) 128 Sl.2 := by rw [eF1, va_up_ne _ _ (pl_ne hF7 hFo rfl)]; exact hF7
      have hFqm8_1 : F1 (qm 8) = cI (cy 1) 30 Pp.2.1 := by rw [eF1, va_up_ne _ _ (pl_ne hF8 hFo rfl)]; exact hF8
      have hFqm9_1 : F1 (qm 9) = cI (cy 3) 30 Pp.2.2 := by rw [eF1, va_up_ne _ _ (pl_ne hF9 hFo rfl)]; exact hF9
      have hFqm10_1 : F1 (qm 10) = cI (cy 1) 5 Kr.1 := by rw [eF1, va_up_ne _ _ (pl_ne hF10 hFo rfl)]; exact hF10
      have hFqm11_1 : F1 (qm 11) = cI (cy 3) 5 Kr.2.1 := by rw [eF1, va_up_ne _ _ (pl_ne hF11 hFo rfl)]; exact hF11
      have hFqm12_1 : F1 (qm 12) = cI (cy 1) 60 Kr.2.2 := by rw [eF1, va_up_ne _ _ (pl_ne hF12 hFo rfl)]; exact hF12
      have hFqm13_1 : F1 (qm 13) = cI (cy 1) 4 Bk.1 := by rw [eF1, va_up_ne _ _ (pl_ne hF13 hFo rfl)]; exact hF13
      have hFqm14_1 : F1 (qm 14) = cD (cy 0) 4 Bk.2 := by rw [eF1, va_up_ne _ _ (pl_ne hF14 hFo rfl)]; exact hF14
      have hFqm15_1 : F1 (qm 15) = cI (cy 1) 6 Xx.2 := by rw [eF1, va_up_ne _ _ (pl_ne hF15 hFo rfl)]; exact hF15
      refine lv_iload_n hx hb dX9_wind_5 rfl (lv_at hl 1 rfl) ?_
      refine vp_callSi (W.runS (As := [.int dr]) (rest := []) ⟨hx, hb, hml, hown, hts⟩ (c9_isDrum l dr) (va_cwS 1 hts gX9_wind_X9_isDrum rfl rfl rfl (by decide +kernel) ⟨Nat.le_of_ble_eq_true rfl, Nat.le_of_ble_eq_true rfl⟩) (preS_of okT (trivial)) rfl rfl hl.1 rfl (lv_room (Nat.le_of_ble_eq_true rfl)) dX9_wind_6 ⟨Nat.le_of_ble_eq_true rfl, Nat.le_of_ble_eq_true rfl⟩) (fun r2 hr2 => ?_)
      rw [isx0 hi_dr] at hr2
      subst hr2
      refine lv_if_eq (tgt := 19) hx hb dX9_wind_9 (by decide) (fun c3 => ?_) (fun c3 => absurd (by decide) c3)
      refine lv_sipush (v := -1001) hx hb dX9_wind_19 (by decide) ?_
      exact W.iret (v := -1001) hx hb hr (fun t ht hW => ⟨⟨-1001, F1, rfl, (by have hsp : sp_wind Mm Dd Xx dr me = (-1001, Dd, Xx) := (by unfold sp_wind; rw [hi_dr]); rw [hsp]; exact ⟨rfl, (by exact ⟨⟨_, _, hmo, hFo_1⟩, ⟨hm0, hFqm0_1⟩, ⟨hm1, hFqm1_1⟩, ⟨hm2, hFqm2_1⟩, ⟨hm3, hFqm3_1⟩, ⟨hm4, hFqm4_1⟩, ⟨hm5, hFqm5_1⟩, ⟨hm6, hFqm6_1⟩, ⟨hm7, hFqm7_1⟩, ⟨hm8, hFqm8_1⟩, ⟨hm9, hFqm9_1⟩, ⟨hm10, hFqm10_1⟩, ⟨hm11, hFqm11_1⟩, ⟨hm12, hFqm12_1⟩, ⟨hm13, hFqm13_1⟩, ⟨hm14, hFqm14_1⟩, ⟨hm15, hFqm15_1⟩, hne⟩)⟩), (by show va_P _ _ _ t.heap; rw [ht]; exact hP)⟩, hS.F ht⟩) hS.2.2 dX9_wind_22
    · subst ei_me
      refine lv_aload_n hx hb dX9_wind_0 rfl (lv_at hl 0 rfl) ?_
      refine lv_iconst (v := 0) hx hb dX9_wind_1 (by decide) ?_
      refine pg_put (ci := 8) (v := .int 0) (ty := .int) (C := RX9) (T := TX9) (N := 20) hx hb hts hinX9 tyX9 tyX9_ok nmX9 hown hK hP hD hS hmo hFo rfl 0 (by decide) (hts (.fieldLink RX9 61 "RopeDrumsModel" "thrown" "I") (by decide +kernel)) (fun _ h9 => h9) rfl (by decide +kernel) (rfl) (rfl) (Nat.le_of_ble_eq_true rfl) dX9_wind_2 (fun H locs F4 eF4 hP hS => ?_)
      have eF4 : F4 = va_up F o (.inr (8, [.int 0, .ref (qm 0), .ref (qm 1), .ref (qm 2), .ref (qm 3), .ref (qm 4), .ref (qm 5), .ref (qm 6), .ref (qm 7), .int Pp.1, .ref (qm 8), .ref (qm 9), .ref (qm 10), .ref (qm 11), .ref (qm 12), .ref (qm 13), .ref (qm 14), .int Xx.1, .ref (qm 15), .long oc])) := eF4
      have hFo_4 : F4 o = .inr (8, [.int 0, .ref (qm 0), .ref (qm 1), .ref (qm 2), .ref (qm 3), .ref (qm 4), .ref (qm 5), .ref (qm 6), .ref (qm 7), .int Pp.1, .ref (qm 8), .ref (qm 9), .ref (qm 10), .ref (qm 11), .ref (qm 12), .ref (qm 13), .ref (qm 14), .int Xx.1, .ref (qm 15), .long oc]) := by rw [eF4]; exact va_up_self _ _ _
      have hFqm0_4 : F4 (qm 0) = cI (cy 1) 10 Mm.1 := by rw [eF4, va_up_ne _ _ (pl_ne hF0 hFo rfl)]; exact hF0
      have hFqm1_4 : F4 (qm 1) = cJ (cy 2) 10 Mm.2 := by rw [eF4, va_up_ne _ _ (pl_ne hF1 hFo rfl)]; exact hF1
      have hFqm2_4 : F4 (qm 2) = cD (cy 0) 6 Dd.1 := by rw [eF4, va_up_ne _ _ (pl_ne hF2 hFo rfl)]; exact hF2
      have hFqm3_4 : F4 (qm 3) = cD (cy 0) 6 Dd.2.1 := by rw [eF4, va_up_ne _ _ (pl_ne hF3 hFo rfl)]; exact hF3
      have hFqm4_4 : F4 (qm 4) = cD (cy 0) 6 Dd.2.2.1 := by rw [eF4, va_up_ne _ _ (pl_ne hF4 hFo rfl)]; exact hF4
      have hFqm5_4 : F4 (qm 5) = cJ (cy 2) 6 Dd.2.2.2 := by rw [eF4, va_up_ne _ _ (pl_ne hF5 hFo rfl)]; exact hF5
      have hFqm6_4 : F4 (qm 6) = cI (cy 1) 8 Sl.1 := by rw [eF4, va_up_ne _ _ (pl_ne hF6 hFo rfl)]; exact hF6
      have hFqm7_4 : F4 (qm 7) = cJ (cy 2) 128 Sl.2 := by rw [eF4, va_up_ne _ _ (pl_ne hF7 hFo rfl)]; exact hF7
      have hFqm8_4 : F4 (qm 8) = cI (cy 1) 30 Pp.2.1 := by rw [eF4, va_up_ne _ _ (pl_ne hF8 hFo rfl)]; exact hF8
      have hFqm9_4 : F4 (qm 9) = cI (cy 3) 30 Pp.2.2 := by rw [eF4, va_up_ne _ _ (pl_ne hF9 hFo rfl)]; exact hF9
      have hFqm10_4 : F4 (qm 10) = cI (cy 1) 5 Kr.1 := by rw [eF4, va_up_ne _ _ (pl_ne hF10 hFo rfl)]; exact hF10
      have hFqm11_4 : F4 (qm 11) = cI (cy 3) 5 Kr.2.1 := by rw [eF4, va_up_ne _ _ (pl_ne hF11 hFo rfl)]; exact hF11
      have hFqm12_4 : F4 (qm 12) = cI (cy 1) 60 Kr.2.2 := by rw [eF4, va_up_ne _ _ (pl_ne hF12 hFo rfl)]; exact hF12
      have hFqm13_4 : F4 (qm 13) = cI (cy 1) 4 Bk.1 := by rw [eF4, va_up_ne _ _ (pl_ne hF13 hFo rfl)]; exact hF13
      have hFqm14_4 : F4 (qm 14) = cD (cy 0) 4 Bk.2 := by rw [eF4, va_up_ne _ _ (pl_ne hF14 hFo rfl)]; exact hF14
      have hFqm15_4 : F4 (qm 15) = cI (cy 1) 6 Xx.2 := by rw [eF4, va_up_ne _ _ (pl_ne hF15 hFo rfl)]; exact hF15
      refine lv_iload_n hx hb dX9_wind_5 rfl (lv_at hl 1 rfl) ?_
      refine vp_callSi (W.runS (As := [.int dr]) (rest := []) ⟨hx, hb, hml, hown, hts⟩ (c9_isDrum l dr) (va_cwS 1 hts gX9_wind_X9_isDrum rfl rfl rfl (by decide +kernel) ⟨Nat.le_of_ble_eq_true rfl, Nat.le_of_ble_eq_true rfl⟩) (preS_of okT (trivial)) rfl rfl hl.1 rfl (lv_room (Nat.le_of_ble_eq_true rfl)) dX9_wind_6 ⟨Nat.le_of_ble_eq_true rfl, Nat.le_of_ble_eq_true rfl⟩) (fun r5 hr5 => ?_)
      rw [isx0 hi_dr] at hr5
      subst hr5
      refine lv_if_eq (tgt := 19) hx hb dX9_wind_9 (by decide) (fun c6 => ?_) (fun c6 => absurd (by decide) c6)
      refine lv_sipush (v := -1001) hx hb dX9_wind_19 (by decide) ?_
      exact W.iret (v := -1001) hx hb hr (fun t ht hW => ⟨⟨-1001, F4, rfl, (by have hsp : sp_wind Mm Dd Xx dr (nI j_me) = (-1001, Dd, Xx) := (by unfold sp_wind; rw [hi_dr]); rw [hsp]; exact ⟨rfl, (by exact ⟨⟨_, _, hmo, hFo_4⟩, ⟨hm0, hFqm0_4⟩, ⟨hm1, hFqm1_4⟩, ⟨hm2, hFqm2_4⟩, ⟨hm3, hFqm3_4⟩, ⟨hm4, hFqm4_4⟩, ⟨hm5, hFqm5_4⟩, ⟨hm6, hFqm6_4⟩, ⟨hm7, hFqm7_4⟩, ⟨hm8, hFqm8_4⟩, ⟨hm9, hFqm9_4⟩, ⟨hm10, hFqm10_4⟩, ⟨hm11, hFqm11_4⟩, ⟨hm12, hFqm12_4⟩, ⟨hm13, hFqm13_4⟩, ⟨hm14, hFqm14_4⟩, ⟨hm15, hFqm15_4⟩, hne⟩)⟩), (by show va_P _ _ _ t.heap; rw [ht]; exact hP)⟩, hS.F ht⟩) hS.2.2 dX9_wind_22
  · subst ei_dr
    rcases ixc 10 me with hi_me | ⟨j_me, hj_me, hi_me, ei_me⟩
    · refine lv_aload_n hx hb dX9_wind_0 rfl (lv_at hl 0 rfl) ?_
      refine lv_iconst (v := 0) hx hb dX9_wind_1 (by decide) ?_
      refine pg_put (ci := 8) (v := .int 0) (ty := .int) (C := RX9) (T := TX9) (N := 20) hx hb hts hinX9 tyX9 tyX9_ok nmX9 hown hK hP hD hS hmo hFo rfl 0 (by decide) (hts (.fieldLink RX9 61 "RopeDrumsModel" "thrown" "I") (by decide +kernel)) (fun _ h9 => h9) rfl (by decide +kernel) (rfl) (rfl) (Nat.le_of_ble_eq_true rfl) dX9_wind_2 (fun H locs F7 eF7 hP hS => ?_)
      have eF7 : F7 = va_up F o (.inr (8, [.int 0, .ref (qm 0), .ref (qm 1), .ref (qm 2), .ref (qm 3), .ref (qm 4), .ref (qm 5), .ref (qm 6), .ref (qm 7), .int Pp.1, .ref (qm 8), .ref (qm 9), .ref (qm 10), .ref (qm 11), .ref (qm 12), .ref (qm 13), .ref (qm 14), .int Xx.1, .ref (qm 15), .long oc])) := eF7
      have hFo_7 : F7 o = .inr (8, [.int 0, .ref (qm 0), .ref (qm 1), .ref (qm 2), .ref (qm 3), .ref (qm 4), .ref (qm 5), .ref (qm 6), .ref (qm 7), .int Pp.1, .ref (qm 8), .ref (qm 9), .ref (qm 10), .ref (qm 11), .ref (qm 12), .ref (qm 13), .ref (qm 14), .int Xx.1, .ref (qm 15), .long oc]) := by rw [eF7]; exact va_up_self _ _ _
      have hFqm0_7 : F7 (qm 0) = cI (cy 1) 10 Mm.1 := by rw [eF7, va_up_ne _ _ (pl_ne hF0 hFo rfl)]; exact hF0
      have hFqm1_7 : F7 (qm 1) = cJ (cy 2) 10 Mm.2 := by rw [eF7, va_up_ne _ _ (pl_ne hF1 hFo rfl)]; exact hF1
      have hFqm2_7 : F7 (qm 2) = cD (cy 0) 6 Dd.1 := by rw [eF7, va_up_ne _ _ (pl_ne hF2 hFo rfl)]; exact hF2
      have hFqm3_7 : F7 (qm 3) = cD (cy 0) 6 Dd.2.1 := by rw [eF7, va_up_ne _ _ (pl_ne hF3 hFo rfl)]; exact hF3
      have hFqm4_7 : F7 (qm 4) = cD (cy 0) 6 Dd.2.2.1 := by rw [eF7, va_up_ne _ _ (pl_ne hF4 hFo rfl)]; exact hF4
      have hFqm5_7 : F7 (qm 5) = cJ (cy 2) 6 Dd.2.2.2 := by rw [eF7, va_up_ne _ _ (pl_ne hF5 hFo rfl)]; exact hF5
      have hFqm6_7 : F7 (qm 6) = cI (cy 1) 8 Sl.1 := by rw [eF7, va_up_ne _ _ (pl_ne hF6 hFo rfl)]; exact hF6
      have hFqm7_7 : F7 (qm 7) = cJ (cy 2) 128 Sl.2 := by rw [eF7, va_up_ne _ _ (pl_ne hF7 hFo rfl)]; exact hF7
      have hFqm8_7 : F7 (qm 8) = cI (cy 1) 30 Pp.2.1 := by rw [eF7, va_up_ne _ _ (pl_ne hF8 hFo rfl)]; exact hF8
      have hFqm9_7 : F7 (qm 9) = cI (cy 3) 30 Pp.2.2 := by rw [eF7, va_up_ne _ _ (pl_ne hF9 hFo rfl)]; exact hF9
      have hFqm10_7 : F7 (qm 10) = cI (cy 1) 5 Kr.1 := by rw [eF7, va_up_ne _ _ (pl_ne hF10 hFo rfl)]; exact hF10
      have hFqm11_7 : F7 (qm 11) = cI (cy 3) 5 Kr.2.1 := by rw [eF7, va_up_ne _ _ (pl_ne hF11 hFo rfl)]; exact hF11
      have hFqm12_7 : F7 (qm 12) = cI (cy 1) 60 Kr.2.2 := by rw [eF7, va_up_ne _ _ (pl_ne hF12 hFo rfl)]; exact hF12
      have hFqm13_7 : F7 (qm 13) = cI (cy 1) 4 Bk.1 := by rw [eF7, va_up_ne _ _ (pl_ne hF13 hFo rfl)]; exact hF13
      have hFqm14_7 : F7 (qm 14) = cD (cy 0) 4 Bk.2 := by rw [eF7, va_up_ne _ _ (pl_ne hF14 hFo rfl)]; exact hF14
      have hFqm15_7 : F7 (qm 15) = cI (cy 1) 6 Xx.2 := by rw [eF7, va_up_ne _ _ (pl_ne hF15 hFo rfl)]; exact hF15
      refine lv_iload_n hx hb dX9_wind_5 rfl (lv_at hl 1 rfl) ?_
      refine vp_callSi (W.runS (As := [.int (nI j_dr)]) (rest := []) ⟨hx, hb, hml, hown, hts⟩ (c9_isDrum l (nI j_dr)) (va_cwS 1 hts gX9_wind_X9_isDrum rfl rfl rfl (by decide +kernel) ⟨Nat.le_of_ble_eq_true rfl, Nat.le_of_ble_eq_true rfl⟩) (preS_of okT (trivial)) rfl rfl hl.1 rfl (lv_room (Nat.le_of_ble_eq_true rfl)) dX9_wind_6 ⟨Nat.le_of_ble_eq_true rfl, Nat.le_of_ble_eq_true rfl⟩) (fun r8 hr8 => ?_)
      rw [isx1 hi_dr] at hr8
      subst hr8
      refine lv_if_eq (tgt := 19) hx hb dX9_wind_9 (by decide) (fun c9 => absurd c9 (by decide)) (fun c9 => ?_)
      refine lv_iload_n hx hb dX9_wind_12 rfl (lv_at hl 2 rfl) ?_
      refine vp_callSi (W.runS (As := [.int me]) (rest := []) ⟨hx, hb, hml, hown, hts⟩ (c9_isMeter l me) (va_cwS 1 hts gX9_wind_X9_isMeter rfl rfl rfl (by decide +kernel) ⟨Nat.le_of_ble_eq_true rfl, Nat.le_of_ble_eq_true rfl⟩) (preS_of okT (trivial)) rfl rfl hl.1 rfl (lv_room (Nat.le_of_ble_eq_true rfl)) dX9_wind_13 ⟨Nat.le_of_ble_eq_true rfl, Nat.le_of_ble_eq_true rfl⟩) (fun r10 hr10 => ?_)
      rw [isx0 hi_me] at hr10
      subst hr10
      refine lv_if_ne (tgt := 23) hx hb dX9_wind_16 (by decide) (fun c11 => absurd (by decide) c11) (fun c11 => ?_)
      refine lv_sipush (v := -1001) hx hb dX9_wind_19 (by decide) ?_
      exact W.iret (v := -1001) hx hb hr (fun t ht hW => ⟨⟨-1001, F7, rfl, (by have hsp : sp_wind Mm Dd Xx (nI j_dr) me = (-1001, Dd, Xx) := (by unfold sp_wind; rw [hi_dr, hi_me]); rw [hsp]; exact ⟨rfl, (by exact ⟨⟨_, _, hmo, hFo_7⟩, ⟨hm0, hFqm0_7⟩, ⟨hm1, hFqm1_7⟩, ⟨hm2, hFqm2_7⟩, ⟨hm3, hFqm3_7⟩, ⟨hm4, hFqm4_7⟩, ⟨hm5, hFqm5_7⟩, ⟨hm6, hFqm6_7⟩, ⟨hm7, hFqm7_7⟩, ⟨hm8, hFqm8_7⟩, ⟨hm9, hFqm9_7⟩, ⟨hm10, hFqm10_7⟩, ⟨hm11, hFqm11_7⟩, ⟨hm12, hFqm12_7⟩, ⟨hm13, hFqm13_7⟩, ⟨hm14, hFqm14_7⟩, ⟨hm15, hFqm15_7⟩, hne⟩)⟩), (by show va_P _ _ _ t.heap; rw [ht]; exact hP)⟩, hS.F ht⟩) hS.2.2 dX9_wind_22
    · subst ei_me
      by_cases hen : (db (tn (Mm.1 j_me) (Mm.2 j_me) 3)).toNat % 2 ^ 63 = 9218868437227405312
      · refine lv_aload_n hx hb dX9_wind_0 rfl (lv_at hl 0 rfl) ?_
        refine lv_iconst (v := 0) hx hb dX9_wind_1 (by decide) ?_
        refine pg_put (ci := 8) (v := .int 0) (ty := .int) (C := RX9) (T := TX9) (N := 20) hx hb hts hinX9 tyX9 tyX9_ok nmX9 hown hK hP hD hS hmo hFo rfl 0 (by decide) (hts (.fieldLink RX9 61 "RopeDrumsModel" "thrown" "I") (by decide +kernel)) (fun _ h9 => h9) rfl (by decide +kernel) (rfl) (rfl) (Nat.le_of_ble_eq_true rfl) dX9_wind_2 (fun H locs F12 eF12 hP hS => ?_)
        have eF12 : F12 = va_up F o (.inr (8, [.int 0, .ref (qm 0), .ref (qm 1), .ref (qm 2), .ref (qm 3), .ref (qm 4), .ref (qm 5), .ref (qm 6), .ref (qm 7), .int Pp.1, .ref (qm 8), .ref (qm 9), .ref (qm 10), .ref (qm 11), .ref (qm 12), .ref (qm 13), .ref (qm 14), .int Xx.1, .ref (qm 15), .long oc])) := eF12
        have hFo_12 : F12 o = .inr (8, [.int 0, .ref (qm 0), .ref (qm 1), .ref (qm 2), .ref (qm 3), .ref (qm 4), .ref (qm 5), .ref (qm 6), .ref (qm 7), .int Pp.1, .ref (qm 8), .ref (qm 9), .ref (qm 10), .ref (qm 11), .ref (qm 12), .ref (qm 13), .ref (qm 14), .int Xx.1, .ref (qm 15), .long oc]) := by rw [eF12]; exact va_up_self _ _ _
        have hFqm0_12 : F12 (qm 0) = cI (cy 1) 10 Mm.1 := by rw [eF12, va_up_ne _ _ (pl_ne hF0 hFo rfl)]; exact hF0
        have hFqm1_12 : F12 (qm 1) = cJ (cy 2) 10 Mm.2 := by rw [eF12, va_up_ne _ _ (pl_ne hF1 hFo rfl)]; exact hF1
        have hFqm2_12 : F12 (qm 2) = cD (cy 0) 6 Dd.1 := by rw [eF12, va_up_ne _ _ (pl_ne hF2 hFo rfl)]; exact hF2
        have hFqm3_12 : F12 (qm 3) = cD (cy 0) 6 Dd.2.1 := by rw [eF12, va_up_ne _ _ (pl_ne hF3 hFo rfl)]; exact hF3
        have hFqm4_12 : F12 (qm 4) = cD (cy 0) 6 Dd.2.2.1 := by rw [eF12, va_up_ne _ _ (pl_ne hF4 hFo rfl)]; exact hF4
        have hFqm5_12 : F12 (qm 5) = cJ (cy 2) 6 Dd.2.2.2 := by rw [eF12, va_up_ne _ _ (pl_ne hF5 hFo rfl)]; exact hF5
        have hFqm6_12 : F12 (qm 6) = cI (cy 1) 8 Sl.1 := by rw [eF12, va_up_ne _ _ (pl_ne hF6 hFo rfl)]; exact hF6
        have hFqm7_12 : F12 (qm 7) = cJ (cy 2) 128 Sl.2 := by rw [eF12, va_up_ne _ _ (pl_ne hF7 hFo rfl)]; exact hF7
        have hFqm8_12 : F12 (qm 8) = cI (cy 1) 30 Pp.2.1 := by rw [eF12, va_up_ne _ _ (pl_ne hF8 hFo rfl)]; exact hF8
        have hFqm9_12 : F12 (qm 9) = cI (cy 3) 30 Pp.2.2 := by rw [eF12, va_up_ne _ _ (pl_ne hF9 hFo rfl)]; exact hF9
        have hFqm10_12 : F12 (qm 10) = cI (cy 1) 5 Kr.1 := by rw [eF12, va_up_ne _ _ (pl_ne hF10 hFo rfl)]; exact hF10
        have hFqm11_12 : F12 (qm 11) = cI (cy 3) 5 Kr.2.1 := by rw [eF12, va_up_ne _ _ (pl_ne hF11 hFo rfl)]; exact hF11
        have hFqm12_12 : F12 (qm 12) = cI (cy 1) 60 Kr.2.2 := by rw [eF12, va_up_ne _ _ (pl_ne hF12 hFo rfl)]; exact hF12
        have hFqm13_12 : F12 (qm 13) = cI (cy 1) 4 Bk.1 := by rw [eF12, va_up_ne _ _ (pl_ne hF13 hFo rfl)]; exact hF13
        have hFqm14_12 : F12 (qm 14) = cD (cy 0) 4 Bk.2 := by rw [eF12, va_up_ne _ _ (pl_ne hF14 hFo rfl)]; exact hF14
        have hFqm15_12 : F12 (qm 15) = cI (cy 1) 6 Xx.2 := by rw [eF12, va_up_ne _ _ (pl_ne hF15 hFo rfl)]; exact hF15
        refine lv_iload_n hx hb dX9_wind_5 rfl (lv_at hl 1 rfl) ?_
        refine vp_callSi (W.runS (As := [.int (nI j_dr)]) (rest := []) ⟨hx, hb, hml, hown, hts⟩ (c9_isDrum l (nI j_dr)) (va_cwS 1 hts gX9_wind_X9_isDrum rfl rfl rfl (by decide +kernel) ⟨Nat.le_of_ble_eq_true rfl, Nat.le_of_ble_eq_true rfl⟩) (preS_of okT (trivial)) rfl rfl hl.1 rfl (lv_room (Nat.le_of_ble_eq_true rfl)) dX9_wind_6 ⟨Nat.le_of_ble_eq_true rfl, Nat.le_of_ble_eq_true rfl⟩) (fun r13 hr13 => ?_)
        rw [isx1 hi_dr] at hr13
        subst hr13
        refine lv_if_eq (tgt := 19) hx hb dX9_wind_9 (by decide) (fun c14 => absurd c14 (by decide)) (fun c14 => ?_)
        refine lv_iload_n hx hb dX9_wind_12 rfl (lv_at hl 2 rfl) ?_
        refine vp_callSi (W.runS (As := [.int (nI j_me)]) (rest := []) ⟨hx, hb, hml, hown, hts⟩ (c9_isMeter l (nI j_me)) (va_cwS 1 hts gX9_wind_X9_isMeter rfl rfl rfl (by decide +kernel) ⟨Nat.le_of_ble_eq_true rfl, Nat.le_of_ble_eq_true rfl⟩) (preS_of okT (trivial)) rfl rfl hl.1 rfl (lv_room (Nat.le_of_ble_eq_true rfl)) dX9_wind_13 ⟨Nat.le_of_ble_eq_true rfl, Nat.le_of_ble_eq_true rfl⟩) (fun r15 hr15 => ?_)
        rw [isx1 hi_me] at hr15
        subst hr15
        refine lv_if_ne (tgt := 23) hx hb dX9_wind_16 (by decide) (fun c16 => ?_) (fun c16 => absurd c16 (by decide))
        refine lv_aload_n hx hb dX9_wind_23 rfl (lv_at hl 0 rfl) ?_
        refine lv_iload_n hx hb dX9_wind_24 rfl (lv_at hl 2 rfl) ?_
        refine vp_callSd (W.runV (As := [.int (nI j_me)]) (rest := []) ⟨hx, hb, hml, hown, hts⟩ (c9_asDouble l G cy L F12 o qm 0 Pp.1 Xx.1 oc hmo hFo_12 Mm.1 hm0 hFqm0_12 Mm.2 hm1 hFqm1_12 j_me hj_me (hVM j_me hj_me)) (cwV 1 hts gX9_wind_X9_asDouble rfl rfl rfl (by decide +kernel) ⟨Nat.le_of_ble_eq_true rfl, Nat.le_of_ble_eq_true rfl⟩) (preV_of okP (⟨hP, hK, hD.top⟩) (pl_recv hK hP (ci := 8) rfl hmo hFo_12)) rfl rfl hl.1 rfl (lv_room (Nat.le_of_ble_eq_true rfl)) dX9_wind_25 ⟨Nat.le_of_ble_eq_true rfl, Nat.le_of_ble_eq_true rfl⟩) (fun r17 hr17 => ?_)
        subst hr17
        refine lv_dstore_n (lv' := [(3, .double (db (tn (Mm.1 j_me) (Mm.2 j_me) 3))), (0, .ref o), (1, .int (nI j_dr)), (2, .int (nI j_me))]) hx hb dX9_wind_28 rfl hl (by decide) rfl (fun ls hl => ?_)
        refine lv_aload_n hx hb dX9_wind_29 rfl (lv_at hl 1 rfl) ?_
        refine lv_dload_n hx hb dX9_wind_30 rfl (lv_at hl 0 rfl) ?_
        refine vp_callSi (W.runS (As := [.double (db (tn (Mm.1 j_me) (Mm.2 j_me) 3))]) (rest := [.ref o]) ⟨hx, hb, hml, hown, hts⟩ (c9_isEndless l (db (tn (Mm.1 j_me) (Mm.2 j_me) 3)) (tn3_ok (hVM j_me hj_me))) (va_cwS 1 hts gX9_wind_X9_isEndless rfl rfl rfl (by decide +kernel) ⟨Nat.le_of_ble_eq_true rfl, Nat.le_of_ble_eq_true rfl⟩) (preS_of okT (trivial)) rfl rfl hl.1 rfl (lv_room (Nat.le_of_ble_eq_true rfl)) dX9_wind_31 ⟨Nat.le_of_ble_eq_true rfl, Nat.le_of_ble_eq_true rfl⟩) (fun r18 hr18 => ?_)
        rw [if_pos hen] at hr18
        subst hr18
        refine lv_if_eq (tgt := 41) hx hb dX9_wind_34 (by decide) (fun c19 => absurd c19 (by decide)) (fun c19 => ?_)
        refine lv_iconst (v := 5) hx hb dX9_wind_37 (by decide) ?_
        refine lv_goto (tgt := 42) hx hb dX9_wind_38 (by decide) ?_
        refine pg_put (ci := 8) (v := .int 5) (ty := .int) (C := RX9) (T := TX9) (N := 20) hx hb hts hinX9 tyX9 tyX9_ok nmX9 hown hK hP hD hS hmo hFo_12 rfl 17 (by decide) (hts (.fieldLink RX9 65 "RopeDrumsModel" "failed" "I") (by decide +kernel)) (fun _ h9 => h9) rfl (by decide +kernel) (rfl) (rfl) (Nat.le_of_ble_eq_true rfl) dX9_wind_42 (fun H locs F20 eF20 hP hS => ?_)
        have eF20 : F20 = va_up F12 o (.inr (8, [.int 0, .ref (qm 0), .ref (qm 1), .ref (qm 2), .ref (qm 3), .ref (qm 4), .ref (qm 5), .ref (qm 6), .ref (qm 7), .int Pp.1, .ref (qm 8), .ref (qm 9), .ref (qm 10), .ref (qm 11), .ref (qm 12), .ref (qm 13), .ref (qm 14), .int 5, .ref (qm 15), .long oc])) := eF20
        have hFo_20 : F20 o = .inr (8, [.int 0, .ref (qm 0), .ref (qm 1), .ref (qm 2), .ref (qm 3), .ref (qm 4), .ref (qm 5), .ref (qm 6), .ref (qm 7), .int Pp.1, .ref (qm 8), .ref (qm 9), .ref (qm 10), .ref (qm 11), .ref (qm 12), .ref (qm 13), .ref (qm 14), .int 5, .ref (qm 15), .long oc]) := by rw [eF20]; exact va_up_self _ _ _
        have hFqm0_20 : F20 (qm 0) = cI (cy 1) 10 Mm.1 := by rw [eF20, va_up_ne _ _ (pl_ne hFqm0_12 hFo_12 rfl)]; exact hFqm0_12
        have hFqm1_20 : F20 (qm 1) = cJ (cy 2) 10 Mm.2 := by rw [eF20, va_up_ne _ _ (pl_ne hFqm1_12 hFo_12 rfl)]; exact hFqm1_12
        have hFqm2_20 : F20 (qm 2) = cD (cy 0) 6 Dd.1 := by rw [eF20, va_up_ne _ _ (pl_ne hFqm2_12 hFo_12 rfl)]; exact hFqm2_12
        have hFqm3_20 : F20 (qm 3) = cD (cy 0) 6 Dd.2.1 := by rw [eF20, va_up_ne _ _ (pl_ne hFqm3_12 hFo_12 rfl)]; exact hFqm3_12
        have hFqm4_20 : F20 (qm 4) = cD (cy 0) 6 Dd.2.2.1 := by rw [eF20, va_up_ne _ _ (pl_ne hFqm4_12 hFo_12 rfl)]; exact hFqm4_12
        have hFqm5_20 : F20 (qm 5) = cJ (cy 2) 6 Dd.2.2.2 := by rw [eF20, va_up_ne _ _ (pl_ne hFqm5_12 hFo_12 rfl)]; exact hFqm5_12
        have hFqm6_20 : F20 (qm 6) = cI (cy 1) 8 Sl.1 := by rw [eF20, va_up_ne _ _ (pl_ne hFqm6_12 hFo_12 rfl)]; exact hFqm6_12
        have hFqm7_20 : F20 (qm 7) = cJ (cy 2) 128 Sl.2 := by rw [eF20, va_up_ne _ _ (pl_ne hFqm7_12 hFo_12 rfl)]; exact hFqm7_12
        have hFqm8_20 : F20 (qm 8) = cI (cy 1) 30 Pp.2.1 := by rw [eF20, va_up_ne _ _ (pl_ne hFqm8_12 hFo_12 rfl)]; exact hFqm8_12
        have hFqm9_20 : F20 (qm 9) = cI (cy 3) 30 Pp.2.2 := by rw [eF20, va_up_ne _ _ (pl_ne hFqm9_12 hFo_12 rfl)]; exact hFqm9_12
        have hFqm10_20 : F20 (qm 10) = cI (cy 1) 5 Kr.1 := by rw [eF20, va_up_ne _ _ (pl_ne hFqm10_12 hFo_12 rfl)]; exact hFqm10_12
        have hFqm11_20 : F20 (qm 11) = cI (cy 3) 5 Kr.2.1 := by rw [eF20, va_up_ne _ _ (pl_ne hFqm11_12 hFo_12 rfl)]; exact hFqm11_12
        have hFqm12_20 : F20 (qm 12) = cI (cy 1) 60 Kr.2.2 := by rw [eF20, va_up_ne _ _ (pl_ne hFqm12_12 hFo_12 rfl)]; exact hFqm12_12
        have hFqm13_20 : F20 (qm 13) = cI (cy 1) 4 Bk.1 := by rw [eF20, va_up_ne _ _ (pl_ne hFqm13_12 hFo_12 rfl)]; exact hFqm13_12
        have hFqm14_20 : F20 (qm 14) = cD (cy 0) 4 Bk.2 := by rw [eF20, va_up_ne _ _ (pl_ne hFqm14_12 hFo_12 rfl)]; exact hFqm14_12
        have hFqm15_20 : F20 (qm 15) = cI (cy 1) 6 Xx.2 := by rw [eF20, va_up_ne _ _ (pl_ne hFqm15_12 hFo_12 rfl)]; exact hFqm15_12
        refine lv_aload_n hx hb dX9_wind_45 rfl (lv_at hl 1 rfl) ?_
        refine pg_get (ci := 8) (C := RX9) (T := TX9) (N := 20) hx hb hts hinX9 hown hK hP hmo hFo_20 rfl 17 (by decide) (hts (.fieldLink RX9 65 "RopeDrumsModel" "failed" "I") (by decide +kernel)) (fun _ h9 => h9) rfl dX9_wind_46 ?_
        refine lv_if_ne (tgt := 110) hx hb dX9_wind_49 (by decide) (fun c21 => ?_) (fun c21 => absurd c21 (by decide))
        refine lv_aload_n hx hb dX9_wind_110 rfl (lv_at hl 1 rfl) ?_
        refine lv_iconst (v := 1) hx hb dX9_wind_111 (by decide) ?_
        refine va_calli (va_runV (As := [.int 1]) (rest := []) ⟨hx, hb, hml, hown, hts⟩ (c9_answers_5 l G cy L F20 H.size o qm 0 Pp.1 oc hmo hFo_20 Xx.2 hm15 hFqm15_20 1) (cwV 1 hts gX9_wind_X9_answers rfl rfl rfl (by decide +kernel) ⟨Nat.le_of_ble_eq_true rfl, Nat.le_of_ble_eq_true rfl⟩) (preV_of okQ (⟨rfl, hP, hK, hD.top⟩) (pl_recv hK hP (ci := 8) rfl hmo hFo_20)) rfl rfl hl.1 rfl (lv_room (Nat.le_of_ble_eq_true rfl)) dX9_wind_112 ⟨Nat.le_of_ble_eq_true rfl, Nat.le_of_ble_eq_true rfl⟩) hS (fun q _ h => pl_free hD hS hA q h) (pl_free hD hS hA) (fun r23 F22 t H1 locs ht hvm hw hP1 hz1 hk1 hS => ?_)
        have hP1 : va_P G vwCl (va_pl L F22) t.heap := hP1
        rw [ht] at hP1
        have hP := hP1
        generalize H1 = H at hP hS ⊢
        obtain ⟨hqr23, eF22⟩ := hw
        have eF22 : F22 = va_up F20 (qm 15) (cI (cy 1) 6 (upd Xx.2 5 (Xx.2 5 + 1))) := eF22
        have hFo_23 : F22 o = .inr (8, [.int 0, .ref (qm 0), .ref (qm 1), .ref (qm 2), .ref (qm 3), .ref (qm 4), .ref (qm 5), .ref (qm 6), .ref (qm 7), .int Pp.1, .ref (qm 8), .ref (qm 9), .ref (qm 10), .ref (qm 11), .ref (qm 12), .ref (qm 13), .ref (qm 14), .int 5, .ref (qm 15), .long oc]) := by rw [eF22, va_up_ne _ _ (pl_ne hFo_20 hFqm15_20 rfl)]; exact hFo_20
        have hFqm0_23 : F22 (qm 0) = cI (cy 1) 10 Mm.1 := by rw [eF22, va_up_ne _ _ (pl_ne hFqm0_20 hFqm15_20 rfl)]; exact hFqm0_20
        have hFqm1_23 : F22 (qm 1) = cJ (cy 2) 10 Mm.2 := by rw [eF22, va_up_ne _ _ (pl_ne hFqm1_20 hFqm15_20 rfl)]; exact hFqm1_20
        have hFqm2_23 : F22 (qm 2) = cD (cy 0) 6 Dd.1 := by rw [eF22, va_up_ne _ _ (pl_ne hFqm2_20 hFqm15_20 rfl)]; exact hFqm2_20
        have hFqm3_23 : F22 (qm 3) = cD (cy 0) 6 Dd.2.1 := by rw [eF22, va_up_ne _ _ (pl_ne hFqm3_20 hFqm15_20 rfl)]; exact hFqm3_20
        have hFqm4_23 : F22 (qm 4) = cD (cy 0) 6 Dd.2.2.1 := by rw [eF22, va_up_ne _ _ (pl_ne hFqm4_20 hFqm15_20 rfl)]; exact hFqm4_20
        have hFqm5_23 : F22 (qm 5) = cJ (cy 2) 6 Dd.2.2.2 := by rw [eF22, va_up_ne _ _ (pl_ne hFqm5_20 hFqm15_20 rfl)]; exact hFqm5_20
        have hFqm6_23 : F22 (qm 6) = cI (cy 1) 8 Sl.1 := by rw [eF22, va_up_ne _ _ (pl_ne hFqm6_20 hFqm15_20 rfl)]; exact hFqm6_20
        have hFqm7_23 : F22 (qm 7) = cJ (cy 2) 128 Sl.2 := by rw [eF22, va_up_ne _ _ (pl_ne hFqm7_20 hFqm15_20 rfl)]; exact hFqm7_20
        have hFqm8_23 : F22 (qm 8) = cI (cy 1) 30 Pp.2.1 := by rw [eF22, va_up_ne _ _ (pl_ne hFqm8_20 hFqm15_20 rfl)]; exact hFqm8_20
        have hFqm9_23 : F22 (qm 9) = cI (cy 3) 30 Pp.2.2 := by rw [eF22, va_up_ne _ _ (pl_ne hFqm9_20 hFqm15_20 rfl)]; exact hFqm9_20
        have hFqm10_23 : F22 (qm 10) = cI (cy 1) 5 Kr.1 := by rw [eF22, va_up_ne _ _ (pl_ne hFqm10_20 hFqm15_20 rfl)]; exact hFqm10_20
        have hFqm11_23 : F22 (qm 11) = cI (cy 3) 5 Kr.2.1 := by rw [eF22, va_up_ne _ _ (pl_ne hFqm11_20 hFqm15_20 rfl)]; exact hFqm11_20
        have hFqm12_23 : F22 (qm 12) = cI (cy 1) 60 Kr.2.2 := by rw [eF22, va_up_ne _ _ (pl_ne hFqm12_20 hFqm15_20 rfl)]; exact hFqm12_20
        have hFqm13_23 : F22 (qm 13) = cI (cy 1) 4 Bk.1 := by rw [eF22, va_up_ne _ _ (pl_ne hFqm13_20 hFqm15_20 rfl)]; exact hFqm13_20
        have hFqm14_23 : F22 (qm 14) = cD (cy 0) 4 Bk.2 := by rw [eF22, va_up_ne _ _ (pl_ne hFqm14_20 hFqm15_20 rfl)]; exact hFqm14_20
        have hFqm15_23 : F22 (qm 15) = cI (cy 1) 6 (upd Xx.2 5 (Xx.2 5 + 1)) := by rw [eF22]; exact va_up_self _ _ _
        have hr23 := hqr23
        exact W.iret (v := r23) hx hb hr (fun t ht hW => ⟨⟨r23, F22, rfl, (by subst hr23; have hsp : sp_wind Mm Dd Xx (nI j_dr) (nI j_me) = (-15, Dd, failX Xx 5) := (by unfold sp_wind; rw [hi_dr, hi_me]; exact if_pos hen); rw [hsp]; exact ⟨rfl, (by exact ⟨⟨_, _, hmo, hFo_23⟩, ⟨hm0, hFqm0_23⟩, ⟨hm1, hFqm1_23⟩, ⟨hm2, hFqm2_23⟩, ⟨hm3, hFqm3_23⟩, ⟨hm4, hFqm4_23⟩, ⟨hm5, hFqm5_23⟩, ⟨hm6, hFqm6_23⟩, ⟨hm7, hFqm7_23⟩, ⟨hm8, hFqm8_23⟩, ⟨hm9, hFqm9_23⟩, ⟨hm10, hFqm10_23⟩, ⟨hm11, hFqm11_23⟩, ⟨hm12, hFqm12_23⟩, ⟨hm13, hFqm13_23⟩, ⟨hm14, hFqm14_23⟩, ⟨hm15, hFqm15_23⟩, hne⟩)⟩), (by show va_P _ _ _ t.heap; rw [ht]; exact hP)⟩, hS.F ht⟩) hS.2.2 dX9_wind_115
      · refine lv_aload_n hx hb dX9_wind_0 rfl (lv_at hl 0 rfl) ?_
        refine lv_iconst (v := 0) hx hb dX9_wind_1 (by decide) ?_
        refine pg_put (ci := 8) (v := .int 0) (ty := .int) (C := RX9) (T := TX9) (N := 20) hx hb hts hinX9 tyX9 tyX9_ok nmX9 hown hK hP hD hS hmo hFo rfl 0 (by decide) (hts (.fieldLink RX9 61 "RopeDrumsModel" "thrown" "I") (by decide +kernel)) (fun _ h9 => h9) rfl (by decide +kernel) (rfl) (rfl) (Nat.le_of_ble_eq_true rfl) dX9_wind_2 (fun H locs F24 eF24 hP hS => ?_)
        have eF24 : F24 = va_up F o (.inr (8, [.int 0, .ref (qm 0), .ref (qm 1), .ref (qm 2), .ref (qm 3), .ref (qm 4), .ref (qm 5), .ref (qm 6), .ref (qm 7), .int Pp.1, .ref (qm 8), .ref (qm 9), .ref (qm 10), .ref (qm 11), .ref (qm 12), .ref (qm 13), .ref (qm 14), .int Xx.1, .ref (qm 15), .long oc])) := eF24
        have hFo_24 : F24 o = .inr (8, [.int 0, .ref (qm 0), .ref (qm 1), .ref (qm 2), .ref (qm 3), .ref (qm 4), .ref (qm 5), .ref (qm 6), .ref (qm 7), .int Pp.1, .ref (qm 8), .ref (qm 9), .ref (qm 10), .ref (qm 11), .ref (qm 12), .ref (qm 13), .ref (qm 14), .int Xx.1, .ref (qm 15), .long oc]) := by rw [eF24]; exact va_up_self _ _ _
        have hFqm0_24 : F24 (qm 0) = cI (cy 1) 10 Mm.1 := by rw [eF24, va_up_ne _ _ (pl_ne hF0 hFo rfl)]; exact hF0
        have hFqm1_24 : F24 (qm 1) = cJ (cy 2) 10 Mm.2 := by rw [eF24, va_up_ne _ _ (pl_ne hF1 hFo rfl)]; exact hF1
        have hFqm2_24 : F24 (qm 2) = cD (cy 0) 6 Dd.1 := by rw [eF24, va_up_ne _ _ (pl_ne hF2 hFo rfl)]; exact hF2
        have hFqm3_24 : F24 (qm 3) = cD (cy 0) 6 Dd.2.1 := by rw [eF24, va_up_ne _ _ (pl_ne hF3 hFo rfl)]; exact hF3
        have hFqm4_24 : F24 (qm 4) = cD (cy 0) 6 Dd.2.2.1 := by rw [eF24, va_up_ne _ _ (pl_ne hF4 hFo rfl)]; exact hF4
        have hFqm5_24 : F24 (qm 5) = cJ (cy 2) 6 Dd.2.2.2 := by rw [eF24, va_up_ne _ _ (pl_ne hF5 hFo rfl)]; exact hF5
        have hFqm6_24 : F24 (qm 6) = cI (cy 1) 8 Sl.1 := by rw [eF24, va_up_ne _ _ (pl_ne hF6 hFo rfl)]; exact hF6
        have hFqm7_24 : F24 (qm 7) = cJ (cy 2) 128 Sl.2 := by rw [eF24, va_up_ne _ _ (pl_ne hF7 hFo rfl)]; exact hF7
        have hFqm8_24 : F24 (qm 8) = cI (cy 1) 30 Pp.2.1 := by rw [eF24, va_up_ne _ _ (pl_ne hF8 hFo rfl)]; exact hF8
        have hFqm9_24 : F24 (qm 9) = cI (cy 3) 30 Pp.2.2 := by rw [eF24, va_up_ne _ _ (pl_ne hF9 hFo rfl)]; exact hF9
        have hFqm10_24 : F24 (qm 10) = cI (cy 1) 5 Kr.1 := by rw [eF24, va_up_ne _ _ (pl_ne hF10 hFo rfl)]; exact hF10
        have hFqm11_24 : F24 (qm 11) = cI (cy 3) 5 Kr.2.1 := by rw [eF24, va_up_ne _ _ (pl_ne hF11 hFo rfl)]; exact hF11
        have hFqm12_24 : F24 (qm 12) = cI (cy 1) 60 Kr.2.2 := by rw [eF24, va_up_ne _ _ (pl_ne hF12 hFo rfl)]; exact hF12
        have hFqm13_24 : F24 (qm 13) = cI (cy 1) 4 Bk.1 := by rw [eF24, va_up_ne _ _ (pl_ne hF13 hFo rfl)]; exact hF13
        have hFqm14_24 : F24 (qm 14) = cD (cy 0) 4 Bk.2 := by rw [eF24, va_up_ne _ _ (pl_ne hF14 hFo rfl)]; exact hF14
        have hFqm15_24 : F24 (qm 15) = cI (cy 1) 6 Xx.2 := by rw [eF24, va_up_ne _ _ (pl_ne hF15 hFo rfl)]; exact hF15
        refine lv_iload_n hx hb dX9_wind_5 rfl (lv_at hl 1 rfl) ?_
        refine vp_callSi (W.runS (As := [.int (nI j_dr)]) (rest := []) ⟨hx, hb, hml, hown, hts⟩ (c9_isDrum l (nI j_dr)) (va_cwS 1 hts gX9_wind_X9_isDrum rfl rfl rfl (by decide +kernel) ⟨Nat.le_of_ble_eq_true rfl, Nat.le_of_ble_eq_true rfl⟩) (preS_of okT (trivial)) rfl rfl hl.1 rfl (lv_room (Nat.le_of_ble_eq_true rfl)) dX9_wind_6 ⟨Nat.le_of_ble_eq_true rfl, Nat.le_of_ble_eq_true rfl⟩) (fun r25 hr25 => ?_)
        rw [isx1 hi_dr] at hr25
        subst hr25
        refine lv_if_eq (tgt := 19) hx hb dX9_wind_9 (by decide) (fun c26 => absurd c26 (by decide)) (fun c26 => ?_)
        refine lv_iload_n hx hb dX9_wind_12 rfl (lv_at hl 2 rfl) ?_
        refine vp_callSi (W.runS (As := [.int (nI j_me)]) (rest := []) ⟨hx, hb, hml, hown, hts⟩ (c9_isMeter l (nI j_me)) (va_cwS 1 hts gX9_wind_X9_isMeter rfl rfl rfl (by decide +kernel) ⟨Nat.le_of_ble_eq_true rfl, Nat.le_of_ble_eq_true rfl⟩) (preS_of okT (trivial)) rfl rfl hl.1 rfl (lv_room (Nat.le_of_ble_eq_true rfl)) dX9_wind_13 ⟨Nat.le_of_ble_eq_true rfl, Nat.le_of_ble_eq_true rfl⟩) (fun r27 hr27 => ?_)
        rw [isx1 hi_me] at hr27
        subst hr27
        refine lv_if_ne (tgt := 23) hx hb dX9_wind_16 (by decide) (fun c28 => ?_) (fun c28 => absurd c28 (by decide))
        refine lv_aload_n hx hb dX9_wind_23 rfl (lv_at hl 0 rfl) ?_
        refine lv_iload_n hx hb dX9_wind_24 rfl (lv_at hl 2 rfl) ?_
        refine vp_callSd (W.runV (As := [.int (nI j_me)]) (rest := []) ⟨hx, hb, hml, hown, hts⟩ (c9_asDouble l G cy L F24 o qm 0 Pp.1 Xx.1 oc hmo hFo_24 Mm.1 hm0 hFqm0_24 Mm.2 hm1 hFqm1_24 j_me hj_me (hVM j_me hj_me)) (cwV 1 hts gX9_wind_X9_asDouble rfl rfl rfl (by decide +kernel) ⟨Nat.le_of_ble_eq_true rfl, Nat.le_of_ble_eq_true rfl⟩) (preV_of okP (⟨hP, hK, hD.top⟩) (pl_recv hK hP (ci := 8) rfl hmo hFo_24)) rfl rfl hl.1 rfl (lv_room (Nat.le_of_ble_eq_true rfl)) dX9_wind_25 ⟨Nat.le_of_ble_eq_true rfl, Nat.le_of_ble_eq_true rfl⟩) (fun r29 hr29 => ?_)
        subst hr29
        refine lv_dstore_n (lv' := [(3, .double (db (tn (Mm.1 j_me) (Mm.2 j_me) 3))), (0, .ref o), (1, .int (nI j_dr)), (2, .int (nI j_me))]) hx hb dX9_wind_28 rfl hl (by decide) rfl (fun ls hl => ?_)
        refine lv_aload_n hx hb dX9_wind_29 rfl (lv_at hl 1 rfl) ?_
        refine lv_dload_n hx hb dX9_wind_30 rfl (lv_at hl 0 rfl) ?_
        refine vp_callSi (W.runS (As := [.double (db (tn (Mm.1 j_me) (Mm.2 j_me) 3))]) (rest := [.ref o]) ⟨hx, hb, hml, hown, hts⟩ (c9_isEndless l (db (tn (Mm.1 j_me) (Mm.2 j_me) 3)) (tn3_ok (hVM j_me hj_me))) (va_cwS 1 hts gX9_wind_X9_isEndless rfl rfl rfl (by decide +kernel) ⟨Nat.le_of_ble_eq_true rfl, Nat.le_of_ble_eq_true rfl⟩) (preS_of okT (trivial)) rfl rfl hl.1 rfl (lv_room (Nat.le_of_ble_eq_true rfl)) dX9_wind_31 ⟨Nat.le_of_ble_eq_true rfl, Nat.le_of_ble_eq_true rfl⟩) (fun r30 hr30 => ?_)
        rw [if_neg hen] at hr30
        subst hr30
        refine lv_if_eq (tgt := 41) hx hb dX9_wind_34 (by decide) (fun c31 => ?_) (fun c31 => absurd (by decide) c31)
        refine lv_iconst (v := 0) hx hb dX9_wind_41 (by decide) ?_
        refine pg_put (ci := 8) (v := .int 0) (ty := .int) (C := RX9) (T := TX9) (N := 20) hx hb hts hinX9 tyX9 tyX9_ok nmX9 hown hK hP hD hS hmo hFo_24 rfl 17 (by decide) (hts (.fieldLink RX9 65 "RopeDrumsModel" "failed" "I") (by decide +kernel)) (fun _ h9 => h9) rfl (by decide +kernel) (rfl) (rfl) (Nat.le_of_ble_eq_true rfl) dX9_wind_42 (fun H locs F32 eF32 hP hS => ?_)
        have eF32 : F32 = va_up F24 o (.inr (8, [.int 0, .ref (qm 0), .ref (qm 1), .ref (qm 2), .ref (qm 3), .ref (qm 4), .ref (qm 5), .ref (qm 6), .ref (qm 7), .int Pp.1, .ref (qm 8), .ref (qm 9), .ref (qm 10), .ref (qm 11), .ref (qm 12), .ref (qm 13), .ref (qm 14), .int 0, .ref (qm 15), .long oc])) := eF32
        have hFo_32 : F32 o = .inr (8, [.int 0, .ref (qm 0), .ref (qm 1), .ref (qm 2), .ref (qm 3), .ref (qm 4), .ref (qm 5), .ref (qm 6), .ref (qm 7), .int Pp.1, .ref (qm 8), .ref (qm 9), .ref (qm 10), .ref (qm 11), .ref (qm 12), .ref (qm 13), .ref (qm 14), .int 0, .ref (qm 15), .long oc]) := by rw [eF32]; exact va_up_self _ _ _
        have hFqm0_32 : F32 (qm 0) = cI (cy 1) 10 Mm.1 := by rw [eF32, va_up_ne _ _ (pl_ne hFqm0_24 hFo_24 rfl)]; exact hFqm0_24
        have hFqm1_32 : F32 (qm 1) = cJ (cy 2) 10 Mm.2 := by rw [eF32, va_up_ne _ _ (pl_ne hFqm1_24 hFo_24 rfl)]; exact hFqm1_24
        have hFqm2_32 : F32 (qm 2) = cD (cy 0) 6 Dd.1 := by rw [eF32, va_up_ne _ _ (pl_ne hFqm2_24 hFo_24 rfl)]; exact hFqm2_24
        have hFqm3_32 : F32 (qm 3) = cD (cy 0) 6 Dd.2.1 := by rw [eF32, va_up_ne _ _ (pl_ne hFqm3_24 hFo_24 rfl)]; exact hFqm3_24
        have hFqm4_32 : F32 (qm 4) = cD (cy 0) 6 Dd.2.2.1 := by rw [eF32, va_up_ne _ _ (pl_ne hFqm4_24 hFo_24 rfl)]; exact hFqm4_24
        have hFqm5_32 : F32 (qm 5) = cJ (cy 2) 6 Dd.2.2.2 := by rw [eF32, va_up_ne _ _ (pl_ne hFqm5_24 hFo_24 rfl)]; exact hFqm5_24
        have hFqm6_32 : F32 (qm 6) = cI (cy 1) 8 Sl.1 := by rw [eF32, va_up_ne _ _ (pl_ne hFqm6_24 hFo_24 rfl)]; exact hFqm6_24
        have hFqm7_32 : F32 (qm 7) = cJ (cy 2) 128 Sl.2 := by rw [eF32, va_up_ne _ _ (pl_ne hFqm7_24 hFo_24 rfl)]; exact hFqm7_24
        have hFqm8_32 : F32 (qm 8) = cI (cy 1) 30 Pp.2.1 := by rw [eF32, va_up_ne _ _ (pl_ne hFqm8_24 hFo_24 rfl)]; exact hFqm8_24
        have hFqm9_32 : F32 (qm 9) = cI (cy 3) 30 Pp.2.2 := by rw [eF32, va_up_ne _ _ (pl_ne hFqm9_24 hFo_24 rfl)]; exact hFqm9_24
        have hFqm10_32 : F32 (qm 10) = cI (cy 1) 5 Kr.1 := by rw [eF32, va_up_ne _ _ (pl_ne hFqm10_24 hFo_24 rfl)]; exact hFqm10_24
        have hFqm11_32 : F32 (qm 11) = cI (cy 3) 5 Kr.2.1 := by rw [eF32, va_up_ne _ _ (pl_ne hFqm11_24 hFo_24 rfl)]; exact hFqm11_24
        have hFqm12_32 : F32 (qm 12) = cI (cy 1) 60 Kr.2.2 := by rw [eF32, va_up_ne _ _ (pl_ne hFqm12_24 hFo_24 rfl)]; exact hFqm12_24
        have hFqm13_32 : F32 (qm 13) = cI (cy 1) 4 Bk.1 := by rw [eF32, va_up_ne _ _ (pl_ne hFqm13_24 hFo_24 rfl)]; exact hFqm13_24
        have hFqm14_32 : F32 (qm 14) = cD (cy 0) 4 Bk.2 := by rw [eF32, va_up_ne _ _ (pl_ne hFqm14_24 hFo_24 rfl)]; exact hFqm14_24
        have hFqm15_32 : F32 (qm 15) = cI (cy 1) 6 Xx.2 := by rw [eF32, va_up_ne _ _ (pl_ne hFqm15_24 hFo_24 rfl)]; exact hFqm15_24
        refine lv_aload_n hx hb dX9_wind_45 rfl (lv_at hl 1 rfl) ?_
        refine pg_get (ci := 8) (C := RX9) (T := TX9) (N := 20) hx hb hts hinX9 hown hK hP hmo hFo_32 rfl 17 (by decide) (hts (.fieldLink RX9 65 "RopeDrumsModel" "failed" "I") (by decide +kernel)) (fun _ h9 => h9) rfl dX9_wind_46 ?_
        refine lv_if_ne (tgt := 110) hx hb dX9_wind_49 (by decide) (fun c33 => absurd (by decide) c33) (fun c33 => ?_)
        have hd := hVD j_dr hj_dr
        have hvf : FP.Core.DFin (db (tn (Mm.1 j_me) (Mm.2 j_me) 3)) := (FP.Core.fin_bits _).mpr (by have := (FP.Core.ne_nan _).mp (tn3_ok (hVM j_me hj_me)); omega)
        have hsf := sumfin hd.2.1.1 hvf hd.2.1.2
        refine lv_aload_n hx hb dX9_wind_52 rfl (lv_at hl 1 rfl) ?_
        refine pg_get (ci := 8) (C := RX9) (T := TX9) (N := 20) hx hb hts hinX9 hown hK hP hmo hFo_32 rfl 4 (by decide) (hts (.fieldLink RX9 21 "RopeDrumsModel" "at" "[D") (by decide +kernel)) (fun _ h9 => h9) rfl dX9_wind_53 ?_
        refine lv_iload_n hx hb dX9_wind_56 rfl (lv_at hl 2 rfl) ?_
        refine pg_dald hx hb hK hP 0 hm3 hFqm3_32 rfl (vp_in_nI (by omega) (by decide)) dX9_wind_57 ?_
        refine lv_topd (fun v34 ev34 => ?_)
        rw [nI_clamp (by omega)] at ev34
        refine lv_dload_n hx hb dX9_wind_58 rfl (lv_at hl 0 rfl) ?_
        refine lv_dadd hx hb dX9_wind_59 (n64.mpr (by rw [ev34]; exact hsf.ne_nan)) ?_
        refine lv_topd (fun v35 ev35 => ?_)
        refine lv_dstore (lv' := [(5, .double v35), (3, .double (db (tn (Mm.1 j_me) (Mm.2 j_me) 3))), (0, .ref o), (1, .int (nI j_dr)), (2, .int (nI j_me))]) hx hb dX9_wind_60 hl (by decide) rfl (fun ls hl => ?_)
        refine lv_aload_n hx hb dX9_wind_62 rfl (lv_at hl 2 rfl) ?_
        refine pg_get (ci := 8) (C := RX9) (T := TX9) (N := 20) hx hb hts hinX9 hown hK hP hmo hFo_32 rfl 6 (by decide) (hts (.fieldLink RX9 27 "RopeDrumsModel" "turns" "[J") (by decide +kernel)) (fun _ h9 => h9) rfl dX9_wind_63 ?_
        refine lv_iload_n hx hb dX9_wind_66 rfl (lv_at hl 3 rfl) ?_
        refine lv_dup2_11 hx hb dX9_wind_67 rfl rfl ?_
        refine pg_lald hx hb hK hP 2 hm5 hFqm5_32 rfl (vp_in_nI (by omega) (by decide)) dX9_wind_68 ?_
        refine lv_topl (fun v36 ev36 => ?_)
        rw [nI_clamp (by omega)] at ev36
        refine lv_dload hx hb dX9_wind_69 (lv_at hl 0 rfl) ?_
        refine lv_aload_n hx hb dX9_wind_71 rfl (lv_at hl 2 rfl) ?_
        refine pg_get (ci := 8) (C := RX9) (T := TX9) (N := 20) hx hb hts hinX9 hown hK hP hmo hFo_32 rfl 3 (by decide) (hts (.fieldLink RX9 17 "RopeDrumsModel" "around" "[D") (by decide +kernel)) (fun _ h9 => h9) rfl dX9_wind_72 ?_
        refine lv_iload_n hx hb dX9_wind_75 rfl (lv_at hl 3 rfl) ?_
        refine pg_dald hx hb hK hP 0 hm2 hFqm2_32 rfl (vp_in_nI (by omega) (by decide)) dX9_wind_76 ?_
        refine lv_topd (fun v37 ev37 => ?_)
        rw [nI_clamp (by omega)] at ev37
        refine lv_ddiv hx hb dX9_wind_77 (n64.mpr (by rw [ev35, ev34, ev37]; exact (FP.Core.notNaN_iff _).mp (FP.Core.ddiv_out hsf.notNaN hd.1.1 hd.1.2.1))) ?_
        refine lv_topd (fun v38 ev38 => ?_)
        refine lv_d2l hx hb dX9_wind_78 ?_
        refine lv_topl (fun v39 ev39 => ?_)
        refine lv_ladd hx hb dX9_wind_79 ?_
        refine lv_topl (fun v40 ev40 => ?_)
        refine pg_last hx hb hK hP hD hS 2 hm5 hFqm5_32 rfl (vp_in_nI (by omega) (by decide)) dX9_wind_80 (fun H locs F41 eF41 hP hS => ?_)
        rw [nI_clamp (by omega)] at eF41
        have hFo_41 : F41 o = .inr (8, [.int 0, .ref (qm 0), .ref (qm 1), .ref (qm 2), .ref (qm 3), .ref (qm 4), .ref (qm 5), .ref (qm 6), .ref (qm 7), .int Pp.1, .ref (qm 8), .ref (qm 9), .ref (qm 10), .ref (qm 11), .ref (qm 12), .ref (qm 13), .ref (qm 14), .int 0, .ref (qm 15), .long oc]) := by rw [eF41, va_up_ne _ _ (pl_ne hFo_32 hFqm5_32 rfl)]; exact hFo_32
        have hFqm0_41 : F41 (qm 0) = cI (cy 1) 10 Mm.1 := by rw [eF41, va_up_ne _ _ (pl_ne hFqm0_32 hFqm5_32 rfl)]; exact hFqm0_32
        have hFqm1_41 : F41 (qm 1) = cJ (cy 2) 10 Mm.2 := by rw [eF41, va_up_ne _ _ (pl_ne hFqm1_32 hFqm5_32 rfl)]; exact hFqm1_32
        have hFqm2_41 : F41 (qm 2) = cD (cy 0) 6 Dd.1 := by rw [eF41, va_up_ne _ _ (pl_ne hFqm2_32 hFqm5_32 rfl)]; exact hFqm2_32
        have hFqm3_41 : F41 (qm 3) = cD (cy 0) 6 Dd.2.1 := by rw [eF41, va_up_ne _ _ (pl_ne hFqm3_32 hFqm5_32 rfl)]; exact hFqm3_32
        have hFqm4_41 : F41 (qm 4) = cD (cy 0) 6 Dd.2.2.1 := by rw [eF41, va_up_ne _ _ (pl_ne hFqm4_32 hFqm5_32 rfl)]; exact hFqm4_32
        have hFqm5_41 : F41 (qm 5) = cJ (cy 2) 6 (vp_updL Dd.2.2.2 j_dr v40) := by rw [eF41]; exact va_up_self _ _ _
        have hFqm6_41 : F41 (qm 6) = cI (cy 1) 8 Sl.1 := by rw [eF41, va_up_ne _ _ (pl_ne hFqm6_32 hFqm5_32 rfl)]; exact hFqm6_32
        have hFqm7_41 : F41 (qm 7) = cJ (cy 2) 128 Sl.2 := by rw [eF41, va_up_ne _ _ (pl_ne hFqm7_32 hFqm5_32 rfl)]; exact hFqm7_32
        have hFqm8_41 : F41 (qm 8) = cI (cy 1) 30 Pp.2.1 := by rw [eF41, va_up_ne _ _ (pl_ne hFqm8_32 hFqm5_32 rfl)]; exact hFqm8_32
        have hFqm9_41 : F41 (qm 9) = cI (cy 3) 30 Pp.2.2 := by rw [eF41, va_up_ne _ _ (pl_ne hFqm9_32 hFqm5_32 rfl)]; exact hFqm9_32
        have hFqm10_41 : F41 (qm 10) = cI (cy 1) 5 Kr.1 := by rw [eF41, va_up_ne _ _ (pl_ne hFqm10_32 hFqm5_32 rfl)]; exact hFqm10_32
        have hFqm11_41 : F41 (qm 11) = cI (cy 3) 5 Kr.2.1 := by rw [eF41, va_up_ne _ _ (pl_ne hFqm11_32 hFqm5_32 rfl)]; exact hFqm11_32
        have hFqm12_41 : F41 (qm 12) = cI (cy 1) 60 Kr.2.2 := by rw [eF41, va_up_ne _ _ (pl_ne hFqm12_32 hFqm5_32 rfl)]; exact hFqm12_32
        have hFqm13_41 : F41 (qm 13) = cI (cy 1) 4 Bk.1 := by rw [eF41, va_up_ne _ _ (pl_ne hFqm13_32 hFqm5_32 rfl)]; exact hFqm13_32
        have hFqm14_41 : F41 (qm 14) = cD (cy 0) 4 Bk.2 := by rw [eF41, va_up_ne _ _ (pl_ne hFqm14_32 hFqm5_32 rfl)]; exact hFqm14_32
        have hFqm15_41 : F41 (qm 15) = cI (cy 1) 6 Xx.2 := by rw [eF41, va_up_ne _ _ (pl_ne hFqm15_32 hFqm5_32 rfl)]; exact hFqm15_32
        refine lv_aload_n hx hb dX9_wind_81 rfl (lv_at hl 2 rfl) ?_
        refine pg_get (ci := 8) (C := RX9) (T := TX9) (N := 20) hx hb hts hinX9 hown hK hP hmo hFo_41 rfl 4 (by decide) (hts (.fieldLink RX9 21 "RopeDrumsModel" "at" "[D") (by decide +kernel)) (fun _ h9 => h9) rfl dX9_wind_82 ?_
        refine lv_iload_n hx hb dX9_wind_85 rfl (lv_at hl 3 rfl) ?_
        refine lv_dload hx hb dX9_wind_86 (lv_at hl 0 rfl) ?_
        refine lv_aload_n hx hb dX9_wind_88 rfl (lv_at hl 2 rfl) ?_
        refine pg_get (ci := 8) (C := RX9) (T := TX9) (N := 20) hx hb hts hinX9 hown hK hP hmo hFo_41 rfl 3 (by decide) (hts (.fieldLink RX9 17 "RopeDrumsModel" "around" "[D") (by decide +kernel)) (fun _ h9 => h9) rfl dX9_wind_89 ?_
        refine lv_iload_n hx hb dX9_wind_92 rfl (lv_at hl 3 rfl) ?_
        refine pg_dald hx hb hK hP 0 hm2 hFqm2_41 rfl (vp_in_nI (by omega) (by decide)) dX9_wind_93 ?_
        refine lv_topd (fun v42 ev42 => ?_)
        rw [nI_clamp (by omega)] at ev42
        refine lv_drem hx hb dX9_wind_94 (n64.mpr (by rw [ev35, ev34, ev42]; exact (remsmall hsf hd.1.1 hd.1.2.1 hd.1.2.2).1.ne_nan)) ?_
        refine lv_topd (fun v43 ev43 => ?_)
        refine pg_dast hx hb hK hP hD hS 0 hm3 hFqm3_41 rfl (vp_in_nI (by omega) (by decide)) dX9_wind_95 (fun H locs F44 eF44 hP hS => ?_)
        rw [nI_clamp (by omega)] at eF44
        have hFo_44 : F44 o = .inr (8, [.int 0, .ref (qm 0), .ref (qm 1), .ref (qm 2), .ref (qm 3), .ref (qm 4), .ref (qm 5), .ref (qm 6), .ref (qm 7), .int Pp.1, .ref (qm 8), .ref (qm 9), .ref (qm 10), .ref (qm 11), .ref (qm 12), .ref (qm 13), .ref (qm 14), .int 0, .ref (qm 15), .long oc]) := by rw [eF44, va_up_ne _ _ (pl_ne hFo_41 hFqm3_41 rfl)]; exact hFo_41
        have hFqm0_44 : F44 (qm 0) = cI (cy 1) 10 Mm.1 := by rw [eF44, va_up_ne _ _ (pl_ne hFqm0_41 hFqm3_41 rfl)]; exact hFqm0_41
        have hFqm1_44 : F44 (qm 1) = cJ (cy 2) 10 Mm.2 := by rw [eF44, va_up_ne _ _ (pl_ne hFqm1_41 hFqm3_41 rfl)]; exact hFqm1_41
        have hFqm2_44 : F44 (qm 2) = cD (cy 0) 6 Dd.1 := by rw [eF44, va_up_ne _ _ (hne.1)]; exact hFqm2_41
        have hFqm3_44 : F44 (qm 3) = cD (cy 0) 6 (vf_upd Dd.2.1 j_dr v43) := by rw [eF44]; exact va_up_self _ _ _
        have hFqm4_44 : F44 (qm 4) = cD (cy 0) 6 Dd.2.2.1 := by rw [eF44, va_up_ne _ _ ((Ne.symm hne.2.2.1))]; exact hFqm4_41
        have hFqm5_44 : F44 (qm 5) = cJ (cy 2) 6 (vp_updL Dd.2.2.2 j_dr v40) := by rw [eF44, va_up_ne _ _ (pl_ne hFqm5_41 hFqm3_41 rfl)]; exact hFqm5_41
        have hFqm6_44 : F44 (qm 6) = cI (cy 1) 8 Sl.1 := by rw [eF44, va_up_ne _ _ (pl_ne hFqm6_41 hFqm3_41 rfl)]; exact hFqm6_41
        have hFqm7_44 : F44 (qm 7) = cJ (cy 2) 128 Sl.2 := by rw [eF44, va_up_ne _ _ (pl_ne hFqm7_41 hFqm3_41 rfl)]; exact hFqm7_41
        have hFqm8_44 : F44 (qm 8) = cI (cy 1) 30 Pp.2.1 := by rw [eF44, va_up_ne _ _ (pl_ne hFqm8_41 hFqm3_41 rfl)]; exact hFqm8_41
        have hFqm9_44 : F44 (qm 9) = cI (cy 3) 30 Pp.2.2 := by rw [eF44, va_up_ne _ _ (pl_ne hFqm9_41 hFqm3_41 rfl)]; exact hFqm9_41
        have hFqm10_44 : F44 (qm 10) = cI (cy 1) 5 Kr.1 := by rw [eF44, va_up_ne _ _ (pl_ne hFqm10_41 hFqm3_41 rfl)]; exact hFqm10_41
        have hFqm11_44 : F44 (qm 11) = cI (cy 3) 5 Kr.2.1 := by rw [eF44, va_up_ne _ _ (pl_ne hFqm11_41 hFqm3_41 rfl)]; exact hFqm11_41
        have hFqm12_44 : F44 (qm 12) = cI (cy 1) 60 Kr.2.2 := by rw [eF44, va_up_ne _ _ (pl_ne hFqm12_41 hFqm3_41 rfl)]; exact hFqm12_41
        have hFqm13_44 : F44 (qm 13) = cI (cy 1) 4 Bk.1 := by rw [eF44, va_up_ne _ _ (pl_ne hFqm13_41 hFqm3_41 rfl)]; exact hFqm13_41
        have hFqm14_44 : F44 (qm 14) = cD (cy 0) 4 Bk.2 := by rw [eF44, va_up_ne _ _ (pl_ne hFqm14_41 hFqm3_41 rfl)]; exact hFqm14_41
        have hFqm15_44 : F44 (qm 15) = cI (cy 1) 6 Xx.2 := by rw [eF44, va_up_ne _ _ (pl_ne hFqm15_41 hFqm3_41 rfl)]; exact hFqm15_41
        refine lv_aload_n hx hb dX9_wind_96 rfl (lv_at hl 2 rfl) ?_
        refine pg_get (ci := 8) (C := RX9) (T := TX9) (N := 20) hx hb hts hinX9 hown hK hP hmo hFo_44 rfl 5 (by decide) (hts (.fieldLink RX9 24 "RopeDrumsModel" "rope" "[D") (by decide +kernel)) (fun _ h9 => h9) rfl dX9_wind_97 ?_
        refine lv_iload_n hx hb dX9_wind_100 rfl (lv_at hl 3 rfl) ?_
        refine lv_aload_n hx hb dX9_wind_101 rfl (lv_at hl 2 rfl) ?_
        refine pg_get (ci := 8) (C := RX9) (T := TX9) (N := 20) hx hb hts hinX9 hown hK hP hmo hFo_44 rfl 5 (by decide) (hts (.fieldLink RX9 24 "RopeDrumsModel" "rope" "[D") (by decide +kernel)) (fun _ h9 => h9) rfl dX9_wind_102 ?_
        refine lv_iload_n hx hb dX9_wind_105 rfl (lv_at hl 3 rfl) ?_
        refine pg_dald hx hb hK hP 0 hm4 hFqm4_44 rfl (vp_in_nI (by omega) (by decide)) dX9_wind_106 ?_
        refine lv_topd (fun v45 ev45 => ?_)
        rw [nI_clamp (by omega)] at ev45
        refine lv_dload_n hx hb dX9_wind_107 rfl (lv_at hl 1 rfl) ?_
        refine lv_dadd hx hb dX9_wind_108 (n64.mpr (by rw [ev45]; exact (FP.Core.notNaN_iff _).mp (FP.Core.dadd_out ((FP.Core.notNaN_iff _).mpr hd.2.2) hvf))) ?_
        refine lv_topd (fun v46 ev46 => ?_)
        refine pg_dast hx hb hK hP hD hS 0 hm4 hFqm4_44 rfl (vp_in_nI (by omega) (by decide)) dX9_wind_109 (fun H locs F47 eF47 hP hS => ?_)
        rw [nI_clamp (by omega)] at eF47
        have hFo_47 : F47 o = .inr (8, [.int 0, .ref (qm 0), .ref (qm 1), .ref (qm 2), .ref (qm 3), .ref (qm 4), .ref (qm 5), .ref (qm 6), .ref (qm 7), .int Pp.1, .ref (qm 8), .ref (qm 9), .ref (qm 10), .ref (qm 11), .ref (qm 12), .ref (qm 13), .ref (qm 14), .int 0, .ref (qm 15), .long oc]) := by rw [eF47, va_up_ne _ _ (pl_ne hFo_44 hFqm4_44 rfl)]; exact hFo_44
        have hFqm0_47 : F47 (qm 0) = cI (cy 1) 10 Mm.1 := by rw [eF47, va_up_ne _ _ (pl_ne hFqm0_44 hFqm4_44 rfl)]; exact hFqm0_44
        have hFqm1_47 : F47 (qm 1) = cJ (cy 2) 10 Mm.2 := by rw [eF47, va_up_ne _ _ (pl_ne hFqm1_44 hFqm4_44 rfl)]; exact hFqm1_44
        have hFqm2_47 : F47 (qm 2) = cD (cy 0) 6 Dd.1 := by rw [eF47, va_up_ne _ _ (hne.2.1)]; exact hFqm2_44
        have hFqm3_47 : F47 (qm 3) = cD (cy 0) 6 (vf_upd Dd.2.1 j_dr v43) := by rw [eF47, va_up_ne _ _ (hne.2.2.1)]; exact hFqm3_44
        have hFqm4_47 : F47 (qm 4) = cD (cy 0) 6 (vf_upd Dd.2.2.1 j_dr v46) := by rw [eF47]; exact va_up_self _ _ _
        have hFqm5_47 : F47 (qm 5) = cJ (cy 2) 6 (vp_updL Dd.2.2.2 j_dr v40) := by rw [eF47, va_up_ne _ _ (pl_ne hFqm5_44 hFqm4_44 rfl)]; exact hFqm5_44
        have hFqm6_47 : F47 (qm 6) = cI (cy 1) 8 Sl.1 := by rw [eF47, va_up_ne _ _ (pl_ne hFqm6_44 hFqm4_44 rfl)]; exact hFqm6_44
        have hFqm7_47 : F47 (qm 7) = cJ (cy 2) 128 Sl.2 := by rw [eF47, va_up_ne _ _ (pl_ne hFqm7_44 hFqm4_44 rfl)]; exact hFqm7_44
        have hFqm8_47 : F47 (qm 8) = cI (cy 1) 30 Pp.2.1 := by rw [eF47, va_up_ne _ _ (pl_ne hFqm8_44 hFqm4_44 rfl)]; exact hFqm8_44
        have hFqm9_47 : F47 (qm 9) = cI (cy 3) 30 Pp.2.2 := by rw [eF47, va_up_ne _ _ (pl_ne hFqm9_44 hFqm4_44 rfl)]; exact hFqm9_44
        have hFqm10_47 : F47 (qm 10) = cI (cy 1) 5 Kr.1 := by rw [eF47, va_up_ne _ _ (pl_ne hFqm10_44 hFqm4_44 rfl)]; exact hFqm10_44
        have hFqm11_47 : F47 (qm 11) = cI (cy 3) 5 Kr.2.1 := by rw [eF47, va_up_ne _ _ (pl_ne hFqm11_44 hFqm4_44 rfl)]; exact hFqm11_44
        have hFqm12_47 : F47 (qm 12) = cI (cy 1) 60 Kr.2.2 := by rw [eF47, va_up_ne _ _ (pl_ne hFqm12_44 hFqm4_44 rfl)]; exact hFqm12_44
        have hFqm13_47 : F47 (qm 13) = cI (cy 1) 4 Bk.1 := by rw [eF47, va_up_ne _ _ (pl_ne hFqm13_44 hFqm4_44 rfl)]; exact hFqm13_44
        have hFqm14_47 : F47 (qm 14) = cD (cy 0) 4 Bk.2 := by rw [eF47, va_up_ne _ _ (pl_ne hFqm14_44 hFqm4_44 rfl)]; exact hFqm14_44
        have hFqm15_47 : F47 (qm 15) = cI (cy 1) 6 Xx.2 := by rw [eF47, va_up_ne _ _ (pl_ne hFqm15_44 hFqm4_44 rfl)]; exact hFqm15_44
        refine lv_aload_n hx hb dX9_wind_110 rfl (lv_at hl 2 rfl) ?_
        refine lv_iconst (v := 1) hx hb dX9_wind_111 (by decide) ?_
        refine va_calli (va_runV (As := [.int 1]) (rest := []) ⟨hx, hb, hml, hown, hts⟩ (c9_answers_0 l G cy L F47 H.size o qm 0 Pp.1 oc hmo hFo_47 Xx.2 hm15 hFqm15_47 1) (cwV 1 hts gX9_wind_X9_answers rfl rfl rfl (by decide +kernel) ⟨Nat.le_of_ble_eq_true rfl, Nat.le_of_ble_eq_true rfl⟩) (preV_of okQ (⟨rfl, hP, hK, hD.top⟩) (pl_recv hK hP (ci := 8) rfl hmo hFo_47)) rfl rfl hl.1 rfl (lv_room (Nat.le_of_ble_eq_true rfl)) dX9_wind_112 ⟨Nat.le_of_ble_eq_true rfl, Nat.le_of_ble_eq_true rfl⟩) hS (fun q _ h => pl_free hD hS hA q h) (pl_free hD hS hA) (fun r49 F48 t H1 locs ht hvm hw hP1 hz1 hk1 hS => ?_)
        have hP1 : va_P G vwCl (va_pl L F48) t.heap := hP1
        rw [ht] at hP1
        have hP := hP1
        generalize H1 = H at hP hS ⊢
        obtain ⟨hqr49, eF48⟩ := hw
        have hFo_F48 : F48 o = .inr (8, [.int 0, .ref (qm 0), .ref (qm 1), .ref (qm 2), .ref (qm 3), .ref (qm 4), .ref (qm 5), .ref (qm 6), .ref (qm 7), .int Pp.1, .ref (qm 8), .ref (qm 9), .ref (qm 10), .ref (qm 11), .ref (qm 12), .ref (qm 13), .ref (qm 14), .int 0, .ref (qm 15), .long oc]) := by rw [eF48]; exact hFo_47
        have hFqm0_F48 : F48 (qm 0) = cI (cy 1) 10 Mm.1 := by rw [eF48]; exact hFqm0_47
        have hFqm1_F48 : F48 (qm 1) = cJ (cy 2) 10 Mm.2 := by rw [eF48]; exact hFqm1_47
        have hFqm2_F48 : F48 (qm 2) = cD (cy 0) 6 Dd.1 := by rw [eF48]; exact hFqm2_47
        have hFqm3_F48 : F48 (qm 3) = cD (cy 0) 6 (vf_upd Dd.2.1 j_dr v43) := by rw [eF48]; exact hFqm3_47
        have hFqm4_F48 : F48 (qm 4) = cD (cy 0) 6 (vf_upd Dd.2.2.1 j_dr v46) := by rw [eF48]; exact hFqm4_47
        have hFqm5_F48 : F48 (qm 5) = cJ (cy 2) 6 (vp_updL Dd.2.2.2 j_dr v40) := by rw [eF48]; exact hFqm5_47
        have hFqm6_F48 : F48 (qm 6) = cI (cy 1) 8 Sl.1 := by rw [eF48]; exact hFqm6_47
        have hFqm7_F48 : F48 (qm 7) = cJ (cy 2) 128 Sl.2 := by rw [eF48]; exact hFqm7_47
        have hFqm8_F48 : F48 (qm 8) = cI (cy 1) 30 Pp.2.1 := by rw [eF48]; exact hFqm8_47
        have hFqm9_F48 : F48 (qm 9) = cI (cy 3) 30 Pp.2.2 := by rw [eF48]; exact hFqm9_47
        have hFqm10_F48 : F48 (qm 10) = cI (cy 1) 5 Kr.1 := by rw [eF48]; exact hFqm10_47
        have hFqm11_F48 : F48 (qm 11) = cI (cy 3) 5 Kr.2.1 := by rw [eF48]; exact hFqm11_47
        have hFqm12_F48 : F48 (qm 12) = cI (cy 1) 60 Kr.2.2 := by rw [eF48]; exact hFqm12_47
        have hFqm13_F48 : F48 (qm 13) = cI (cy 1) 4 Bk.1 := by rw [eF48]; exact hFqm13_47
        have hFqm14_F48 : F48 (qm 14) = cD (cy 0) 4 Bk.2 := by rw [eF48]; exact hFqm14_47
        have hFqm15_F48 : F48 (qm 15) = cI (cy 1) 6 Xx.2 := by rw [eF48]; exact hFqm15_47
        have hr49 := hqr49
        exact W.iret (v := r49) hx hb hr (fun t ht hW => ⟨⟨r49, F48, rfl, (by subst hr49 ev46 ev45 ev43 ev42 ev40 ev39 ev38 ev37 ev36 ev35 ev34; have hsp : sp_wind Mm Dd Xx (nI j_dr) (nI j_me) = (1, (Dd.1, vf_upd Dd.2.1 j_dr (FP.drem (FP.dadd (Dd.2.1 j_dr) (db (tn (Mm.1 j_me) (Mm.2 j_me) 3))) (Dd.1 j_dr)), vf_upd Dd.2.2.1 j_dr (FP.dadd (Dd.2.2.1 j_dr) (db (tn (Mm.1 j_me) (Mm.2 j_me) 3))), vp_updL Dd.2.2.2 j_dr (Dd.2.2.2 j_dr + FP.d2l (FP.ddiv (FP.dadd (Dd.2.1 j_dr) (db (tn (Mm.1 j_me) (Mm.2 j_me) 3))) (Dd.1 j_dr)))), goodX Xx) := (by unfold sp_wind; rw [hi_dr, hi_me]; refine (if_neg hen).trans ?_; unfold wnd setD; rw [vfid]); rw [hsp]; exact ⟨rfl, (by exact ⟨⟨_, _, hmo, hFo_F48⟩, ⟨hm0, hFqm0_F48⟩, ⟨hm1, hFqm1_F48⟩, ⟨hm2, hFqm2_F48⟩, ⟨hm3, hFqm3_F48⟩, ⟨hm4, hFqm4_F48⟩, ⟨hm5, hFqm5_F48⟩, ⟨hm6, hFqm6_F48⟩, ⟨hm7, hFqm7_F48⟩, ⟨hm8, hFqm8_F48⟩, ⟨hm9, hFqm9_F48⟩, ⟨hm10, hFqm10_F48⟩, ⟨hm11, hFqm11_F48⟩, ⟨hm12, hFqm12_F48⟩, ⟨hm13, hFqm13_F48⟩, ⟨hm14, hFqm14_F48⟩, ⟨hm15, hFqm15_F48⟩, hne⟩)⟩), (by show va_P _ _ _ t.heap; rw [ht]; exact hP)⟩, hS.F ht⟩) hS.2.2 dX9_wind_115

set_option maxHeartbeats 8000000 in
set_option maxRecDepth 100000 in
theorem n_told_0 (l : Launch) (G : va_G) (cy : Nat → ClassId) (L : List Nat) (F : Nat → va_E) (sz : Nat) (o : Nat) (qm : Nat → Nat) (Mm : SM) (Dd : SD) (Sl : SL) (Pp : SP) (Kr : SR) (Bk : SB) (Xx : SX) (hR : RepM cy L o qm Mm Dd Sl Pp Kr Bk Xx F) (hV : Val Mm Dd Sl Pp Kr Bk) (dr : Int32)  : Met l yX9_told wsX9_told ({ frames := 2, cells := 0, slots := 0, locals := 45 }) (va_Pc [.ref o, .int dr, .int 0] (fun U => bQ G cy L F sz U U.heap)) (va_Ql (fun (r : Int64) (F' : Nat → va_E) => r = sp_told Dd dr 0 ∧ RepM cy L o qm Mm Dd Sl Pp Kr Bk Xx F') (fun F' t => va_P G vwCl (va_pl L F') t.heap) (va_A (va_pl L F) sz)) 0 0 (va_A (va_pl L F) sz) := by
  refine Met.ofW (cc := cX9_told) (maxL := 3) (ret := (some .long)) (by decide) rfl ?_
  intro p e s m args below meth c s₁ B hml hv
  obtain ⟨rfl, hsz, hP, hK, hD0⟩ := hv
  have hx := B.exec
  have hb := B.bytes
  have hr := B.returns
  have hts := atoms_spec (ws := wsX9_told) B.pre
  have hown : s.vm.findClass RX9 = some m.cls := findClass_of_methodNamed B.named
  have hlocks := B.notSynchronized
  have hinX9 : ∀ w ∈ wsX90, w ∈ wsX9_told := by decide +kernel
  subst hsz
  have hD := hD0.self F s.heap.size
  generalize hAe : va_A (va_pl L F) s.heap.size = A at hD ⊢
  have hA : ∀ q : Nat, s.heap.size ≤ q → A q := fun q h => by rw [← hAe]; exact Or.inr h
  have hS : va_S A s.heap s.heap [] := va_S.rf
  obtain ⟨⟨th, oc, hmo, hFo⟩, ⟨hm0, hF0⟩, ⟨hm1, hF1⟩, ⟨hm2, hF2⟩, ⟨hm3, hF3⟩, ⟨hm4, hF4⟩, ⟨hm5, hF5⟩, ⟨hm6, hF6⟩, ⟨hm7, hF7⟩, ⟨hm8, hF8⟩, ⟨hm9, hF9⟩, ⟨hm10, hF10⟩, ⟨hm11, hF11⟩, ⟨hm12, hF12⟩, ⟨hm13, hF13⟩, ⟨hm14, hF14⟩, ⟨hm15, hF15⟩, hne⟩ := id hR
  obtain ⟨hVM, hVD, hVS, hVP, hVK, hVB⟩ := hV
  have hl := lv_entry ([.ref o, .int dr, .int 0]) (n := 3) (Nat.le_of_ble_eq_true rfl)
  rw [lg_entry_eq]
  generalize (lg_sl ([.ref o, .int dr, .int 0]) ++ List.replicate (3 - (lg_sl ([.ref o, .int dr, .int 0])).length) Slot.unset).toArray = ls at hl ⊢
  have hl : lv_has ls 3 [(0, .ref o), (1, .int dr), (2, .int 0)] := hl
  rcases ixc 6 dr with hi_dr | ⟨j_dr, hj_dr, hi_dr, ei_dr⟩
  · refine lv_aload_n hx hb dX9_told_0 rfl (lv_at hl 0 rfl) ?_
    refine lv_iconst (v := 0) hx hb dX9_told_1 (by decide) ?_
    refine pg_put (ci := 8) (v := .int 0) (ty := .int) (C := RX9) (T := TX9) (N := 20) hx hb hts hinX9 tyX9 tyX9_ok nmX9 hown hK hP hD hS hmo hFo rfl 0 (by decide) (hts (.fieldLink RX9 61 "RopeDrumsModel" "thrown" "I") (by decide +kernel)) (fun _ h9 => h9) rfl (by decide +kernel) (rfl) (rfl) (Nat.le_of_ble_eq_true rfl) dX9_told_2 (fun H locs F1 eF1 hP hS => ?_)
    have eF1 : F1 = va_up F o (.inr (8, [.int 0, .ref (qm 0), .ref (qm 1), .ref (qm 2), .ref (qm 3), .ref (qm 4), .ref (qm 5), .ref (qm 6), .ref (qm 7), .int Pp.1, .ref (qm 8), .ref (qm 9), .ref (qm 10), .ref (qm 11), .ref (qm 12), .ref (qm 13), .ref (qm 14), .int Xx.1, .ref (qm 15), .long oc])) := eF1
    have hFo_1 : F1 o = .inr (8, [.int 0, .ref (qm 0), .ref (qm 1), .ref (qm 2), .ref (qm 3), .ref (qm 4), .ref (qm 5), .ref (qm 6), .ref (qm 7), .int Pp.1, .ref (qm 8), .ref (qm 9), .ref (qm 10), .ref (qm 11), .ref (qm 12), .ref (qm 13), .ref (qm 14), .int Xx.1, .ref (qm 15), .long oc]) := by rw [eF1]; exact va_up_self _ _ _
    have hFqm0_1 : F1 (qm 0) = cI (cy 1) 10 Mm.1 := by rw [eF1, va_up_ne _ _ (pl_ne hF0 hFo rfl)]; exact hF0
    have hFqm1_1 : F1 (qm 1) = cJ (cy 2) 10 Mm.2 := by rw [eF1, va_up_ne _ _ (pl_ne hF1 hFo rfl)]; exact hF1
    have hFqm2_1 : F1 (qm 2) = cD (cy 0) 6 Dd.1 := by rw [eF1, va_up_ne _ _ (pl_ne hF2 hFo rfl)]; exact hF2
    have hFqm3_1 : F1 (qm 3) = cD (cy 0) 6 Dd.2.1 := by rw [eF1, va_up_ne _ _ (pl_ne hF3 hFo rfl)]; exact hF3
    have hFqm4_1 : F1 (qm 4) = cD (cy 0) 6 Dd.2.2.1 := by rw [eF1, va_up_ne _ _ (pl_ne hF4 hFo rfl)]; exact hF4
    have hFqm5_1 : F1 (qm 5) = cJ (cy 2) 6 Dd.2.2.2 := by rw [eF1, va_up_ne _ _ (pl_ne hF5 hFo rfl)]; exact hF5
    have hFqm6_1 : F1 (qm 6) = cI (cy 1) 8 Sl.1 := by rw [eF1, va_up_ne _ _ (pl_ne hF6 hFo rfl)]; exact hF6
    have hFqm7_1 : F1 (qm 7) = cJ (cy 2) 128 Sl.2 := by rw [eF1, va_up_ne _ _ (pl_ne hF7 hFo rfl)]; exact hF7
    have hFqm8_1 : F1 (qm 8) = cI (cy 1) 30 Pp.2.1 := by rw [eF1, va_up_ne _ _ (pl_ne hF8 hFo rfl)]; exact hF8
    have hFqm9_1 : F1 (qm 9) = cI (cy 3) 30 Pp.2.2 := by rw [eF1, va_up_ne _ _ (pl_ne hF9 hFo rfl)]; exact hF9
    have hFqm10_1 : F1 (qm 10) = cI (cy 1) 5 Kr.1 := by rw [eF1, va_up_ne _ _ (pl_ne hF10 hFo rfl)]; exact hF10
    have hFqm11_1 : F1 (qm 11) = cI (cy 3) 5 Kr.2.1 := by rw [eF1, va_up_ne _ _ (pl_ne hF11 hFo rfl)]; exact hF11
    have hFqm12_1 : F1 (qm 12) = cI (cy 1) 60 Kr.2.2 := by rw [eF1, va_up_ne _ _ (pl_ne hF12 hFo rfl)]; exact hF12
    have hFqm13_1 : F1 (qm 13) = cI (cy 1) 4 Bk.1 := by rw [eF1, va_up_ne _ _ (pl_ne hF13 hFo rfl)]; exact hF13
    have hFqm14_1 : F1 (qm 14) = cD (cy 0) 4 Bk.2 := by rw [eF1, va_up_ne _ _ (pl_ne hF14 hFo rfl)]; exact hF14
    have hFqm15_1 : F1 (qm 15) = cI (cy 1) 6 Xx.2 := by rw [eF1, va_up_ne _ _ (pl_ne hF15 hFo rfl)]; exact hF15
    refine lv_iload_n hx hb dX9_told_5 rfl (lv_at hl 1 rfl) ?_
    refine vp_callSi (W.runS (As := [.int dr]) (rest := []) ⟨hx, hb, hml, hown, hts⟩ (c9_isDrum l dr) (va_cwS 1 hts gX9_told_X9_isDrum rfl rfl rfl (by decide +kernel) ⟨Nat.le_of_ble_eq_true rfl, Nat.le_of_ble_eq_true rfl⟩) (preS_of okT (trivial)) rfl rfl hl.1 rfl (lv_room (Nat.le_of_ble_eq_true rfl)) dX9_told_6 ⟨Nat.le_of_ble_eq_true rfl, Nat.le_of_ble_eq_true rfl⟩) (fun r2 hr2 => ?_)
    rw [isx0 hi_dr] at hr2
    subst hr2
    refine lv_if_ne (tgt := 16) hx hb dX9_told_9 (by decide) (fun c3 => absurd (by decide) c3) (fun c3 => ?_)
    refine lv_ldc2 hx hb hown (hts (.constantLong RX9 129 (-1001)) (by decide +kernel)) dX9_told_12 ?_
    exact W.lret (v := -1001) hx hb hr (fun t ht hW => ⟨⟨-1001, F1, rfl, (by exact ⟨by unfold sp_told; rw [hi_dr], ⟨⟨_, _, hmo, hFo_1⟩, ⟨hm0, hFqm0_1⟩, ⟨hm1, hFqm1_1⟩, ⟨hm2, hFqm2_1⟩, ⟨hm3, hFqm3_1⟩, ⟨hm4, hFqm4_1⟩, ⟨hm5, hFqm5_1⟩, ⟨hm6, hFqm6_1⟩, ⟨hm7, hFqm7_1⟩, ⟨hm8, hFqm8_1⟩, ⟨hm9, hFqm9_1⟩, ⟨hm10, hFqm10_1⟩, ⟨hm11, hFqm11_1⟩, ⟨hm12, hFqm12_1⟩, ⟨hm13, hFqm13_1⟩, ⟨hm14, hFqm14_1⟩, ⟨hm15, hFqm15_1⟩, hne⟩⟩), (by show va_P _ _ _ t.heap; rw [ht]; exact hP)⟩, hS.F ht⟩) hS.2.2 dX9_told_15
  · subst ei_dr
    refine lv_aload_n hx hb dX9_told_0 rfl (lv_at hl 0 rfl) ?_
    refine lv_iconst (v := 0) hx hb dX9_told_1 (by decide) ?_
    refine pg_put (ci := 8) (v := .int 0) (ty := .int) (C := RX9) (T := TX9) (N := 20) hx hb hts hinX9 tyX9 tyX9_ok nmX9 hown hK hP hD hS hmo hFo rfl 0 (by decide) (hts (.fieldLink RX9 61 "RopeDrumsModel" "thrown" "I") (by decide +kernel)) (fun _ h9 => h9) rfl (by decide +kernel) (rfl) (rfl) (Nat.le_of_ble_eq_true rfl) dX9_told_2 (fun H locs F4 eF4 hP hS => ?_)
    have eF4 : F4 = va_up F o (.inr (8, [.int 0, .ref (qm 0), .ref (qm 1), .ref (qm 2), .ref (qm 3), .ref (qm 4), .ref (qm 5), .ref (qm 6), .ref (qm 7), .int Pp.1, .ref (qm 8), .ref (qm 9), .ref (qm 10), .ref (qm 11), .ref (qm 12), .ref (qm 13), .ref (qm 14), .int Xx.1, .ref (qm 15), .long oc])) := eF4
    have hFo_4 : F4 o = .inr (8, [.int 0, .ref (qm 0), .ref (qm 1), .ref (qm 2), .ref (qm 3), .ref (qm 4), .ref (qm 5), .ref (qm 6), .ref (qm 7), .int Pp.1, .ref (qm 8), .ref (qm 9), .ref (qm 10), .ref (qm 11), .ref (qm 12), .ref (qm 13), .ref (qm 14), .int Xx.1, .ref (qm 15), .long oc]) := by rw [eF4]; exact va_up_self _ _ _
    have hFqm0_4 : F4 (qm 0) = cI (cy 1) 10 Mm.1 := by rw [eF4, va_up_ne _ _ (pl_ne hF0 hFo rfl)]; exact hF0
    have hFqm1_4 : F4 (qm 1) = cJ (cy 2) 10 Mm.2 := by rw [eF4, va_up_ne _ _ (pl_ne hF1 hFo rfl)]; exact hF1
    have hFqm2_4 : F4 (qm 2) = cD (cy 0) 6 Dd.1 := by rw [eF4, va_up_ne _ _ (pl_ne hF2 hFo rfl)]; exact hF2
    have hFqm3_4 : F4 (qm 3) = cD (cy 0) 6 Dd.2.1 := by rw [eF4, va_up_ne _ _ (pl_ne hF3 hFo rfl)]; exact hF3
    have hFqm4_4 : F4 (qm 4) = cD (cy 0) 6 Dd.2.2.1 := by rw [eF4, va_up_ne _ _ (pl_ne hF4 hFo rfl)]; exact hF4
    have hFqm5_4 : F4 (qm 5) = cJ (cy 2) 6 Dd.2.2.2 := by rw [eF4, va_up_ne _ _ (pl_ne hF5 hFo rfl)]; exact hF5
    have hFqm6_4 : F4 (qm 6) = cI (cy 1) 8 Sl.1 := by rw [eF4, va_up_ne _ _ (pl_ne hF6 hFo rfl)]; exact hF6
    have hFqm7_4 : F4 (qm 7) = cJ (cy 2) 128 Sl.2 := by rw [eF4, va_up_ne _ _ (pl_ne hF7 hFo rfl)]; exact hF7
    have hFqm8_4 : F4 (qm 8) = cI (cy 1) 30 Pp.2.1 := by rw [eF4, va_up_ne _ _ (pl_ne hF8 hFo rfl)]; exact hF8
    have hFqm9_4 : F4 (qm 9) = cI (cy 3) 30 Pp.2.2 := by rw [eF4, va_up_ne _ _ (pl_ne hF9 hFo rfl)]; exact hF9
    have hFqm10_4 : F4 (qm 10) = cI (cy 1) 5 Kr.1 := by rw [eF4, va_up_ne _ _ (pl_ne hF10 hFo rfl)]; exact hF10
    have hFqm11_4 : F4 (qm 11) = cI (cy 3) 5 Kr.2.1 := by rw [eF4, va_up_ne _ _ (pl_ne hF11 hFo rfl)]; exact hF11
    have hFqm12_4 : F4 (qm 12) = cI (cy 1) 60 Kr.2.2 := by rw [eF4, va_up_ne _ _ (pl_ne hF12 hFo rfl)]; exact hF12
    have hFqm13_4 : F4 (qm 13) = cI (cy 1) 4 Bk.1 := by rw [eF4, va_up_ne _ _ (pl_ne hF13 hFo rfl)]; exact hF13
    have hFqm14_4 : F4 (qm 14) = cD (cy 0) 4 Bk.2 := by rw [eF4, va_up_ne _ _ (pl_ne hF14 hFo rfl)]; exact hF14
    have hFqm15_4 : F4 (qm 15) = cI (cy 1) 6 Xx.2 := by rw [eF4, va_up_ne _ _ (pl_ne hF15 hFo rfl)]; exact hF15
    refine lv_iload_n hx hb dX9_told_5 rfl (lv_at hl 1 rfl) ?_
    refine vp_callSi (W.runS (As := [.int (nI j_dr)]) (rest := []) ⟨hx, hb, hml, hown, hts⟩ (c9_isDrum l (nI j_dr)) (va_cwS 1 hts gX9_told_X9_isDrum rfl rfl rfl (by decide +kernel) ⟨Nat.le_of_ble_eq_true rfl, Nat.le_of_ble_eq_true rfl⟩) (preS_of okT (trivial)) rfl rfl hl.1 rfl (lv_room (Nat.le_of_ble_eq_true rfl)) dX9_told_6 ⟨Nat.le_of_ble_eq_true rfl, Nat.le_of_ble_eq_true rfl⟩) (fun r5 hr5 => ?_)
    rw [isx1 hi_dr] at hr5
    subst hr5
    refine lv_if_ne (tgt := 16) hx hb dX9_told_9 (by decide) (fun c6 => ?_) (fun c6 => absurd c6 (by decide))
    refine lv_iload_n hx hb dX9_told_16 rfl (lv_at hl 2 rfl) ?_
    refine lv_tableIn (off := 31) (tgt := 48) hx hb dX9_told_17 (by decide) (by decide) (by decide) (by decide) ?_
    refine lv_aload_n hx hb dX9_told_48 rfl (lv_at hl 0 rfl) ?_
    refine pg_get (ci := 8) (C := RX9) (T := TX9) (N := 20) hx hb hts hinX9 hown hK hP hmo hFo_4 rfl 3 (by decide) (hts (.fieldLink RX9 17 "RopeDrumsModel" "around" "[D") (by decide +kernel)) (fun _ h9 => h9) rfl dX9_told_49 ?_
    refine lv_iload_n hx hb dX9_told_52 rfl (lv_at hl 1 rfl) ?_
    refine pg_dald hx hb hK hP 0 hm2 hFqm2_4 rfl (vp_in_nI (by omega) (by decide)) dX9_told_53 ?_
    refine lv_topd (fun v7 ev7 => ?_)
    rw [nI_clamp (by omega)] at ev7
    refine vp_callSl (W.runS (As := [.double v7]) (rest := []) ⟨hx, hb, hml, hown, hts⟩ (c9_d2lb l v7 (by rw [ev7]; exact ((hVD j_dr hj_dr).1.1).ne_nan)) (va_cwS 1 hts gX9_told_Jxe99ae_doubleToLongBits_ccdee rfl rfl rfl (by decide +kernel) ⟨Nat.le_of_ble_eq_true rfl, Nat.le_of_ble_eq_true rfl⟩) (preS_of okT (trivial)) rfl rfl hl.1 rfl (lv_room (Nat.le_of_ble_eq_true rfl)) dX9_told_54 ⟨Nat.le_of_ble_eq_true rfl, Nat.le_of_ble_eq_true rfl⟩) (fun r8 hr8 => ?_)
    exact W.lret (v := r8) hx hb hr (fun t ht hW => ⟨⟨r8, F4, rfl, (by subst hr8 ev7; exact ⟨by unfold sp_told; rw [hi_dr]; rfl, ⟨⟨_, _, hmo, hFo_4⟩, ⟨hm0, hFqm0_4⟩, ⟨hm1, hFqm1_4⟩, ⟨hm2, hFqm2_4⟩, ⟨hm3, hFqm3_4⟩, ⟨hm4, hFqm4_4⟩, ⟨hm5, hFqm5_4⟩, ⟨hm6, hFqm6_4⟩, ⟨hm7, hFqm7_4⟩, ⟨hm8, hFqm8_4⟩, ⟨hm9, hFqm9_4⟩, ⟨hm10, hFqm10_4⟩, ⟨hm11, hFqm11_4⟩, ⟨hm12, hFqm12_4⟩, ⟨hm13, hFqm13_4⟩, ⟨hm14, hFqm14_4⟩, ⟨hm15, hFqm15_4⟩, hne⟩⟩), (by show va_P _ _ _ t.heap; rw [ht]; exact hP)⟩, hS.F ht⟩) hS.2.2 dX9_told_57

set_option maxHeartbeats 8000000 in
set_option maxRecDepth 100000 in
theorem n_told_1 (l : Launch) (G : va_G) (cy : Nat → ClassId) (L : List Nat) (F : Nat → va_E) (sz : Nat) (o : Nat) (qm : Nat → Nat) (Mm : SM) (Dd : SD) (Sl : SL) (Pp : SP) (Kr : SR) (Bk : SB) (Xx : SX) (hR : RepM cy L o qm Mm Dd Sl Pp Kr Bk Xx F) (hV : Val Mm Dd Sl Pp Kr Bk) (dr : Int32)  : Met l yX9_told wsX9_told ({ frames := 2, cells := 0, slots := 0, locals := 45 }) (va_Pc [.ref o, .int dr, .int 1] (fun U => bQ G cy L F sz U U.heap)) (va_Ql (fun (r : Int64) (F' : Nat → va_E) => r = sp_told Dd dr 1 ∧ RepM cy L o qm Mm Dd Sl Pp Kr Bk Xx F') (fun F' t => va_P G vwCl (va_pl L F') t.heap) (va_A (va_pl L F) sz)) 0 0 (va_A (va_pl L F) sz) := by
  refine Met.ofW (cc := cX9_told) (maxL := 3) (ret := (some .long)) (by decide) rfl ?_
  intro p e s m args below meth c s₁ B hml hv
  obtain ⟨rfl, hsz, hP, hK, hD0⟩ := hv
  have hx := B.exec
  have hb := B.bytes
  have hr := B.returns
  have hts := atoms_spec (ws := wsX9_told) B.pre
  have hown : s.vm.findClass RX9 = some m.cls := findClass_of_methodNamed B.named
  have hlocks := B.notSynchronized
  have hinX9 : ∀ w ∈ wsX90, w ∈ wsX9_told := by decide +kernel
  subst hsz
  have hD := hD0.self F s.heap.size
  generalize hAe : va_A (va_pl L F) s.heap.size = A at hD ⊢
  have hA : ∀ q : Nat, s.heap.size ≤ q → A q := fun q h => by rw [← hAe]; exact Or.inr h
  have hS : va_S A s.heap s.heap [] := va_S.rf
  obtain ⟨⟨th, oc, hmo, hFo⟩, ⟨hm0, hF0⟩, ⟨hm1, hF1⟩, ⟨hm2, hF2⟩, ⟨hm3, hF3⟩, ⟨hm4, hF4⟩, ⟨hm5, hF5⟩, ⟨hm6, hF6⟩, ⟨hm7, hF7⟩, ⟨hm8, hF8⟩, ⟨hm9, hF9⟩, ⟨hm10, hF10⟩, ⟨hm11, hF11⟩, ⟨hm12, hF12⟩, ⟨hm13, hF13⟩, ⟨hm14, hF14⟩, ⟨hm15, hF15⟩, hne⟩ := id hR
  obtain ⟨hVM, hVD, hVS, hVP, hVK, hVB⟩ := hV
  have hl := lv_entry ([.ref o, .int dr, .int 1]) (n := 3) (Nat.le_of_ble_eq_true rfl)
  rw [lg_entry_eq]
  generalize (lg_sl ([.ref o, .int dr, .int 1]) ++ List.replicate (3 - (lg_sl ([.ref o, .int dr, .int 1])).length) Slot.unset).toArray = ls at hl ⊢
  have hl : lv_has ls 3 [(0, .ref o), (1, .int dr), (2, .int 1)] := hl
  rcases ixc 6 dr with hi_dr | ⟨j_dr, hj_dr, hi_dr, ei_dr⟩
  · refine lv_aload_n hx hb dX9_told_0 rfl (lv_at hl 0 rfl) ?_
    refine lv_iconst (v := 0) hx hb dX9_told_1 (by decide) ?_
    refine pg_put (ci := 8) (v := .int 0) (ty := .int) (C := RX9) (T := TX9) (N := 20) hx hb hts hinX9 tyX9 tyX9_ok nmX9 hown hK hP hD hS hmo hFo rfl 0 (by decide) (hts (.fieldLink RX9 61 "RopeDrumsModel" "thrown" "I") (by decide +kernel)) (fun _ h9 => h9) rfl (by decide +kernel) (rfl) (rfl) (Nat.le_of_ble_eq_true rfl) dX9_told_2 (fun H locs F1 eF1 hP hS => ?_)
    have eF1 : F1 = va_up F o (.inr (8, [.int 0, .ref (qm 0), .ref (qm 1), .ref (qm 2), .ref (qm 3), .ref (qm 4), .ref (qm 5), .ref (qm 6), .ref (qm 7), .int Pp.1, .ref (qm 8), .ref (qm 9), .ref (qm 10), .ref (qm 11), .ref (qm 12), .ref (qm 13), .ref (qm 14), .int Xx.1, .ref (qm 15), .long oc])) := eF1
    have hFo_1 : F1 o = .inr (8, [.int 0, .ref (qm 0), .ref (qm 1), .ref (qm 2), .ref (qm 3), .ref (qm 4), .ref (qm 5), .ref (qm 6), .ref (qm 7), .int Pp.1, .ref (qm 8), .ref (qm 9), .ref (qm 10), .ref (qm 11), .ref (qm 12), .ref (qm 13), .ref (qm 14), .int Xx.1, .ref (qm 15), .long oc]) := by rw [eF1]; exact va_up_self _ _ _
    have hFqm0_1 : F1 (qm 0) = cI (cy 1) 10 Mm.1 := by rw [eF1, va_up_ne _ _ (pl_ne hF0 hFo rfl)]; exact hF0
    have hFqm1_1 : F1 (qm 1) = cJ (cy 2) 10 Mm.2 := by rw [eF1, va_up_ne _ _ (pl_ne hF1 hFo rfl)]; exact hF1
    have hFqm2_1 : F1 (qm 2) = cD (cy 0) 6 Dd.1 := by rw [eF1, va_up_ne _ _ (pl_ne hF2 hFo rfl)]; exact hF2
    have hFqm3_1 : F1 (qm 3) = cD (cy 0) 6 Dd.2.1 := by rw [eF1, va_up_ne _ _ (pl_ne hF3 hFo rfl)]; exact hF3
    have hFqm4_1 : F1 (qm 4) = cD (cy 0) 6 Dd.2.2.1 := by rw [eF1, va_up_ne _ _ (pl_ne hF4 hFo rfl)]; exact hF4
    have hFqm5_1 : F1 (qm 5) = cJ (cy 2) 6 Dd.2.2.2 := by rw [eF1, va_up_ne _ _ (pl_ne hF5 hFo rfl)]; exact hF5
    have hFqm6_1 : F1 (qm 6) = cI (cy 1) 8 Sl.1 := by rw [eF1, va_up_ne _ _ (pl_ne hF6 hFo rfl)]; exact hF6
    have hFqm7_1 : F1 (qm 7) = cJ (cy 2) 128 Sl.2 := by rw [eF1, va_up_ne _ _ (pl_ne hF7 hFo rfl)]; exact hF7
    have hFqm8_1 : F1 (qm 8) = cI (cy 1) 30 Pp.2.1 := by rw [eF1, va_up_ne _ _ (pl_ne hF8 hFo rfl)]; exact hF8
    have hFqm9_1 : F1 (qm 9) = cI (cy 3) 30 Pp.2.2 := by rw [eF1, va_up_ne _ _ (pl_ne hF9 hFo rfl)]; exact hF9
    have hFqm10_1 : F1 (qm 10) = cI (cy 1) 5 Kr.1 := by rw [eF1, va_up_ne _ _ (pl_ne hF10 hFo rfl)]; exact hF10
    have hFqm11_1 : F1 (qm 11) = cI (cy 3) 5 Kr.2.1 := by rw [eF1, va_up_ne _ _ (pl_ne hF11 hFo rfl)]; exact hF11
    have hFqm12_1 : F1 (qm 12) = cI (cy 1) 60 Kr.2.2 := by rw [eF1, va_up_ne _ _ (pl_ne hF12 hFo rfl)]; exact hF12
    have hFqm13_1 : F1 (qm 13) = cI (cy 1) 4 Bk.1 := by rw [eF1, va_up_ne _ _ (pl_ne hF13 hFo rfl)]; exact hF13
    have hFqm14_1 : F1 (qm 14) = cD (cy 0) 4 Bk.2 := by rw [eF1, va_up_ne _ _ (pl_ne hF14 hFo rfl)]; exact hF14
    have hFqm15_1 : F1 (qm 15) = cI (cy 1) 6 Xx.2 := by rw [eF1, va_up_ne _ _ (pl_ne hF15 hFo rfl)]; exact hF15
    refine lv_iload_n hx hb dX9_told_5 rfl (lv_at hl 1 rfl) ?_
    refine vp_callSi (W.runS (As := [.int dr]) (rest := []) ⟨hx, hb, hml, hown, hts⟩ (c9_isDrum l dr) (va_cwS 1 hts gX9_told_X9_isDrum rfl rfl rfl (by decide +kernel) ⟨Nat.le_of_ble_eq_true rfl, Nat.le_of_ble_eq_true rfl⟩) (preS_of okT (trivial)) rfl rfl hl.1 rfl (lv_room (Nat.le_of_ble_eq_true rfl)) dX9_told_6 ⟨Nat.le_of_ble_eq_true rfl, Nat.le_of_ble_eq_true rfl⟩) (fun r2 hr2 => ?_)
    rw [isx0 hi_dr] at hr2
    subst hr2
    refine lv_if_ne (tgt := 16) hx hb dX9_told_9 (by decide) (fun c3 => absurd (by decide) c3) (fun c3 => ?_)
    refine lv_ldc2 hx hb hown (hts (.constantLong RX9 129 (-1001)) (by decide +kernel)) dX9_told_12 ?_
    exact W.lret (v := -1001) hx hb hr (fun t ht hW => ⟨⟨-1001, F1, rfl, (by exact ⟨by unfold sp_told; rw [hi_dr], ⟨⟨_, _, hmo, hFo_1⟩, ⟨hm0, hFqm0_1⟩, ⟨hm1, hFqm1_1⟩, ⟨hm2, hFqm2_1⟩, ⟨hm3, hFqm3_1⟩, ⟨hm4, hFqm4_1⟩, ⟨hm5, hFqm5_1⟩, ⟨hm6, hFqm6_1⟩, ⟨hm7, hFqm7_1⟩, ⟨hm8, hFqm8_1⟩, ⟨hm9, hFqm9_1⟩, ⟨hm10, hFqm10_1⟩, ⟨hm11, hFqm11_1⟩, ⟨hm12, hFqm12_1⟩, ⟨hm13, hFqm13_1⟩, ⟨hm14, hFqm14_1⟩, ⟨hm15, hFqm15_1⟩, hne⟩⟩), (by show va_P _ _ _ t.heap; rw [ht]; exact hP)⟩, hS.F ht⟩) hS.2.2 dX9_told_15
  · subst ei_dr
    refine lv_aload_n hx hb dX9_told_0 rfl (lv_at hl 0 rfl) ?_
    refine lv_iconst (v := 0) hx hb dX9_told_1 (by decide) ?_
    refine pg_put (ci := 8) (v := .int 0) (ty := .int) (C := RX9) (T := TX9) (N := 20) hx hb hts hinX9 tyX9 tyX9_ok nmX9 hown hK hP hD hS hmo hFo rfl 0 (by decide) (hts (.fieldLink RX9 61 "RopeDrumsModel" "thrown" "I") (by decide +kernel)) (fun _ h9 => h9) rfl (by decide +kernel) (rfl) (rfl) (Nat.le_of_ble_eq_true rfl) dX9_told_2 (fun H locs F4 eF4 hP hS => ?_)
    have eF4 : F4 = va_up F o (.inr (8, [.int 0, .ref (qm 0), .ref (qm 1), .ref (qm 2), .ref (qm 3), .ref (qm 4), .ref (qm 5), .ref (qm 6), .ref (qm 7), .int Pp.1, .ref (qm 8), .ref (qm 9), .ref (qm 10), .ref (qm 11), .ref (qm 12), .ref (qm 13), .ref (qm 14), .int Xx.1, .ref (qm 15), .long oc])) := eF4
    have hFo_4 : F4 o = .inr (8, [.int 0, .ref (qm 0), .ref (qm 1), .ref (qm 2), .ref (qm 3), .ref (qm 4), .ref (qm 5), .ref (qm 6), .ref (qm 7), .int Pp.1, .ref (qm 8), .ref (qm 9), .ref (qm 10), .ref (qm 11), .ref (qm 12), .ref (qm 13), .ref (qm 14), .int Xx.1, .ref (qm 15), .long oc]) := by rw [eF4]; exact va_up_self _ _ _
    have hFqm0_4 : F4 (qm 0) = cI (cy 1) 10 Mm.1 := by rw [eF4, va_up_ne _ _ (pl_ne hF0 hFo rfl)]; exact hF0
    have hFqm1_4 : F4 (qm 1) = cJ (cy 2) 10 Mm.2 := by rw [eF4, va_up_ne _ _ (pl_ne hF1 hFo rfl)]; exact hF1
    have hFqm2_4 : F4 (qm 2) = cD (cy 0) 6 Dd.1 := by rw [eF4, va_up_ne _ _ (pl_ne hF2 hFo rfl)]; exact hF2
    have hFqm3_4 : F4 (qm 3) = cD (cy 0) 6 Dd.2.1 := by rw [eF4, va_up_ne _ _ (pl_ne hF3 hFo rfl)]; exact hF3
    have hFqm4_4 : F4 (qm 4) = cD (cy 0) 6 Dd.2.2.1 := by rw [eF4, va_up_ne _ _ (pl_ne hF4 hFo rfl)]; exact hF4
    have hFqm5_4 : F4 (qm 5) = cJ (cy 2) 6 Dd.2.2.2 := by rw [eF4, va_up_ne _ _ (pl_ne hF5 hFo rfl)]; exact hF5
    have hFqm6_4 : F4 (qm 6) = cI (cy 1) 8 Sl.1 := by rw [eF4, va_up_ne _ _ (pl_ne hF6 hFo rfl)]; exact hF6
    have hFqm7_4 : F4 (qm 7) = cJ (cy 2) 128 Sl.2 := by rw [eF4, va_up_ne _ _ (pl_ne hF7 hFo rfl)]; exact hF7
    have hFqm8_4 : F4 (qm 8) = cI (cy 1) 30 Pp.2.1 := by rw [eF4, va_up_ne _ _ (pl_ne hF8 hFo rfl)]; exact hF8
    have hFqm9_4 : F4 (qm 9) = cI (cy 3) 30 Pp.2.2 := by rw [eF4, va_up_ne _ _ (pl_ne hF9 hFo rfl)]; exact hF9
    have hFqm10_4 : F4 (qm 10) = cI (cy 1) 5 Kr.1 := by rw [eF4, va_up_ne _ _ (pl_ne hF10 hFo rfl)]; exact hF10
    have hFqm11_4 : F4 (qm 11) = cI (cy 3) 5 Kr.2.1 := by rw [eF4, va_up_ne _ _ (pl_ne hF11 hFo rfl)]; exact hF11
    have hFqm12_4 : F4 (qm 12) = cI (cy 1) 60 Kr.2.2 := by rw [eF4, va_up_ne _ _ (pl_ne hF12 hFo rfl)]; exact hF12
    have hFqm13_4 : F4 (qm 13) = cI (cy 1) 4 Bk.1 := by rw [eF4, va_up_ne _ _ (pl_ne hF13 hFo rfl)]; exact hF13
    have hFqm14_4 : F4 (qm 14) = cD (cy 0) 4 Bk.2 := by rw [eF4, va_up_ne _ _ (pl_ne hF14 hFo rfl)]; exact hF14
    have hFqm15_4 : F4 (qm 15) = cI (cy 1) 6 Xx.2 := by rw [eF4, va_up_ne _ _ (pl_ne hF15 hFo rfl)]; exact hF15
    refine lv_iload_n hx hb dX9_told_5 rfl (lv_at hl 1 rfl) ?_
    refine vp_callSi (W.runS (As := [.int (nI j_dr)]) (rest := []) ⟨hx, hb, hml, hown, hts⟩ (c9_isDrum l (nI j_dr)) (va_cwS 1 hts gX9_told_X9_isDrum rfl rfl rfl (by decide +kernel) ⟨Nat.le_of_ble_eq_true rfl, Nat.le_of_ble_eq_true rfl⟩) (preS_of okT (trivial)) rfl rfl hl.1 rfl (lv_room (Nat.le_of_ble_eq_true rfl)) dX9_told_6 ⟨Nat.le_of_ble_eq_true rfl, Nat.le_of_ble_eq_true rfl⟩) (fun r5 hr5 => ?_)
    rw [isx1 hi_dr] at hr5
    subst hr5
    refine lv_if_ne (tgt := 16) hx hb dX9_told_9 (by decide) (fun c6 => ?_) (fun c6 => absurd c6 (by decide))
    refine lv_iload_n hx hb dX9_told_16 rfl (lv_at hl 2 rfl) ?_
    refine lv_tableIn (off := 41) (tgt := 58) hx hb dX9_told_17 (by decide) (by decide) (by decide) (by decide) ?_
    refine lv_aload_n hx hb dX9_told_58 rfl (lv_at hl 0 rfl) ?_
    refine pg_get (ci := 8) (C := RX9) (T := TX9) (N := 20) hx hb hts hinX9 hown hK hP hmo hFo_4 rfl 4 (by decide) (hts (.fieldLink RX9 21 "RopeDrumsModel" "at" "[D") (by decide +kernel)) (fun _ h9 => h9) rfl dX9_told_59 ?_
    refine lv_iload_n hx hb dX9_told_62 rfl (lv_at hl 1 rfl) ?_
    refine pg_dald hx hb hK hP 0 hm3 hFqm3_4 rfl (vp_in_nI (by omega) (by decide)) dX9_told_63 ?_
    refine lv_topd (fun v7 ev7 => ?_)
    rw [nI_clamp (by omega)] at ev7
    refine vp_callSl (W.runS (As := [.double v7]) (rest := []) ⟨hx, hb, hml, hown, hts⟩ (c9_d2lb l v7 (by rw [ev7]; exact ((hVD j_dr hj_dr).2.1.1).ne_nan)) (va_cwS 1 hts gX9_told_Jxe99ae_doubleToLongBits_ccdee rfl rfl rfl (by decide +kernel) ⟨Nat.le_of_ble_eq_true rfl, Nat.le_of_ble_eq_true rfl⟩) (preS_of okT (trivial)) rfl rfl hl.1 rfl (lv_room (Nat.le_of_ble_eq_true rfl)) dX9_told_64 ⟨Nat.le_of_ble_eq_true rfl, Nat.le_of_ble_eq_true rfl⟩) (fun r8 hr8 => ?_)
    exact W.lret (v := r8) hx hb hr (fun t ht hW => ⟨⟨r8, F4, rfl, (by subst hr8 ev7; exact ⟨by unfold sp_told; rw [hi_dr]; rfl, ⟨⟨_, _, hmo, hFo_4⟩, ⟨hm0, hFqm0_4⟩, ⟨hm1, hFqm1_4⟩, ⟨hm2, hFqm2_4⟩, ⟨hm3, hFqm3_4⟩, ⟨hm4, hFqm4_4⟩, ⟨hm5, hFqm5_4⟩, ⟨hm6, hFqm6_4⟩, ⟨hm7, hFqm7_4⟩, ⟨hm8, hFqm8_4⟩, ⟨hm9, hFqm9_4⟩, ⟨hm10, hFqm10_4⟩, ⟨hm11, hFqm11_4⟩, ⟨hm12, hFqm12_4⟩, ⟨hm13, hFqm13_4⟩, ⟨hm14, hFqm14_4⟩, ⟨hm15, hFqm15_4⟩, hne⟩⟩), (by show va_P _ _ _ t.heap; rw [ht]; exact hP)⟩, hS.F ht⟩) hS.2.2 dX9_told_67

set_option maxHeartbeats 8000000 in
set_option maxRecDepth 100000 in
theorem n_told_2 (l : Launch) (G : va_G) (cy : Nat → ClassId) (L : List Nat) (F : Nat → va_E) (sz : Nat) (o : Nat) (qm : Nat → Nat) (Mm : SM) (Dd : SD) (Sl : SL) (Pp : SP) (Kr : SR) (Bk : SB) (Xx : SX) (hR : RepM cy L o qm Mm Dd Sl Pp Kr Bk Xx F) (hV : Val Mm Dd Sl Pp Kr Bk) (dr : Int32)  : Met l yX9_told wsX9_told ({ frames := 2, cells := 0, slots := 0, locals := 45 }) (va_Pc [.ref o, .int dr, .int 2] (fun U => bQ G cy L F sz U U.heap)) (va_Ql (fun (r : Int64) (F' : Nat → va_E) => r = sp_told Dd dr 2 ∧ RepM cy L o qm Mm Dd Sl Pp Kr Bk Xx F') (fun F' t => va_P G vwCl (va_pl L F') t.heap) (va_A (va_pl L F) sz)) 0 0 (va_A (va_pl L F) sz) := by
  refine Met.ofW (cc := cX9_told) (maxL := 3) (ret := (some .long)) (by decide) rfl ?_
  intro p e s m args below meth c s₁ B hml hv
  obtain ⟨rfl, hsz, hP, hK, hD0⟩ := hv
  have hx := B.exec
  have hb := B.bytes
  have hr := B.returns
  have hts := atoms_spec (ws := wsX9_told) B.pre
  have hown : s.vm.findClass RX9 = some m.cls := findClass_of_methodNamed B.named
  have hlocks := B.notSynchronized
  have hinX9 : ∀ w ∈ wsX90, w ∈ wsX9_told := by decide +kernel
  subst hsz
  have hD := hD0.self F s.heap.size
  generalize hAe : va_A (va_pl L F) s.heap.size = A at hD ⊢
  have hA : ∀ q : Nat, s.heap.size ≤ q → A q := fun q h => by rw [← hAe]; exact Or.inr h
  have hS : va_S A s.heap s.heap [] := va_S.rf
  obtain ⟨⟨th, oc, hmo, hFo⟩, ⟨hm0, hF0⟩, ⟨hm1, hF1⟩, ⟨hm2, hF2⟩, ⟨hm3, hF3⟩, ⟨hm4, hF4⟩, ⟨hm5, hF5⟩, ⟨hm6, hF6⟩, ⟨hm7, hF7⟩, ⟨hm8, hF8⟩, ⟨hm9, hF9⟩, ⟨hm10, hF10⟩, ⟨hm11, hF11⟩, ⟨hm12, hF12⟩, ⟨hm13, hF13⟩, ⟨hm14, hF14⟩, ⟨hm15, hF15⟩, hne⟩ := id hR
  obtain ⟨hVM, hVD, hVS, hVP, hVK, hVB⟩ := hV
  have hl := lv_entry ([.ref o, .int dr, .int 2]) (n := 3) (Nat.le_of_ble_eq_true rfl)
  rw [lg_entry_eq]
  generalize (lg_sl ([.ref o, .int dr, .int 2]) ++ List.replicate (3 - (lg_sl ([.ref o, .int dr, .int 2])).length) Slot.unset).toArray = ls at hl ⊢
  have hl : lv_has ls 3 [(0, .ref o), (1, .int dr), (2, .int 2)] := hl
  rcases ixc 6 dr with hi_dr | ⟨j_dr, hj_dr, hi_dr, ei_dr⟩
  · refine lv_aload_n hx hb dX9_told_0 rfl (lv_at hl 0 rfl) ?_
    refine lv_iconst (v := 0) hx hb dX9_told_1 (by decide) ?_
    refine pg_put (ci := 8) (v := .int 0) (ty := .int) (C := RX9) (T := TX9) (N := 20) hx hb hts hinX9 tyX9 tyX9_ok nmX9 hown hK hP hD hS hmo hFo rfl 0 (by decide) (hts (.fieldLink RX9 61 "RopeDrumsModel" "thrown" "I") (by decide +kernel)) (fun _ h9 => h9) rfl (by decide +kernel) (rfl) (rfl) (Nat.le_of_ble_eq_true rfl) dX9_told_2 (fun H locs F1 eF1 hP hS => ?_)
    have eF1 : F1 = va_up F o (.inr (8, [.int 0, .ref (qm 0), .ref (qm 1), .ref (qm 2), .ref (qm 3), .ref (qm 4), .ref (qm 5), .ref (qm 6), .ref (qm 7), .int Pp.1, .ref (qm 8), .ref (qm 9), .ref (qm 10), .ref (qm 11), .ref (qm 12), .ref (qm 13), .ref (qm 14), .int Xx.1, .ref (qm 15), .long oc])) := eF1
    have hFo_1 : F1 o = .inr (8, [.int 0, .ref (qm 0), .ref (qm 1), .ref (qm 2), .ref (qm 3), .ref (qm 4), .ref (qm 5), .ref (qm 6), .ref (qm 7), .int Pp.1, .ref (qm 8), .ref (qm 9), .ref (qm 10), .ref (qm 11), .ref (qm 12), .ref (qm 13), .ref (qm 14), .int Xx.1, .ref (qm 15), .long oc]) := by rw [eF1]; exact va_up_self _ _ _
    have hFqm0_1 : F1 (qm 0) = cI (cy 1) 10 Mm.1 := by rw [eF1, va_up_ne _ _ (pl_ne hF0 hFo rfl)]; exact hF0
    have hFqm1_1 : F1 (qm 1) = cJ (cy 2) 10 Mm.2 := by rw [eF1, va_up_ne _ _ (pl_ne hF1 hFo rfl)]; exact hF1
    have hFqm2_1 : F1 (qm 2) = cD (cy 0) 6 Dd.1 := by rw [eF1, va_up_ne _ _ (pl_ne hF2 hFo rfl)]; exact hF2
    have hFqm3_1 : F1 (qm 3) = cD (cy 0) 6 Dd.2.1 := by rw [eF1, va_up_ne _ _ (pl_ne hF3 hFo rfl)]; exact hF3
    have hFqm4_1 : F1 (qm 4) = cD (cy 0) 6 Dd.2.2.1 := by rw [eF1, va_up_ne _ _ (pl_ne hF4 hFo rfl)]; exact hF4
    have hFqm5_1 : F1 (qm 5) = cJ (cy 2) 6 Dd.2.2.2 := by rw [eF1, va_up_ne _ _ (pl_ne hF5 hFo rfl)]; exact hF5
    have hFqm6_1 : F1 (qm 6) = cI (cy 1) 8 Sl.1 := by rw [eF1, va_up_ne _ _ (pl_ne hF6 hFo rfl)]; exact hF6
    have hFqm7_1 : F1 (qm 7) = cJ (cy 2) 128 Sl.2 := by rw [eF1, va_up_ne _ _ (pl_ne hF7 hFo rfl)]; exact hF7
    have hFqm8_1 : F1 (qm 8) = cI (cy 1) 30 Pp.2.1 := by rw [eF1, va_up_ne _ _ (pl_ne hF8 hFo rfl)]; exact hF8
    have hFqm9_1 : F1 (qm 9) = cI (cy 3) 30 Pp.2.2 := by rw [eF1, va_up_ne _ _ (pl_ne hF9 hFo rfl)]; exact hF9
    have hFqm10_1 : F1 (qm 10) = cI (cy 1) 5 Kr.1 := by rw [eF1, va_up_ne _ _ (pl_ne hF10 hFo rfl)]; exact hF10
    have hFqm11_1 : F1 (qm 11) = cI (cy 3) 5 Kr.2.1 := by rw [eF1, va_up_ne _ _ (pl_ne hF11 hFo rfl)]; exact hF11
    have hFqm12_1 : F1 (qm 12) = cI (cy 1) 60 Kr.2.2 := by rw [eF1, va_up_ne _ _ (pl_ne hF12 hFo rfl)]; exact hF12
    have hFqm13_1 : F1 (qm 13) = cI (cy 1) 4 Bk.1 := by rw [eF1, va_up_ne _ _ (pl_ne hF13 hFo rfl)]; exact hF13
    have hFqm14_1 : F1 (qm 14) = cD (cy 0) 4 Bk.2 := by rw [eF1, va_up_ne _ _ (pl_ne hF14 hFo rfl)]; exact hF14
    have hFqm15_1 : F1 (qm 15) = cI (cy 1) 6 Xx.2 := by rw [eF1, va_up_ne _ _ (pl_ne hF15 hFo rfl)]; exact hF15
    refine lv_iload_n hx hb dX9_told_5 rfl (lv_at hl 1 rfl) ?_
    refine vp_callSi (W.runS (As := [.int dr]) (rest := []) ⟨hx, hb, hml, hown, hts⟩ (c9_isDrum l dr) (va_cwS 1 hts gX9_told_X9_isDrum rfl rfl rfl (by decide +kernel) ⟨Nat.le_of_ble_eq_true rfl, Nat.le_of_ble_eq_true rfl⟩) (preS_of okT (trivial)) rfl rfl hl.1 rfl (lv_room (Nat.le_of_ble_eq_true rfl)) dX9_told_6 ⟨Nat.le_of_ble_eq_true rfl, Nat.le_of_ble_eq_true rfl⟩) (fun r2 hr2 => ?_)
    rw [isx0 hi_dr] at hr2
    subst hr2
    refine lv_if_ne (tgt := 16) hx hb dX9_told_9 (by decide) (fun c3 => absurd (by decide) c3) (fun c3 => ?_)
    refine lv_ldc2 hx hb hown (hts (.constantLong RX9 129 (-1001)) (by decide +kernel)) dX9_told_12 ?_
    exact W.lret (v := -1001) hx hb hr (fun t ht hW => ⟨⟨-1001, F1, rfl, (by exact ⟨by unfold sp_told; rw [hi_dr], ⟨⟨_, _, hmo, hFo_1⟩, ⟨hm0, hFqm0_1⟩, ⟨hm1, hFqm1_1⟩, ⟨hm2, hFqm2_1⟩, ⟨hm3, hFqm3_1⟩, ⟨hm4, hFqm4_1⟩, ⟨hm5, hFqm5_1⟩, ⟨hm6, hFqm6_1⟩, ⟨hm7, hFqm7_1⟩, ⟨hm8, hFqm8_1⟩, ⟨hm9, hFqm9_1⟩, ⟨hm10, hFqm10_1⟩, ⟨hm11, hFqm11_1⟩, ⟨hm12, hFqm12_1⟩, ⟨hm13, hFqm13_1⟩, ⟨hm14, hFqm14_1⟩, ⟨hm15, hFqm15_1⟩, hne⟩⟩), (by show va_P _ _ _ t.heap; rw [ht]; exact hP)⟩, hS.F ht⟩) hS.2.2 dX9_told_15
  · subst ei_dr
    refine lv_aload_n hx hb dX9_told_0 rfl (lv_at hl 0 rfl) ?_
    refine lv_iconst (v := 0) hx hb dX9_told_1 (by decide) ?_
    refine pg_put (ci := 8) (v := .int 0) (ty := .int) (C := RX9) (T := TX9) (N := 20) hx hb hts hinX9 tyX9 tyX9_ok nmX9 hown hK hP hD hS hmo hFo rfl 0 (by decide) (hts (.fieldLink RX9 61 "RopeDrumsModel" "thrown" "I") (by decide +kernel)) (fun _ h9 => h9) rfl (by decide +kernel) (rfl) (rfl) (Nat.le_of_ble_eq_true rfl) dX9_told_2 (fun H locs F4 eF4 hP hS => ?_)
    have eF4 : F4 = va_up F o (.inr (8, [.int 0, .ref (qm 0), .ref (qm 1), .ref (qm 2), .ref (qm 3), .ref (qm 4), .ref (qm 5), .ref (qm 6), .ref (qm 7), .int Pp.1, .ref (qm 8), .ref (qm 9), .ref (qm 10), .ref (qm 11), .ref (qm 12), .ref (qm 13), .ref (qm 14), .int Xx.1, .ref (qm 15), .long oc])) := eF4
    have hFo_4 : F4 o = .inr (8, [.int 0, .ref (qm 0), .ref (qm 1), .ref (qm 2), .ref (qm 3), .ref (qm 4), .ref (qm 5), .ref (qm 6), .ref (qm 7), .int Pp.1, .ref (qm 8), .ref (qm 9), .ref (qm 10), .ref (qm 11), .ref (qm 12), .ref (qm 13), .ref (qm 14), .int Xx.1, .ref (qm 15), .long oc]) := by rw [eF4]; exact va_up_self _ _ _
    have hFqm0_4 : F4 (qm 0) = cI (cy 1) 10 Mm.1 := by rw [eF4, va_up_ne _ _ (pl_ne hF0 hFo rfl)]; exact hF0
    have hFqm1_4 : F4 (qm 1) = cJ (cy 2) 10 Mm.2 := by rw [eF4, va_up_ne _ _ (pl_ne hF1 hFo rfl)]; exact hF1
    have hFqm2_4 : F4 (qm 2) = cD (cy 0) 6 Dd.1 := by rw [eF4, va_up_ne _ _ (pl_ne hF2 hFo rfl)]; exact hF2
    have hFqm3_4 : F4 (qm 3) = cD (cy 0) 6 Dd.2.1 := by rw [eF4, va_up_ne _ _ (pl_ne hF3 hFo rfl)]; exact hF3
    have hFqm4_4 : F4 (qm 4) = cD (cy 0) 6 Dd.2.2.1 := by rw [eF4, va_up_ne _ _ (pl_ne hF4 hFo rfl)]; exact hF4
    have hFqm5_4 : F4 (qm 5) = cJ (cy 2) 6 Dd.2.2.2 := by rw [eF4, va_up_ne _ _ (pl_ne hF5 hFo rfl)]; exact hF5
    have hFqm6_4 : F4 (qm 6) = cI (cy 1) 8 Sl.1 := by rw [eF4, va_up_ne _ _ (pl_ne hF6 hFo rfl)]; exact hF6
    have hFqm7_4 : F4 (qm 7) = cJ (cy 2) 128 Sl.2 := by rw [eF4, va_up_ne _ _ (pl_ne hF7 hFo rfl)]; exact hF7
    have hFqm8_4 : F4 (qm 8) = cI (cy 1) 30 Pp.2.1 := by rw [eF4, va_up_ne _ _ (pl_ne hF8 hFo rfl)]; exact hF8
    have hFqm9_4 : F4 (qm 9) = cI (cy 3) 30 Pp.2.2 := by rw [eF4, va_up_ne _ _ (pl_ne hF9 hFo rfl)]; exact hF9
    have hFqm10_4 : F4 (qm 10) = cI (cy 1) 5 Kr.1 := by rw [eF4, va_up_ne _ _ (pl_ne hF10 hFo rfl)]; exact hF10
    have hFqm11_4 : F4 (qm 11) = cI (cy 3) 5 Kr.2.1 := by rw [eF4, va_up_ne _ _ (pl_ne hF11 hFo rfl)]; exact hF11
    have hFqm12_4 : F4 (qm 12) = cI (cy 1) 60 Kr.2.2 := by rw [eF4, va_up_ne _ _ (pl_ne hF12 hFo rfl)]; exact hF12
    have hFqm13_4 : F4 (qm 13) = cI (cy 1) 4 Bk.1 := by rw [eF4, va_up_ne _ _ (pl_ne hF13 hFo rfl)]; exact hF13
    have hFqm14_4 : F4 (qm 14) = cD (cy 0) 4 Bk.2 := by rw [eF4, va_up_ne _ _ (pl_ne hF14 hFo rfl)]; exact hF14
    have hFqm15_4 : F4 (qm 15) = cI (cy 1) 6 Xx.2 := by rw [eF4, va_up_ne _ _ (pl_ne hF15 hFo rfl)]; exact hF15
    refine lv_iload_n hx hb dX9_told_5 rfl (lv_at hl 1 rfl) ?_
    refine vp_callSi (W.runS (As := [.int (nI j_dr)]) (rest := []) ⟨hx, hb, hml, hown, hts⟩ (c9_isDrum l (nI j_dr)) (va_cwS 1 hts gX9_told_X9_isDrum rfl rfl rfl (by decide +kernel) ⟨Nat.le_of_ble_eq_true rfl, Nat.le_of_ble_eq_true rfl⟩) (preS_of okT (trivial)) rfl rfl hl.1 rfl (lv_room (Nat.le_of_ble_eq_true rfl)) dX9_told_6 ⟨Nat.le_of_ble_eq_true rfl, Nat.le_of_ble_eq_true rfl⟩) (fun r5 hr5 => ?_)
    rw [isx1 hi_dr] at hr5
    subst hr5
    refine lv_if_ne (tgt := 16) hx hb dX9_told_9 (by decide) (fun c6 => ?_) (fun c6 => absurd c6 (by decide))
    refine lv_iload_n hx hb dX9_told_16 rfl (lv_at hl 2 rfl) ?_
    refine lv_tableIn (off := 51) (tgt := 68) hx hb dX9_told_17 (by decide) (by decide) (by decide) (by decide) ?_
    refine lv_aload_n hx hb dX9_told_68 rfl (lv_at hl 0 rfl) ?_
    refine pg_get (ci := 8) (C := RX9) (T := TX9) (N := 20) hx hb hts hinX9 hown hK hP hmo hFo_4 rfl 5 (by decide) (hts (.fieldLink RX9 24 "RopeDrumsModel" "rope" "[D") (by decide +kernel)) (fun _ h9 => h9) rfl dX9_told_69 ?_
    refine lv_iload_n hx hb dX9_told_72 rfl (lv_at hl 1 rfl) ?_
    refine pg_dald hx hb hK hP 0 hm4 hFqm4_4 rfl (vp_in_nI (by omega) (by decide)) dX9_told_73 ?_
    refine lv_topd (fun v7 ev7 => ?_)
    rw [nI_clamp (by omega)] at ev7
    refine vp_callSl (W.runS (As := [.double v7]) (rest := []) ⟨hx, hb, hml, hown, hts⟩ (c9_d2lb l v7 (by rw [ev7]; exact (hVD j_dr hj_dr).2.2)) (va_cwS 1 hts gX9_told_Jxe99ae_doubleToLongBits_ccdee rfl rfl rfl (by decide +kernel) ⟨Nat.le_of_ble_eq_true rfl, Nat.le_of_ble_eq_true rfl⟩) (preS_of okT (trivial)) rfl rfl hl.1 rfl (lv_room (Nat.le_of_ble_eq_true rfl)) dX9_told_74 ⟨Nat.le_of_ble_eq_true rfl, Nat.le_of_ble_eq_true rfl⟩) (fun r8 hr8 => ?_)
    exact W.lret (v := r8) hx hb hr (fun t ht hW => ⟨⟨r8, F4, rfl, (by subst hr8 ev7; exact ⟨by unfold sp_told; rw [hi_dr]; rfl, ⟨⟨_, _, hmo, hFo_4⟩, ⟨hm0, hFqm0_4⟩, ⟨hm1, hFqm1_4⟩, ⟨hm2, hFqm2_4⟩, ⟨hm3, hFqm3_4⟩, ⟨hm4, hFqm4_4⟩, ⟨hm5, hFqm5_4⟩, ⟨hm6, hFqm6_4⟩, ⟨hm7, hFqm7_4⟩, ⟨hm8, hFqm8_4⟩, ⟨hm9, hFqm9_4⟩, ⟨hm10, hFqm10_4⟩, ⟨hm11, hFqm11_4⟩, ⟨hm12, hFqm12_4⟩, ⟨hm13, hFqm13_4⟩, ⟨hm14, hFqm14_4⟩, ⟨hm15, hFqm15_4⟩, hne⟩⟩), (by show va_P _ _ _ t.heap; rw [ht]; exact hP)⟩, hS.F ht⟩) hS.2.2 dX9_told_77

set_option maxHeartbeats 8000000 in
set_option maxRecDepth 100000 in
theorem n_told_3 (l : Launch) (G : va_G) (cy : Nat → ClassId) (L : List Nat) (F : Nat → va_E) (sz : Nat) (o : Nat) (qm : Nat → Nat) (Mm : SM) (Dd : SD) (Sl : SL) (Pp : SP) (Kr : SR) (Bk : SB) (Xx : SX) (hR : RepM cy L o qm Mm Dd Sl Pp Kr Bk Xx F) (hV : Val Mm Dd Sl Pp Kr Bk) (dr : Int32)  : Met l yX9_told wsX9_told ({ frames := 2, cells := 0, slots := 0, locals := 45 }) (va_Pc [.ref o, .int dr, .int 3] (fun U => bQ G cy L F sz U U.heap)) (va_Ql (fun (r : Int64) (F' : Nat → va_E) => r = sp_told Dd dr 3 ∧ RepM cy L o qm Mm Dd Sl Pp Kr Bk Xx F') (fun F' t => va_P G vwCl (va_pl L F') t.heap) (va_A (va_pl L F) sz)) 0 0 (va_A (va_pl L F) sz) := by
  refine Met.ofW (cc := cX9_told) (maxL := 3) (ret := (some .long)) (by decide) rfl ?_
  intro p e s m args below meth c s₁ B hml hv
  obtain ⟨rfl, hsz, hP, hK, hD0⟩ := hv
  have hx := B.exec
  have hb := B.bytes
  have hr := B.returns
  have hts := atoms_spec (ws := wsX9_told) B.pre
  have hown : s.vm.findClass RX9 = some m.cls := findClass_of_methodNamed B.named
  have hlocks := B.notSynchronized
  have hinX9 : ∀ w ∈ wsX90, w ∈ wsX9_told := by decide +kernel
  subst hsz
  have hD := hD0.self F s.heap.size
  generalize hAe : va_A (va_pl L F) s.heap.size = A at hD ⊢
  have hA : ∀ q : Nat, s.heap.size ≤ q → A q := fun q h => by rw [← hAe]; exact Or.inr h
  have hS : va_S A s.heap s.heap [] := va_S.rf
  obtain ⟨⟨th, oc, hmo, hFo⟩, ⟨hm0, hF0⟩, ⟨hm1, hF1⟩, ⟨hm2, hF2⟩, ⟨hm3, hF3⟩, ⟨hm4, hF4⟩, ⟨hm5, hF5⟩, ⟨hm6, hF6⟩, ⟨hm7, hF7⟩, ⟨hm8, hF8⟩, ⟨hm9, hF9⟩, ⟨hm10, hF10⟩, ⟨hm11, hF11⟩, ⟨hm12, hF12⟩, ⟨hm13, hF13⟩, ⟨hm14, hF14⟩, ⟨hm15, hF15⟩, hne⟩ := id hR
  obtain ⟨hVM, hVD, hVS, hVP, hVK, hVB⟩ := hV
  have hl := lv_entry ([.ref o, .int dr, .int 3]) (n := 3) (Nat.le_of_ble_eq_true rfl)
  rw [lg_entry_eq]
  generalize (lg_sl ([.ref o, .int dr, .int 3]) ++ List.replicate (3 - (lg_sl ([.ref o, .int dr, .int 3])).length) Slot.unset).toArray = ls at hl ⊢
  have hl : lv_has ls 3 [(0, .ref o), (1, .int dr), (2, .int 3)] := hl
  rcases ixc 6 dr with hi_dr | ⟨j_dr, hj_dr, hi_dr, ei_dr⟩
  · refine lv_aload_n hx hb dX9_told_0 rfl (lv_at hl 0 rfl) ?_
    refine lv_iconst (v := 0) hx hb dX9_told_1 (by decide) ?_
    refine pg_put (ci := 8) (v := .int 0) (ty := .int) (C := RX9) (T := TX9) (N := 20) hx hb hts hinX9 tyX9 tyX9_ok nmX9 hown hK hP hD hS hmo hFo rfl 0 (by decide) (hts (.fieldLink RX9 61 "RopeDrumsModel" "thrown" "I") (by decide +kernel)) (fun _ h9 => h9) rfl (by decide +kernel) (rfl) (rfl) (Nat.le_of_ble_eq_true rfl) dX9_told_2 (fun H locs F1 eF1 hP hS => ?_)
    have eF1 : F1 = va_up F o (.inr (8, [.int 0, .ref (qm 0), .ref (qm 1), .ref (qm 2), .ref (qm 3), .ref (qm 4), .ref (qm 5), .ref (qm 6), .ref (qm 7), .int Pp.1, .ref (qm 8), .ref (qm 9), .ref (qm 10), .ref (qm 11), .ref (qm 12), .ref (qm 13), .ref (qm 14), .int Xx.1, .ref (qm 15), .long oc])) := eF1
    have hFo_1 : F1 o = .inr (8, [.int 0, .ref (qm 0), .ref (qm 1), .ref (qm 2), .ref (qm 3), .ref (qm 4), .ref (qm 5), .ref (qm 6), .ref (qm 7), .int Pp.1, .ref (qm 8), .ref (qm 9), .ref (qm 10), .ref (qm 11), .ref (qm 12), .ref (qm 13), .ref (qm 14), .int Xx.1, .ref (qm 15), .long oc]) := by rw [eF1]; exact va_up_self _ _ _
    have hFqm0_1 : F1 (qm 0) = cI (cy 1) 10 Mm.1 := by rw [eF1, va_up_ne _ _ (pl_ne hF0 hFo rfl)]; exact hF0
    have hFqm1_1 : F1 (qm 1) = cJ (cy 2) 10 Mm.2 := by rw [eF1, va_up_ne _ _ (pl_ne hF1 hFo rfl)]; exact hF1
    have hFqm2_1 : F1 (qm 2) = cD (cy 0) 6 Dd.1 := by rw [eF1, va_up_ne _ _ (pl_ne hF2 hFo rfl)]; exact hF2
    have hFqm3_1 : F1 (qm 3) = cD (cy 0) 6 Dd.2.1 := by rw [eF1, va_up_ne _ _ (pl_ne hF3 hFo rfl)]; exact hF3
    have hFqm4_1 : F1 (qm 4) = cD (cy 0) 6 Dd.2.2.1 := by rw [eF1, va_up_ne _ _ (pl_ne hF4 hFo rfl)]; exact hF4
    have hFqm5_1 : F1 (qm 5) = cJ (cy 2) 6 Dd.2.2.2 := by rw [eF1, va_up_ne _ _ (pl_ne hF5 hFo rfl)]; exact hF5
    have hFqm6_1 : F1 (qm 6) = cI (cy 1) 8 Sl.1 := by rw [eF1, va_up_ne _ _ (pl_ne hF6 hFo rfl)]; exact hF6
    have hFqm7_1 : F1 (qm 7) = cJ (cy 2) 128 Sl.2 := by rw [eF1, va_up_ne _ _ (pl_ne hF7 hFo rfl)]; exact hF7
    have hFqm8_1 : F1 (qm 8) = cI (cy 1) 30 Pp.2.1 := by rw [eF1, va_up_ne _ _ (pl_ne hF8 hFo rfl)]; exact hF8
    have hFqm9_1 : F1 (qm 9) = cI (cy 3) 30 Pp.2.2 := by rw [eF1, va_up_ne _ _ (pl_ne hF9 hFo rfl)]; exact hF9
    have hFqm10_1 : F1 (qm 10) = cI (cy 1) 5 Kr.1 := by rw [eF1, va_up_ne _ _ (pl_ne hF10 hFo rfl)]; exact hF10
    have hFqm11_1 : F1 (qm 11) = cI (cy 3) 5 Kr.2.1 := by rw [eF1, va_up_ne _ _ (pl_ne hF11 hFo rfl)]; exact hF11
    have hFqm12_1 : F1 (qm 12) = cI (cy 1) 60 Kr.2.2 := by rw [eF1, va_up_ne _ _ (pl_ne hF12 hFo rfl)]; exact hF12
    have hFqm13_1 : F1 (qm 13) = cI (cy 1) 4 Bk.1 := by rw [eF1, va_up_ne _ _ (pl_ne hF13 hFo rfl)]; exact hF13
    have hFqm14_1 : F1 (qm 14) = cD (cy 0) 4 Bk.2 := by rw [eF1, va_up_ne _ _ (pl_ne hF14 hFo rfl)]; exact hF14
    have hFqm15_1 : F1 (qm 15) = cI (cy 1) 6 Xx.2 := by rw [eF1, va_up_ne _ _ (pl_ne hF15 hFo rfl)]; exact hF15
    refine lv_iload_n hx hb dX9_told_5 rfl (lv_at hl 1 rfl) ?_
    refine vp_callSi (W.runS (As := [.int dr]) (rest := []) ⟨hx, hb, hml, hown, hts⟩ (c9_isDrum l dr) (va_cwS 1 hts gX9_told_X9_isDrum rfl rfl rfl (by decide +kernel) ⟨Nat.le_of_ble_eq_true rfl, Nat.le_of_ble_eq_true rfl⟩) (preS_of okT (trivial)) rfl rfl hl.1 rfl (lv_room (Nat.le_of_ble_eq_true rfl)) dX9_told_6 ⟨Nat.le_of_ble_eq_true rfl, Nat.le_of_ble_eq_true rfl⟩) (fun r2 hr2 => ?_)
    rw [isx0 hi_dr] at hr2
    subst hr2
    refine lv_if_ne (tgt := 16) hx hb dX9_told_9 (by decide) (fun c3 => absurd (by decide) c3) (fun c3 => ?_)
    refine lv_ldc2 hx hb hown (hts (.constantLong RX9 129 (-1001)) (by decide +kernel)) dX9_told_12 ?_
    exact W.lret (v := -1001) hx hb hr (fun t ht hW => ⟨⟨-1001, F1, rfl, (by exact ⟨by unfold sp_told; rw [hi_dr], ⟨⟨_, _, hmo, hFo_1⟩, ⟨hm0, hFqm0_1⟩, ⟨hm1, hFqm1_1⟩, ⟨hm2, hFqm2_1⟩, ⟨hm3, hFqm3_1⟩, ⟨hm4, hFqm4_1⟩, ⟨hm5, hFqm5_1⟩, ⟨hm6, hFqm6_1⟩, ⟨hm7, hFqm7_1⟩, ⟨hm8, hFqm8_1⟩, ⟨hm9, hFqm9_1⟩, ⟨hm10, hFqm10_1⟩, ⟨hm11, hFqm11_1⟩, ⟨hm12, hFqm12_1⟩, ⟨hm13, hFqm13_1⟩, ⟨hm14, hFqm14_1⟩, ⟨hm15, hFqm15_1⟩, hne⟩⟩), (by show va_P _ _ _ t.heap; rw [ht]; exact hP)⟩, hS.F ht⟩) hS.2.2 dX9_told_15
  · subst ei_dr
    refine lv_aload_n hx hb dX9_told_0 rfl (lv_at hl 0 rfl) ?_
    refine lv_iconst (v := 0) hx hb dX9_told_1 (by decide) ?_
    refine pg_put (ci := 8) (v := .int 0) (ty := .int) (C := RX9) (T := TX9) (N := 20) hx hb hts hinX9 tyX9 tyX9_ok nmX9 hown hK hP hD hS hmo hFo rfl 0 (by decide) (hts (.fieldLink RX9 61 "RopeDrumsModel" "thrown" "I") (by decide +kernel)) (fun _ h9 => h9) rfl (by decide +kernel) (rfl) (rfl) (Nat.le_of_ble_eq_true rfl) dX9_told_2 (fun H locs F4 eF4 hP hS => ?_)
    have eF4 : F4 = va_up F o (.inr (8, [.int 0, .ref (qm 0), .ref (qm 1), .ref (qm 2), .ref (qm 3), .ref (qm 4), .ref (qm 5), .ref (qm 6), .ref (qm 7), .int Pp.1, .ref (qm 8), .ref (qm 9), .ref (qm 10), .ref (qm 11), .ref (qm 12), .ref (qm 13), .ref (qm 14), .int Xx.1, .ref (qm 15), .long oc])) := eF4
    have hFo_4 : F4 o = .inr (8, [.int 0, .ref (qm 0), .ref (qm 1), .ref (qm 2), .ref (qm 3), .ref (qm 4), .ref (qm 5), .ref (qm 6), .ref (qm 7), .int Pp.1, .ref (qm 8), .ref (qm 9), .ref (qm 10), .ref (qm 11), .ref (qm 12), .ref (qm 13), .ref (qm 14), .int Xx.1, .ref (qm 15), .long oc]) := by rw [eF4]; exact va_up_self _ _ _
    have hFqm0_4 : F4 (qm 0) = cI (cy 1) 10 Mm.1 := by rw [eF4, va_up_ne _ _ (pl_ne hF0 hFo rfl)]; exact hF0
    have hFqm1_4 : F4 (qm 1) = cJ (cy 2) 10 Mm.2 := by rw [eF4, va_up_ne _ _ (pl_ne hF1 hFo rfl)]; exact hF1
    have hFqm2_4 : F4 (qm 2) = cD (cy 0) 6 Dd.1 := by rw [eF4, va_up_ne _ _ (pl_ne hF2 hFo rfl)]; exact hF2
    have hFqm3_4 : F4 (qm 3) = cD (cy 0) 6 Dd.2.1 := by rw [eF4, va_up_ne _ _ (pl_ne hF3 hFo rfl)]; exact hF3
    have hFqm4_4 : F4 (qm 4) = cD (cy 0) 6 Dd.2.2.1 := by rw [eF4, va_up_ne _ _ (pl_ne hF4 hFo rfl)]; exact hF4
    have hFqm5_4 : F4 (qm 5) = cJ (cy 2) 6 Dd.2.2.2 := by rw [eF4, va_up_ne _ _ (pl_ne hF5 hFo rfl)]; exact hF5
    have hFqm6_4 : F4 (qm 6) = cI (cy 1) 8 Sl.1 := by rw [eF4, va_up_ne _ _ (pl_ne hF6 hFo rfl)]; exact hF6
    have hFqm7_4 : F4 (qm 7) = cJ (cy 2) 128 Sl.2 := by rw [eF4, va_up_ne _ _ (pl_ne hF7 hFo rfl)]; exact hF7
    have hFqm8_4 : F4 (qm 8) = cI (cy 1) 30 Pp.2.1 := by rw [eF4, va_up_ne _ _ (pl_ne hF8 hFo rfl)]; exact hF8
    have hFqm9_4 : F4 (qm 9) = cI (cy 3) 30 Pp.2.2 := by rw [eF4, va_up_ne _ _ (pl_ne hF9 hFo rfl)]; exact hF9
    have hFqm10_4 : F4 (qm 10) = cI (cy 1) 5 Kr.1 := by rw [eF4, va_up_ne _ _ (pl_ne hF10 hFo rfl)]; exact hF10
    have hFqm11_4 : F4 (qm 11) = cI (cy 3) 5 Kr.2.1 := by rw [eF4, va_up_ne _ _ (pl_ne hF11 hFo rfl)]; exact hF11
    have hFqm12_4 : F4 (qm 12) = cI (cy 1) 60 Kr.2.2 := by rw [eF4, va_up_ne _ _ (pl_ne hF12 hFo rfl)]; exact hF12
    have hFqm13_4 : F4 (qm 13) = cI (cy 1) 4 Bk.1 := by rw [eF4, va_up_ne _ _ (pl_ne hF13 hFo rfl)]; exact hF13
    have hFqm14_4 : F4 (qm 14) = cD (cy 0) 4 Bk.2 := by rw [eF4, va_up_ne _ _ (pl_ne hF14 hFo rfl)]; exact hF14
    have hFqm15_4 : F4 (qm 15) = cI (cy 1) 6 Xx.2 := by rw [eF4, va_up_ne _ _ (pl_ne hF15 hFo rfl)]; exact hF15
    refine lv_iload_n hx hb dX9_told_5 rfl (lv_at hl 1 rfl) ?_
    refine vp_callSi (W.runS (As := [.int (nI j_dr)]) (rest := []) ⟨hx, hb, hml, hown, hts⟩ (c9_isDrum l (nI j_dr)) (va_cwS 1 hts gX9_told_X9_isDrum rfl rfl rfl (by decide +kernel) ⟨Nat.le_of_ble_eq_true rfl, Nat.le_of_ble_eq_true rfl⟩) (preS_of okT (trivial)) rfl rfl hl.1 rfl (lv_room (Nat.le_of_ble_eq_true rfl)) dX9_told_6 ⟨Nat.le_of_ble_eq_true rfl, Nat.le_of_ble_eq_true rfl⟩) (fun r5 hr5 => ?_)
    rw [isx1 hi_dr] at hr5
    subst hr5
    refine lv_if_ne (tgt := 16) hx hb dX9_told_9 (by decide) (fun c6 => ?_) (fun c6 => absurd c6 (by decide))
    refine lv_iload_n hx hb dX9_told_16 rfl (lv_at hl 2 rfl) ?_
    refine lv_tableIn (off := 61) (tgt := 78) hx hb dX9_told_17 (by decide) (by decide) (by decide) (by decide) ?_
    refine lv_aload_n hx hb dX9_told_78 rfl (lv_at hl 0 rfl) ?_
    refine pg_get (ci := 8) (C := RX9) (T := TX9) (N := 20) hx hb hts hinX9 hown hK hP hmo hFo_4 rfl 6 (by decide) (hts (.fieldLink RX9 27 "RopeDrumsModel" "turns" "[J") (by decide +kernel)) (fun _ h9 => h9) rfl dX9_told_79 ?_
    refine lv_iload_n hx hb dX9_told_82 rfl (lv_at hl 1 rfl) ?_
    refine pg_lald hx hb hK hP 2 hm5 hFqm5_4 rfl (vp_in_nI (by omega) (by decide)) dX9_told_83 ?_
    refine lv_topl (fun v7 ev7 => ?_)
    rw [nI_clamp (by omega)] at ev7
    exact W.lret (v := v7) hx hb hr (fun t ht hW => ⟨⟨v7, F4, rfl, (by subst ev7; exact ⟨by unfold sp_told; rw [hi_dr]; rfl, ⟨⟨_, _, hmo, hFo_4⟩, ⟨hm0, hFqm0_4⟩, ⟨hm1, hFqm1_4⟩, ⟨hm2, hFqm2_4⟩, ⟨hm3, hFqm3_4⟩, ⟨hm4, hFqm4_4⟩, ⟨hm5, hFqm5_4⟩, ⟨hm6, hFqm6_4⟩, ⟨hm7, hFqm7_4⟩, ⟨hm8, hFqm8_4⟩, ⟨hm9, hFqm9_4⟩, ⟨hm10, hFqm10_4⟩, ⟨hm11, hFqm11_4⟩, ⟨hm12, hFqm12_4⟩, ⟨hm13, hFqm13_4⟩, ⟨hm14, hFqm14_4⟩, ⟨hm15, hFqm15_4⟩, hne⟩⟩), (by show va_P _ _ _ t.heap; rw [ht]; exact hP)⟩, hS.F ht⟩) hS.2.2 dX9_told_84

set_option maxHeartbeats 8000000 in
set_option maxRecDepth 100000 in
theorem n_told_no (l : Launch) (G : va_G) (cy : Nat → ClassId) (L : List Nat) (F : Nat → va_E) (sz : Nat) (o : Nat) (qm : Nat → Nat) (Mm : SM) (Dd : SD) (Sl : SL) (Pp : SP) (Kr : SR) (Bk : SB) (Xx : SX) (hR : RepM cy L o qm Mm Dd Sl Pp Kr Bk Xx F) (hV : Val Mm Dd Sl Pp Kr Bk) (dr w : Int32) (hw : ¬ w = 0 ∧ ¬ w = 1 ∧ ¬ w = 2 ∧ ¬ w = 3)  : Met l yX9_told wsX9_told ({ frames := 2, cells := 0, slots := 0, locals := 45 }) (va_Pc [.ref o, .int dr, .int w] (fun U => bQ G cy L F sz U U.heap)) (va_Ql (fun (r : Int64) (F' : Nat → va_E) => r = sp_told Dd dr w ∧ RepM cy L o qm Mm Dd Sl Pp Kr Bk Xx F') (fun F' t => va_P G vwCl (va_pl L F') t.heap) (va_A (va_pl L F) sz)) 0 0 (va_A (va_pl L F) sz) := by
  refine Met.ofW (cc := cX9_told) (maxL := 3) (ret := (some .long)) (by decide) rfl ?_
  intro p e s m args below meth c s₁ B hml hv
  obtain ⟨rfl, hsz, hP, hK, hD0⟩ := hv
  have hx := B.exec
  have hb := B.bytes
  have hr := B.returns
  have hts := atoms_spec (ws := wsX9_told) B.pre
  have hown : s.vm.findClass RX9 = some m.cls := findClass_of_methodNamed B.named
  have hlocks := B.notSynchronized
  have hinX9 : ∀ w ∈ wsX90, w ∈ wsX9_told := by decide +kernel
  subst hsz
  have hD := hD0.self F s.heap.size
  generalize hAe : va_A (va_pl L F) s.heap.size = A at hD ⊢
  have hA : ∀ q : Nat, s.heap.size ≤ q → A q := fun q h => by rw [← hAe]; exact Or.inr h
  have hS : va_S A s.heap s.heap [] := va_S.rf
  obtain ⟨⟨th, oc, hmo, hFo⟩, ⟨hm0, hF0⟩, ⟨hm1, hF1⟩, ⟨hm2, hF2⟩, ⟨hm3, hF3⟩, ⟨hm4, hF4⟩, ⟨hm5, hF5⟩, ⟨hm6, hF6⟩, ⟨hm7, hF7⟩, ⟨hm8, hF8⟩, ⟨hm9, hF9⟩, ⟨hm10, hF10⟩, ⟨hm11, hF11⟩, ⟨hm12, hF12⟩, ⟨hm13, hF13⟩, ⟨hm14, hF14⟩, ⟨hm15, hF15⟩, hne⟩ := id hR
  obtain ⟨hVM, hVD, hVS, hVP, hVK, hVB⟩ := hV
  have hl := lv_entry ([.ref o, .int dr, .int w]) (n := 3) (Nat.le_of_ble_eq_true rfl)
  rw [lg_entry_eq]
  generalize (lg_sl ([.ref o, .int dr, .int w]) ++ List.replicate (3 - (lg_sl ([.ref o, .int dr, .int w])).length) Slot.unset).toArray = ls at hl ⊢
  have hl : lv_has ls 3 [(0, .ref o), (1, .int dr), (2, .int w)] := hl
  rcases ixc 6 dr with hi_dr | ⟨j_dr, hj_dr, hi_dr, ei_dr⟩
  · refine lv_aload_n hx hb dX9_told_0 rfl (lv_at hl 0 rfl) ?_
    refine lv_iconst (v := 0) hx hb dX9_told_1 (by decide) ?_
    refine pg_put (ci := 8) (v := .int 0) (ty := .int) (C := RX9) (T := TX9) (N := 20) hx hb hts hinX9 tyX9 tyX9_ok nmX9 hown hK hP hD hS hmo hFo rfl 0 (by decide) (hts (.fieldLink RX9 61 "RopeDrumsModel" "thrown" "I") (by decide +kernel)) (fun _ h9 => h9) rfl (by decide +kernel) (rfl) (rfl) (Nat.le_of_ble_eq_true rfl) dX9_told_2 (fun H locs F1 eF1 hP hS => ?_)
    have eF1 : F1 = va_up F o (.inr (8, [.int 0, .ref (qm 0), .ref (qm 1), .ref (qm 2), .ref (qm 3), .ref (qm 4), .ref (qm 5), .ref (qm 6), .ref (qm 7), .int Pp.1, .ref (qm 8), .ref (qm 9), .ref (qm 10), .ref (qm 11), .ref (qm 12), .ref (qm 13), .ref (qm 14), .int Xx.1, .ref (qm 15), .long oc])) := eF1
    have hFo_1 : F1 o = .inr (8, [.int 0, .ref (qm 0), .ref (qm 1), .ref (qm 2), .ref (qm 3), .ref (qm 4), .ref (qm 5), .ref (qm 6), .ref (qm 7), .int Pp.1, .ref (qm 8), .ref (qm 9), .ref (qm 10), .ref (qm 11), .ref (qm 12), .ref (qm 13), .ref (qm 14), .int Xx.1, .ref (qm 15), .long oc]) := by rw [eF1]; exact va_up_self _ _ _
    have hFqm0_1 : F1 (qm 0) = cI (cy 1) 10 Mm.1 := by rw [eF1, va_up_ne _ _ (pl_ne hF0 hFo rfl)]; exact hF0
    have hFqm1_1 : F1 (qm 1) = cJ (cy 2) 10 Mm.2 := by rw [eF1, va_up_ne _ _ (pl_ne hF1 hFo rfl)]; exact hF1
    have hFqm2_1 : F1 (qm 2) = cD (cy 0) 6 Dd.1 := by rw [eF1, va_up_ne _ _ (pl_ne hF2 hFo rfl)]; exact hF2
    have hFqm3_1 : F1 (qm 3) = cD (cy 0) 6 Dd.2.1 := by rw [eF1, va_up_ne _ _ (pl_ne hF3 hFo rfl)]; exact hF3
    have hFqm4_1 : F1 (qm 4) = cD (cy 0) 6 Dd.2.2.1 := by rw [eF1, va_up_ne _ _ (pl_ne hF4 hFo rfl)]; exact hF4
    have hFqm5_1 : F1 (qm 5) = cJ (cy 2) 6 Dd.2.2.2 := by rw [eF1, va_up_ne _ _ (pl_ne hF5 hFo rfl)]; exact hF5
    have hFqm6_1 : F1 (qm 6) = cI (cy 1) 8 Sl.1 := by rw [eF1, va_up_ne _ _ (pl_ne hF6 hFo rfl)]; exact hF6
    have hFqm7_1 : F1 (qm 7) = cJ (cy 2) 128 Sl.2 := by rw [eF1, va_up_ne _ _ (pl_ne hF7 hFo rfl)]; exact hF7
    have hFqm8_1 : F1 (qm 8) = cI (cy 1) 30 Pp.2.1 := by rw [eF1, va_up_ne _ _ (pl_ne hF8 hFo rfl)]; exact hF8
    have hFqm9_1 : F1 (qm 9) = cI (cy 3) 30 Pp.2.2 := by rw [eF1, va_up_ne _ _ (pl_ne hF9 hFo rfl)]; exact hF9
    have hFqm10_1 : F1 (qm 10) = cI (cy 1) 5 Kr.1 := by rw [eF1, va_up_ne _ _ (pl_ne hF10 hFo rfl)]; exact hF10
    have hFqm11_1 : F1 (qm 11) = cI (cy 3) 5 Kr.2.1 := by rw [eF1, va_up_ne _ _ (pl_ne hF11 hFo rfl)]; exact hF11
    have hFqm12_1 : F1 (qm 12) = cI (cy 1) 60 Kr.2.2 := by rw [eF1, va_up_ne _ _ (pl_ne hF12 hFo rfl)]; exact hF12
    have hFqm13_1 : F1 (qm 13) = cI (cy 1) 4 Bk.1 := by rw [eF1, va_up_ne _ _ (pl_ne hF13 hFo rfl)]; exact hF13
    have hFqm14_1 : F1 (qm 14) = cD (cy 0) 4 Bk.2 := by rw [eF1, va_up_ne _ _ (pl_ne hF14 hFo rfl)]; exact hF14
    have hFqm15_1 : F1 (qm 15) = cI (cy 1) 6 Xx.2 := by rw [eF1, va_up_ne _ _ (pl_ne hF15 hFo rfl)]; exact hF15
    refine lv_iload_n hx hb dX9_told_5 rfl (lv_at hl 1 rfl) ?_
    refine vp_callSi (W.runS (As := [.int dr]) (rest := []) ⟨hx, hb, hml, hown, hts⟩ (c9_isDrum l dr) (va_cwS 1 hts gX9_told_X9_isDrum rfl rfl rfl (by decide +kernel) ⟨Nat.le_of_ble_eq_true rfl, Nat.le_of_ble_eq_true rfl⟩) (preS_of okT (trivial)) rfl rfl hl.1 rfl (lv_room (Nat.le_of_ble_eq_true rfl)) dX9_told_6 ⟨Nat.le_of_ble_eq_true rfl, Nat.le_of_ble_eq_true rfl⟩) (fun r2 hr2 => ?_)
    rw [isx0 hi_dr] at hr2
    subst hr2
    refine lv_if_ne (tgt := 16) hx hb dX9_told_9 (by decide) (fun c3 => absurd (by decide) c3) (fun c3 => ?_)
    refine lv_ldc2 hx hb hown (hts (.constantLong RX9 129 (-1001)) (by decide +kernel)) dX9_told_12 ?_
    exact W.lret (v := -1001) hx hb hr (fun t ht hW => ⟨⟨-1001, F1, rfl, (by exact ⟨by unfold sp_told; rw [hi_dr], ⟨⟨_, _, hmo, hFo_1⟩, ⟨hm0, hFqm0_1⟩, ⟨hm1, hFqm1_1⟩, ⟨hm2, hFqm2_1⟩, ⟨hm3, hFqm3_1⟩, ⟨hm4, hFqm4_1⟩, ⟨hm5, hFqm5_1⟩, ⟨hm6, hFqm6_1⟩, ⟨hm7, hFqm7_1⟩, ⟨hm8, hFqm8_1⟩, ⟨hm9, hFqm9_1⟩, ⟨hm10, hFqm10_1⟩, ⟨hm11, hFqm11_1⟩, ⟨hm12, hFqm12_1⟩, ⟨hm13, hFqm13_1⟩, ⟨hm14, hFqm14_1⟩, ⟨hm15, hFqm15_1⟩, hne⟩⟩), (by show va_P _ _ _ t.heap; rw [ht]; exact hP)⟩, hS.F ht⟩) hS.2.2 dX9_told_15
  · subst ei_dr
    refine lv_aload_n hx hb dX9_told_0 rfl (lv_at hl 0 rfl) ?_
    refine lv_iconst (v := 0) hx hb dX9_told_1 (by decide) ?_
    refine pg_put (ci := 8) (v := .int 0) (ty := .int) (C := RX9) (T := TX9) (N := 20) hx hb hts hinX9 tyX9 tyX9_ok nmX9 hown hK hP hD hS hmo hFo rfl 0 (by decide) (hts (.fieldLink RX9 61 "RopeDrumsModel" "thrown" "I") (by decide +kernel)) (fun _ h9 => h9) rfl (by decide +kernel) (rfl) (rfl) (Nat.le_of_ble_eq_true rfl) dX9_told_2 (fun H locs F4 eF4 hP hS => ?_)
    have eF4 : F4 = va_up F o (.inr (8, [.int 0, .ref (qm 0), .ref (qm 1), .ref (qm 2), .ref (qm 3), .ref (qm 4), .ref (qm 5), .ref (qm 6), .ref (qm 7), .int Pp.1, .ref (qm 8), .ref (qm 9), .ref (qm 10), .ref (qm 11), .ref (qm 12), .ref (qm 13), .ref (qm 14), .int Xx.1, .ref (qm 15), .long oc])) := eF4
    have hFo_4 : F4 o = .inr (8, [.int 0, .ref (qm 0), .ref (qm 1), .ref (qm 2), .ref (qm 3), .ref (qm 4), .ref (qm 5), .ref (qm 6), .ref (qm 7), .int Pp.1, .ref (qm 8), .ref (qm 9), .ref (qm 10), .ref (qm 11), .ref (qm 12), .ref (qm 13), .ref (qm 14), .int Xx.1, .ref (qm 15), .long oc]) := by rw [eF4]; exact va_up_self _ _ _
    have hFqm0_4 : F4 (qm 0) = cI (cy 1) 10 Mm.1 := by rw [eF4, va_up_ne _ _ (pl_ne hF0 hFo rfl)]; exact hF0
    have hFqm1_4 : F4 (qm 1) = cJ (cy 2) 10 Mm.2 := by rw [eF4, va_up_ne _ _ (pl_ne hF1 hFo rfl)]; exact hF1
    have hFqm2_4 : F4 (qm 2) = cD (cy 0) 6 Dd.1 := by rw [eF4, va_up_ne _ _ (pl_ne hF2 hFo rfl)]; exact hF2
    have hFqm3_4 : F4 (qm 3) = cD (cy 0) 6 Dd.2.1 := by rw [eF4, va_up_ne _ _ (pl_ne hF3 hFo rfl)]; exact hF3
    have hFqm4_4 : F4 (qm 4) = cD (cy 0) 6 Dd.2.2.1 := by rw [eF4, va_up_ne _ _ (pl_ne hF4 hFo rfl)]; exact hF4
    have hFqm5_4 : F4 (qm 5) = cJ (cy 2) 6 Dd.2.2.2 := by rw [eF4, va_up_ne _ _ (pl_ne hF5 hFo rfl)]; exact hF5
    have hFqm6_4 : F4 (qm 6) = cI (cy 1) 8 Sl.1 := by rw [eF4, va_up_ne _ _ (pl_ne hF6 hFo rfl)]; exact hF6
    have hFqm7_4 : F4 (qm 7) = cJ (cy 2) 128 Sl.2 := by rw [eF4, va_up_ne _ _ (pl_ne hF7 hFo rfl)]; exact hF7
    have hFqm8_4 : F4 (qm 8) = cI (cy 1) 30 Pp.2.1 := by rw [eF4, va_up_ne _ _ (pl_ne hF8 hFo rfl)]; exact hF8
    have hFqm9_4 : F4 (qm 9) = cI (cy 3) 30 Pp.2.2 := by rw [eF4, va_up_ne _ _ (pl_ne hF9 hFo rfl)]; exact hF9
    have hFqm10_4 : F4 (qm 10) = cI (cy 1) 5 Kr.1 := by rw [eF4, va_up_ne _ _ (pl_ne hF10 hFo rfl)]; exact hF10
    have hFqm11_4 : F4 (qm 11) = cI (cy 3) 5 Kr.2.1 := by rw [eF4, va_up_ne _ _ (pl_ne hF11 hFo rfl)]; exact hF11
    have hFqm12_4 : F4 (qm 12) = cI (cy 1) 60 Kr.2.2 := by rw [eF4, va_up_ne _ _ (pl_ne hF12 hFo rfl)]; exact hF12
    have hFqm13_4 : F4 (qm 13) = cI (cy 1) 4 Bk.1 := by rw [eF4, va_up_ne _ _ (pl_ne hF13 hFo rfl)]; exact hF13
    have hFqm14_4 : F4 (qm 14) = cD (cy 0) 4 Bk.2 := by rw [eF4, va_up_ne _ _ (pl_ne hF14 hFo rfl)]; exact hF14
    have hFqm15_4 : F4 (qm 15) = cI (cy 1) 6 Xx.2 := by rw [eF4, va_up_ne _ _ (pl_ne hF15 hFo rfl)]; exact hF15
    refine lv_iload_n hx hb dX9_told_5 rfl (lv_at hl 1 rfl) ?_
    refine vp_callSi (W.runS (As := [.int (nI j_dr)]) (rest := []) ⟨hx, hb, hml, hown, hts⟩ (c9_isDrum l (nI j_dr)) (va_cwS 1 hts gX9_told_X9_isDrum rfl rfl rfl (by decide +kernel) ⟨Nat.le_of_ble_eq_true rfl, Nat.le_of_ble_eq_true rfl⟩) (preS_of okT (trivial)) rfl rfl hl.1 rfl (lv_room (Nat.le_of_ble_eq_true rfl)) dX9_told_6 ⟨Nat.le_of_ble_eq_true rfl, Nat.le_of_ble_eq_true rfl⟩) (fun r5 hr5 => ?_)
    rw [isx1 hi_dr] at hr5
    subst hr5
    refine lv_if_ne (tgt := 16) hx hb dX9_told_9 (by decide) (fun c6 => ?_) (fun c6 => absurd c6 (by decide))
    refine lv_iload_n hx hb dX9_told_16 rfl (lv_at hl 2 rfl) ?_
    refine lv_tableOut (tgt := 85) hx hb dX9_told_17 (by have h0 : (0 : Int32).toInt = 0 := (by decide); have h1 : (1 : Int32).toInt = 1 := (by decide); have h2 : (2 : Int32).toInt = 2 := (by decide); have h3 : (3 : Int32).toInt = 3 := (by decide); have q0 := hw.1; have q1 := hw.2.1; have q2 := hw.2.2.1; have q3 := hw.2.2.2; rw [fa_eq] at q0 q1 q2 q3; omega) (by decide) ?_
    refine lv_ldc2 hx hb hown (hts (.constantLong RX9 174 (-1002)) (by decide +kernel)) dX9_told_85 ?_
    exact W.lret (v := -1002) hx hb hr (fun t ht hW => ⟨⟨-1002, F4, rfl, (by exact ⟨by unfold sp_told; rw [hi_dr]; show _ = (if _ then _ else _); rw [if_neg (fun q => hw.1 q), if_neg (fun q => hw.2.1 q), if_neg (fun q => hw.2.2.1 q), if_neg (fun q => hw.2.2.2 q)], ⟨⟨_, _, hmo, hFo_4⟩, ⟨hm0, hFqm0_4⟩, ⟨hm1, hFqm1_4⟩, ⟨hm2, hFqm2_4⟩, ⟨hm3, hFqm3_4⟩, ⟨hm4, hFqm4_4⟩, ⟨hm5, hFqm5_4⟩, ⟨hm6, hFqm6_4⟩, ⟨hm7, hFqm7_4⟩, ⟨hm8, hFqm8_4⟩, ⟨hm9, hFqm9_4⟩, ⟨hm10, hFqm10_4⟩, ⟨hm11, hFqm11_4⟩, ⟨hm12, hFqm12_4⟩, ⟨hm13, hFqm13_4⟩, ⟨hm14, hFqm14_4⟩, ⟨hm15, hFqm15_4⟩, hne⟩⟩), (by show va_P _ _ _ t.heap; rw [ht]; exact hP)⟩, hS.F ht⟩) hS.2.2 dX9_told_88
