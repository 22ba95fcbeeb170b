theorem zr0 (f : Nat → Int64) (b : Nat) : zr f b 0 = f := by
  funext i
  unfold zr
  exact if_neg (by omega)
theorem zrs (f : Nat → Int64) (b k : Nat) : vp_updL (zr f b k) (b + k) 0 = zr f b (k + 1) := by
  funext i
  unfold vp_updL zr
  by_cases h1 : i = b + k
  · rw [if_pos h1, if_pos (by omega)]
  · rw [if_neg h1]
    by_cases h2 : b ≤ i ∧ i < b + k
    · rw [if_pos h2, if_pos (by omega)]
    · rw [if_neg h2, if_neg (by omega)]
theorem cpy0 (S : SL) (i j : Nat) : cpy S i j 0 = S.2 := by
  funext x
  unfold cpy
  exact if_neg (by omega)
theorem cpys (S : SL) (i j k : Nat) : vp_updL (cpy S i j k) (16 * j + k) (tn (lw i) (S.2 (16 * i + k)) (lw j)) = cpy S i j (k + 1) := by
  funext x
  unfold vp_updL cpy
  by_cases h1 : x = 16 * j + k
  · rw [if_pos h1, if_pos (by omega), show x - 16 * j = k by omega]
  · rw [if_neg h1]
    by_cases h2 : 16 * j ≤ x ∧ x < 16 * j + k
    · rw [if_pos h2, if_pos (by omega)]
    · rw [if_neg h2, if_neg (by omega)]
theorem cpyf {S : SL} {i j k : Nat} (hij : ¬ i = j) (hk : k < 16) : cpy S i j k (16 * i + k) = S.2 (16 * i + k) := by
  unfold cpy
  exact if_neg (by omega)
theorem updid0 (f : Nat → Int32) (k : Nat) : upd f k (f k + 0) = f := by
  funext i
  rw [Int32.add_zero]
  by_cases h : i = k
  · subst h
    exact pk_us
  · exact pk_un h

set_option maxHeartbeats 8000000 in
set_option maxRecDepth 100000 in
theorem n_log (l : Launch) (G : va_G) (cy : Nat → ClassId) (L : List Nat) (F : Nat → va_E) (sz : Nat) (o : Nat) (qm : Nat → Nat) (Mm : SM) (Dd : SD) (Sl : SL) (Pp : SP) (Kr : SR) (Bk : SB) (Xx : SX) (hR : RepM cy L o qm Mm Dd Sl Pp Kr Bk Xx F) (hV : Val Mm Dd Sl Pp Kr Bk) (lg n : Int32)  : Met l yX9_log wsX9_log ({ frames := 2, cells := 0, slots := 0, locals := 45 }) (va_Pc [.ref o, .int lg, .int n] (fun U => bQ G cy L F sz U U.heap)) (va_Qi (fun (r : Int32) (F' : Nat → va_E) => r = (sp_log Sl lg n).1 ∧ RepM cy L o qm Mm Dd (sp_log Sl lg n).2 Pp Kr Bk Xx F') (fun F' t => va_P G vwCl (va_pl L F') t.heap) (va_A (va_pl L F) sz)) 0 0 (va_A (va_pl L F) sz) := by
  refine Met.ofW (cc := cX9_log) (maxL := 4) (ret := (some .int)) (by decide) rfl ?_
  intro p e s m args below meth c s₁ B hml hv
  obtain ⟨rfl, hsz, hP, hK, hD0⟩ := hv
  have hx := B.exec
  have hb := B.bytes
  have hr := B.returns
  have hts := atoms_spec (ws := wsX9_log) B.pre
  have hown : s.vm.findClass RX9 = some m.cls := findClass_of_methodNamed B.named
  have hlocks := B.notSynchronized
  have hinX9 : ∀ w ∈ wsX90, w ∈ wsX9_log := by decide +kernel
  subst hsz
  have hD := hD0.self F s.heap.size
  generalize hAe : va_A (va_pl L F) s.heap.size = A at hD ⊢
  have hA : ∀ q : Nat, s.heap.size ≤ q → A q := fun q h => by rw [← hAe]; exact Or.inr h
  have hS : va_S A s.heap s.heap [] := va_S.rf
  obtain ⟨⟨th, oc, hmo, hFo⟩, ⟨hm0, hF0⟩, ⟨hm1, hF1⟩, ⟨hm2, hF2⟩, ⟨hm3, hF3⟩, ⟨hm4, hF4⟩, ⟨hm5, hF5⟩, ⟨hm6, hF6⟩, ⟨hm7, hF7⟩, ⟨hm8, hF8⟩, ⟨hm9, hF9⟩, ⟨hm10, hF10⟩, ⟨hm11, hF11⟩, ⟨hm12, hF12⟩, ⟨hm13, hF13⟩, ⟨hm14, hF14⟩, ⟨hm15, hF15⟩, hne⟩ := id hR
  obtain ⟨hVM, hVD, hVS, hVP, hVK, hVB⟩ := hV
  have hl := lv_entry ([.ref o, .int lg, .int n]) (n := 4) (Nat.le_of_ble_eq_true rfl)
  rw [lg_entry_eq]
  generalize (lg_sl ([.ref o, .int lg, .int n]) ++ List.replicate (4 - (lg_sl ([.ref o, .int lg, .int n])).length) Slot.unset).toArray = ls at hl ⊢
  have hl : lv_has ls 4 [(0, .ref o), (1, .int lg), (2, .int n)] := hl
  rcases ixc 8 lg with hi_lg | ⟨j_lg, hj_lg, hi_lg, ei_lg⟩
  · refine lv_aload_n hx hb dX9_log_0 rfl (lv_at hl 0 rfl) ?_
    refine lv_iconst (v := 0) hx hb dX9_log_1 (by decide) ?_
    refine pg_put (ci := 8) (v := .int 0) (ty := .int) (C := RX9) (T := TX9) (N := 20) hx hb hts hinX9 tyX9 tyX9_ok nmX9 hown hK hP hD hS hmo hFo rfl 0 (by decide) (hts (.fieldLink RX9 61 "RopeDrumsModel" "thrown" "I") (by decide +kernel)) (fun _ h9 => h9) rfl (by decide +kernel) (rfl) (rfl) (Nat.le_of_ble_eq_true rfl) dX9_log_2 (fun H locs F1 eF1 hP hS => ?_)
    have eF1 : F1 = va_up F o (.inr (8, [.int 0, .ref (qm 0), .ref (qm 1), .ref (qm 2), .ref (qm 3), .ref (qm 4), .ref (qm 5), .ref (qm 6), .ref (qm 7), .int Pp.1, .ref (qm 8), .ref (qm 9), .ref (qm 10), .ref (qm 11), .ref (qm 12), .ref (qm 13), .ref (qm 14), .int Xx.1, .ref (qm 15), .long oc])) := eF1
    have hFo_1 : F1 o = .inr (8, [.int 0, .ref (qm 0), .ref (qm 1), .ref (qm 2), .ref (qm 3), .ref (qm 4), .ref (qm 5), .ref (qm 6), .ref (qm 7), .int Pp.1, .ref (qm 8), .ref (qm 9), .ref (qm 10), .ref (qm 11), .ref (qm 12), .ref (qm 13), .ref (qm 14), .int Xx.1, .ref (qm 15), .long oc]) := by rw [eF1]; exact va_up_self _ _ _
    have hFqm0_1 : F1 (qm 0) = cI (cy 1) 10 Mm.1 := by rw [eF1, va_up_ne _ _ (pl_ne hF0 hFo rfl)]; exact hF0
    have hFqm1_1 : F1 (qm 1) = cJ (cy 2) 10 Mm.2 := by rw [eF1, va_up_ne _ _ (pl_ne hF1 hFo rfl)]; exact hF1
    have hFqm2_1 : F1 (qm 2) = cD (cy 0) 6 Dd.1 := by rw [eF1, va_up_ne _ _ (pl_ne hF2 hFo rfl)]; exact hF2
    have hFqm3_1 : F1 (qm 3) = cD (cy 0) 6 Dd.2.1 := by rw [eF1, va_up_ne _ _ (pl_ne hF3 hFo rfl)]; exact hF3
    have hFqm4_1 : F1 (qm 4) = cD (cy 0) 6 Dd.2.2.1 := by rw [eF1, va_up_ne _ _ (pl_ne hF4 hFo rfl)]; exact hF4
    have hFqm5_1 : F1 (qm 5) = cJ (cy 2) 6 Dd.2.2.2 := by rw [eF1, va_up_ne _ _ (pl_ne hF5 hFo rfl)]; exact hF5
    have hFqm6_1 : F1 (qm 6) = cI (cy 1) 8 Sl.1 := by rw [eF1, va_up_ne _ _ (pl_ne hF6 hFo rfl)]; exact hF6
    have hFqm7_1 : F1 (qm 7) = cJ (cy 2) 128 Sl.2 := by rw [eF1, va_up_ne _ _ (pl_ne hF7 hFo rfl)]; exact hF7
    have hFqm8_1 : F1 (qm 8) = cI (cy 1) 30 Pp.2.1 := by rw [eF1, va_up_ne _ _ (pl_ne hF8 hFo rfl)]; exact hF8
    have hFqm9_1 : F1 (qm 9) = cI (cy 3) 30 Pp.2.2 := by rw [eF1, va_up_ne _ _ (pl_ne hF9 hFo rfl)]; exact hF9
    have hFqm10_1 : F1 (qm 10) = cI (cy 1) 5 Kr.1 := by rw [eF1, va_up_ne _ _ (pl_ne hF10 hFo rfl)]; exact hF10
    have hFqm11_1 : F1 (qm 11) = cI (cy 3) 5 Kr.2.1 := by rw [eF1, va_up_ne _ _ (pl_ne hF11 hFo rfl)]; exact hF11
    have hFqm12_1 : F1 (qm 12) = cI (cy 1) 60 Kr.2.2 := by rw [eF1, va_up_ne _ _ (pl_ne hF12 hFo rfl)]; exact hF12
    have hFqm13_1 : F1 (qm 13) = cI (cy 1) 4 Bk.1 := by rw [eF1, va_up_ne _ _ (pl_ne hF13 hFo rfl)]; exact hF13
    have hFqm14_1 : F1 (qm 14) = cD (cy 0) 4 Bk.2 := by rw [eF1, va_up_ne _ _ (pl_ne hF14 hFo rfl)]; exact hF14
    have hFqm15_1 : F1 (qm 15) = cI (cy 1) 6 Xx.2 := by rw [eF1, va_up_ne _ _ (pl_ne hF15 hFo rfl)]; exact hF15
    refine lv_iload_n hx hb dX9_log_5 rfl (lv_at hl 1 rfl) ?_
    refine vp_callSi (W.runS (As := [.int lg]) (rest := []) ⟨hx, hb, hml, hown, hts⟩ (c9_isLog l lg) (va_cwS 1 hts gX9_log_X9_isLog rfl rfl rfl (by decide +kernel) ⟨Nat.le_of_ble_eq_true rfl, Nat.le_of_ble_eq_true rfl⟩) (preS_of okT (trivial)) rfl rfl hl.1 rfl (lv_room (Nat.le_of_ble_eq_true rfl)) dX9_log_6 ⟨Nat.le_of_ble_eq_true rfl, Nat.le_of_ble_eq_true rfl⟩) (fun r2 hr2 => ?_)
    rw [isx0 hi_lg] at hr2
    subst hr2
    refine lv_if_ne (tgt := 16) hx hb dX9_log_9 (by decide) (fun c3 => absurd (by decide) c3) (fun c3 => ?_)
    refine lv_sipush (v := -1001) hx hb dX9_log_12 (by decide) ?_
    exact W.iret (v := -1001) hx hb hr (fun t ht hW => ⟨⟨-1001, F1, rfl, (by have hsp : sp_log Sl lg n = (-1001, Sl) := (by unfold sp_log; rw [hi_lg]); rw [hsp]; exact ⟨rfl, (by exact ⟨⟨_, _, hmo, hFo_1⟩, ⟨hm0, hFqm0_1⟩, ⟨hm1, hFqm1_1⟩, ⟨hm2, hFqm2_1⟩, ⟨hm3, hFqm3_1⟩, ⟨hm4, hFqm4_1⟩, ⟨hm5, hFqm5_1⟩, ⟨hm6, hFqm6_1⟩, ⟨hm7, hFqm7_1⟩, ⟨hm8, hFqm8_1⟩, ⟨hm9, hFqm9_1⟩, ⟨hm10, hFqm10_1⟩, ⟨hm11, hFqm11_1⟩, ⟨hm12, hFqm12_1⟩, ⟨hm13, hFqm13_1⟩, ⟨hm14, hFqm14_1⟩, ⟨hm15, hFqm15_1⟩, hne⟩)⟩), (by show va_P _ _ _ t.heap; rw [ht]; exact hP)⟩, hS.F ht⟩) hS.2.2 dX9_log_15
  · subst ei_lg
    by_cases hnr : -1 ≤ n.toInt ∧ n.toInt ≤ 16
    · refine lv_aload_n hx hb dX9_log_0 rfl (lv_at hl 0 rfl) ?_
      refine lv_iconst (v := 0) hx hb dX9_log_1 (by decide) ?_
      refine pg_put (ci := 8) (v := .int 0) (ty := .int) (C := RX9) (T := TX9) (N := 20) hx hb hts hinX9 tyX9 tyX9_ok nmX9 hown hK hP hD hS hmo hFo rfl 0 (by decide) (hts (.fieldLink RX9 61 "RopeDrumsModel" "thrown" "I") (by decide +kernel)) (fun _ h9 => h9) rfl (by decide +kernel) (rfl) (rfl) (Nat.le_of_ble_eq_true rfl) dX9_log_2 (fun H locs F4 eF4 hP hS => ?_)
      have eF4 : F4 = va_up F o (.inr (8, [.int 0, .ref (qm 0), .ref (qm 1), .ref (qm 2), .ref (qm 3), .ref (qm 4), .ref (qm 5), .ref (qm 6), .ref (qm 7), .int Pp.1, .ref (qm 8), .ref (qm 9), .ref (qm 10), .ref (qm 11), .ref (qm 12), .ref (qm 13), .ref (qm 14), .int Xx.1, .ref (qm 15), .long oc])) := eF4
      have hFo_4 : F4 o = .inr (8, [.int 0, .ref (qm 0), .ref (qm 1), .ref (qm 2), .ref (qm 3), .ref (qm 4), .ref (qm 5), .ref (qm 6), .ref (qm 7), .int Pp.1, .ref (qm 8), .ref (qm 9), .ref (qm 10), .ref (qm 11), .ref (qm 12), .ref (qm 13), .ref (qm 14), .int Xx.1, .ref (qm 15), .long oc]) := by rw [eF4]; exact va_up_self _ _ _
      have hFqm0_4 : F4 (qm 0) = cI (cy 1) 10 Mm.1 := by rw [eF4, va_up_ne _ _ (pl_ne hF0 hFo rfl)]; exact hF0
      have hFqm1_4 : F4 (qm 1) = cJ (cy 2) 10 Mm.2 := by rw [eF4, va_up_ne _ _ (pl_ne hF1 hFo rfl)]; exact hF1
      have hFqm2_4 : F4 (qm 2) = cD (cy 0) 6 Dd.1 := by rw [eF4, va_up_ne _ _ (pl_ne hF2 hFo rfl)]; exact hF2
      have hFqm3_4 : F4 (qm 3) = cD (cy 0) 6 Dd.2.1 := by rw [eF4, va_up_ne _ _ (pl_ne hF3 hFo rfl)]; exact hF3
      have hFqm4_4 : F4 (qm 4) = cD (cy 0) 6 Dd.2.2.1 := by rw [eF4, va_up_ne _ _ (pl_ne hF4 hFo rfl)]; exact hF4
      have hFqm5_4 : F4 (qm 5) = cJ (cy 2) 6 Dd.2.2.2 := by rw [eF4, va_up_ne _ _ (pl_ne hF5 hFo rfl)]; exact hF5
      have hFqm6_4 : F4 (qm 6) = cI (cy 1) 8 Sl.1 := by rw [eF4, va_up_ne _ _ (pl_ne hF6 hFo rfl)]; exact hF6
      have hFqm7_4 : F4 (qm 7) = cJ (cy 2) 128 Sl.2 := by rw [eF4, va_up_ne _ _ (pl_ne hF7 hFo rfl)]; exact hF7
      have hFqm8_4 : F4 (qm 8) = cI (cy 1) 30 Pp.2.1 := by rw [eF4, va_up_ne _ _ (pl_ne hF8 hFo rfl)]; exact hF8
      have hFqm9_4 : F4 (qm 9) = cI (cy 3) 30 Pp.2.2 := by rw [eF4, va_up_ne _ _ (pl_ne hF9 hFo rfl)]; exact hF9
      have hFqm10_4 : F4 (qm 10) = cI (cy 1) 5 Kr.1 := by rw [eF4, va_up_ne _ _ (pl_ne hF10 hFo rfl)]; exact hF10
      have hFqm11_4 : F4 (qm 11) = cI (cy 3) 5 Kr.2.1 := by rw [eF4, va_up_ne _ _ (pl_ne hF11 hFo rfl)]; exact hF11
      have hFqm12_4 : F4 (qm 12) = cI (cy 1) 60 Kr.2.2 := by rw [eF4, va_up_ne _ _ (pl_ne hF12 hFo rfl)]; exact hF12
      have hFqm13_4 : F4 (qm 13) = cI (cy 1) 4 Bk.1 := by rw [eF4, va_up_ne _ _ (pl_ne hF13 hFo rfl)]; exact hF13
      have hFqm14_4 : F4 (qm 14) = cD (cy 0) 4 Bk.2 := by rw [eF4, va_up_ne _ _ (pl_ne hF14 hFo rfl)]; exact hF14
      have hFqm15_4 : F4 (qm 15) = cI (cy 1) 6 Xx.2 := by rw [eF4, va_up_ne _ _ (pl_ne hF15 hFo rfl)]; exact hF15
      refine lv_iload_n hx hb dX9_log_5 rfl (lv_at hl 1 rfl) ?_
      refine vp_callSi (W.runS (As := [.int (nI j_lg)]) (rest := []) ⟨hx, hb, hml, hown, hts⟩ (c9_isLog l (nI j_lg)) (va_cwS 1 hts gX9_log_X9_isLog rfl rfl rfl (by decide +kernel) ⟨Nat.le_of_ble_eq_true rfl, Nat.le_of_ble_eq_true rfl⟩) (preS_of okT (trivial)) rfl rfl hl.1 rfl (lv_room (Nat.le_of_ble_eq_true rfl)) dX9_log_6 ⟨Nat.le_of_ble_eq_true rfl, Nat.le_of_ble_eq_true rfl⟩) (fun r5 hr5 => ?_)
      rw [isx1 hi_lg] at hr5
      subst hr5
      refine lv_if_ne (tgt := 16) hx hb dX9_log_9 (by decide) (fun c6 => ?_) (fun c6 => absurd c6 (by decide))
      refine lv_iload_n hx hb dX9_log_16 rfl (lv_at hl 2 rfl) ?_
      refine lv_i2l hx hb dX9_log_17 rfl ?_
      refine lv_topl (fun v7 ev7 => ?_)
      refine lv_ldc2 hx hb hown (hts (.constantLong RX9 181 (-1)) (by decide +kernel)) dX9_log_18 ?_
      refine lv_ldc2 hx hb hown (hts (.constantLong RX9 183 (16)) (by decide +kernel)) dX9_log_21 ?_
      refine vp_callSi (W.runS (As := [.long v7, .long (-1), .long 16]) (rest := []) ⟨hx, hb, hml, hown, hts⟩ (c9_in l v7 (-1) 16) (va_cwS 3 hts gX9_log_X9_in rfl rfl rfl (by decide +kernel) ⟨Nat.le_of_ble_eq_true rfl, Nat.le_of_ble_eq_true rfl⟩) (preS_of okT (trivial)) rfl rfl hl.1 rfl (lv_room (Nat.le_of_ble_eq_true rfl)) dX9_log_24 ⟨Nat.le_of_ble_eq_true rfl, Nat.le_of_ble_eq_true rfl⟩) (fun r8 hr8 => ?_)
      have hzr8 : r8 = 1 := by rw [hr8, ev7, inq_i (y := -1) (z := 16) (by decide) (by decide)]; exact if_pos (hnr)
      subst hzr8
      refine lv_if_ne (tgt := 34) hx hb dX9_log_27 (by decide) (fun c9 => ?_) (fun c9 => absurd c9 (by decide))
      refine lv_aload_n hx hb dX9_log_34 rfl (lv_at hl 0 rfl) ?_
      refine pg_get (ci := 8) (C := RX9) (T := TX9) (N := 20) hx hb hts hinX9 hown hK hP hmo hFo_4 rfl 7 (by decide) (hts (.fieldLink RX9 30 "RopeDrumsModel" "logSize" "[I") (by decide +kernel)) (fun _ h9 => h9) rfl dX9_log_35 ?_
      refine lv_iload_n hx hb dX9_log_38 rfl (lv_at hl 1 rfl) ?_
      refine lv_iload_n hx hb dX9_log_39 rfl (lv_at hl 2 rfl) ?_
      refine pg_iast hx hb hK hP hD hS 1 hm6 hFqm6_4 rfl (vp_in_nI (by omega) (by decide)) dX9_log_40 (fun H locs F10 eF10 hP hS => ?_)
      rw [nI_clamp (by omega)] at eF10
      have hFo_10 : F10 o = .inr (8, [.int 0, .ref (qm 0), .ref (qm 1), .ref (qm 2), .ref (qm 3), .ref (qm 4), .ref (qm 5), .ref (qm 6), .ref (qm 7), .int Pp.1, .ref (qm 8), .ref (qm 9), .ref (qm 10), .ref (qm 11), .ref (qm 12), .ref (qm 13), .ref (qm 14), .int Xx.1, .ref (qm 15), .long oc]) := by rw [eF10, va_up_ne _ _ (pl_ne hFo_4 hFqm6_4 rfl)]; exact hFo_4
      have hFqm0_10 : F10 (qm 0) = cI (cy 1) 10 Mm.1 := by rw [eF10, va_up_ne _ _ (pl_ne hFqm0_4 hFqm6_4 rfl)]; exact hFqm0_4
      have hFqm1_10 : F10 (qm 1) = cJ (cy 2) 10 Mm.2 := by rw [eF10, va_up_ne _ _ (pl_ne hFqm1_4 hFqm6_4 rfl)]; exact hFqm1_4
      have hFqm2_10 : F10 (qm 2) = cD (cy 0) 6 Dd.1 := by rw [eF10, va_up_ne _ _ (pl_ne hFqm2_4 hFqm6_4 rfl)]; exact hFqm2_4
      have hFqm3_10 : F10 (qm 3) = cD (cy 0) 6 Dd.2.1 := by rw [eF10, va_up_ne _ _ (pl_ne hFqm3_4 hFqm6_4 rfl)]; exact hFqm3_4
      have hFqm4_10 : F10 (qm 4) = cD (cy 0) 6 Dd.2.2.1 := by rw [eF10, va_up_ne _ _ (pl_ne hFqm4_4 hFqm6_4 rfl)]; exact hFqm4_4
      have hFqm5_10 : F10 (qm 5) = cJ (cy 2) 6 Dd.2.2.2 := by rw [eF10, va_up_ne _ _ (pl_ne hFqm5_4 hFqm6_4 rfl)]; exact hFqm5_4
      have hFqm6_10 : F10 (qm 6) = cI (cy 1) 8 (upd Sl.1 j_lg n) := by rw [eF10]; exact va_up_self _ _ _
      have hFqm7_10 : F10 (qm 7) = cJ (cy 2) 128 Sl.2 := by rw [eF10, va_up_ne _ _ (pl_ne hFqm7_4 hFqm6_4 rfl)]; exact hFqm7_4
      have hFqm8_10 : F10 (qm 8) = cI (cy 1) 30 Pp.2.1 := by rw [eF10, va_up_ne _ _ (pl_ne hFqm8_4 hFqm6_4 rfl)]; exact hFqm8_4
      have hFqm9_10 : F10 (qm 9) = cI (cy 3) 30 Pp.2.2 := by rw [eF10, va_up_ne _ _ (pl_ne hFqm9_4 hFqm6_4 rfl)]; exact hFqm9_4
      have hFqm10_10 : F10 (qm 10) = cI (cy 1) 5 Kr.1 := by rw [eF10, va_up_ne _ _ (pl_ne hFqm10_4 hFqm6_4 rfl)]; exact hFqm10_4
      have hFqm11_10 : F10 (qm 11) = cI (cy 3) 5 Kr.2.1 := by rw [eF10, va_up_ne _ _ (pl_ne hFqm11_4 hFqm6_4 rfl)]; exact hFqm11_4
      have hFqm12_10 : F10 (qm 12) = cI (cy 1) 60 Kr.2.2 := by rw [eF10, va_up_ne _ _ (pl_ne hFqm12_4 hFqm6_4 rfl)]; exact hFqm12_4
      have hFqm13_10 : F10 (qm 13) = cI (cy 1) 4 Bk.1 := by rw [eF10, va_up_ne _ _ (pl_ne hFqm13_4 hFqm6_4 rfl)]; exact hFqm13_4
      have hFqm14_10 : F10 (qm 14) = cD (cy 0) 4 Bk.2 := by rw [eF10, va_up_ne _ _ (pl_ne hFqm14_4 hFqm6_4 rfl)]; exact hFqm14_4
      have hFqm15_10 : F10 (qm 15) = cI (cy 1) 6 Xx.2 := by rw [eF10, va_up_ne _ _ (pl_ne hFqm15_4 hFqm6_4 rfl)]; exact hFqm15_4
      refine lv_iconst (v := 0) hx hb dX9_log_41 (by decide) ?_
      refine lv_istore_n (lv' := [(3, .int 0), (0, .ref o), (1, .int (nI j_lg)), (2, .int n)]) hx hb dX9_log_42 rfl hl (by decide) rfl (fun ls hl => ?_)
      refine lp_w (pc := 43) (nL := 4) (α := Nat) (fun xx => xx ≤ n.toInt.toNat) (fun xx => [(3, .int (nI xx)), (2, .int n), (0, .ref o), (1, .int (nI j_lg))]) (fun xx => va_pl L (va_up F10 (qm 7) (cJ (cy 2) 128 (zr Sl.2 (16 * j_lg) xx)))) (fun xx => n.toInt.toNat - xx) (fun kk ls H locs hI hP hS hl K => ?_) 0 ls (Nat.zero_le _) (by rw [show va_up F10 (qm 7) (cJ (cy 2) 128 (zr Sl.2 (16 * j_lg) 0)) = F10 from (by rw [zr0]; exact upid hFqm7_10)]; exact hP) hS (lv_sub hl [0, 3, 1, 2] rfl)
      obtain ⟨F11, eF11⟩ : ∃ y : Nat → va_E, y = va_up F10 (qm 7) (cJ (cy 2) 128 (zr Sl.2 (16 * j_lg) kk)) := ⟨_, rfl⟩
      rw [← eF11] at hP
      have hFo_11 : F11 o = .inr (8, [.int 0, .ref (qm 0), .ref (qm 1), .ref (qm 2), .ref (qm 3), .ref (qm 4), .ref (qm 5), .ref (qm 6), .ref (qm 7), .int Pp.1, .ref (qm 8), .ref (qm 9), .ref (qm 10), .ref (qm 11), .ref (qm 12), .ref (qm 13), .ref (qm 14), .int Xx.1, .ref (qm 15), .long oc]) := by rw [eF11, va_up_ne _ _ (pl_ne hFo_10 hFqm7_10 rfl)]; exact hFo_10
      have hFqm0_11 : F11 (qm 0) = cI (cy 1) 10 Mm.1 := by rw [eF11, va_up_ne _ _ (pl_ne hFqm0_10 hFqm7_10 rfl)]; exact hFqm0_10
      have hFqm1_11 : F11 (qm 1) = cJ (cy 2) 10 Mm.2 := by rw [eF11, va_up_ne _ _ (pl_ne hFqm1_10 hFqm7_10 rfl)]; exact hFqm1_10
      have hFqm2_11 : F11 (qm 2) = cD (cy 0) 6 Dd.1 := by rw [eF11, va_up_ne _ _ (pl_ne hFqm2_10 hFqm7_10 rfl)]; exact hFqm2_10
      have hFqm3_11 : F11 (qm 3) = cD (cy 0) 6 Dd.2.1 := by rw [eF11, va_up_ne _ _ (pl_ne hFqm3_10 hFqm7_10 rfl)]; exact hFqm3_10
      have hFqm4_11 : F11 (qm 4) = cD (cy 0) 6 Dd.2.2.1 := by rw [eF11, va_up_ne _ _ (pl_ne hFqm4_10 hFqm7_10 rfl)]; exact hFqm4_10
      have hFqm5_11 : F11 (qm 5) = cJ (cy 2) 6 Dd.2.2.2 := by rw [eF11, va_up_ne _ _ (pl_ne hFqm5_10 hFqm7_10 rfl)]; exact hFqm5_10
      have hFqm6_11 : F11 (qm 6) = cI (cy 1) 8 (upd Sl.1 j_lg n) := by rw [eF11, va_up_ne _ _ (pl_ne hFqm6_10 hFqm7_10 rfl)]; exact hFqm6_10
      have hFqm7_11 : F11 (qm 7) = cJ (cy 2) 128 (zr Sl.2 (16 * j_lg) kk) := by rw [eF11]; exact va_up_self _ _ _
      have hFqm8_11 : F11 (qm 8) = cI (cy 1) 30 Pp.2.1 := by rw [eF11, va_up_ne _ _ (pl_ne hFqm8_10 hFqm7_10 rfl)]; exact hFqm8_10
      have hFqm9_11 : F11 (qm 9) = cI (cy 3) 30 Pp.2.2 := by rw [eF11, va_up_ne _ _ (pl_ne hFqm9_10 hFqm7_10 rfl)]; exact hFqm9_10
      have hFqm10_11 : F11 (qm 10) = cI (cy 1) 5 Kr.1 := by rw [eF11, va_up_ne _ _ (pl_ne hFqm10_10 hFqm7_10 rfl)]; exact hFqm10_10
      have hFqm11_11 : F11 (qm 11) = cI (cy 3) 5 Kr.2.1 := by rw [eF11, va_up_ne _ _ (pl_ne hFqm11_10 hFqm7_10 rfl)]; exact hFqm11_10
      have hFqm12_11 : F11 (qm 12) = cI (cy 1) 60 Kr.2.2 := by rw [eF11, va_up_ne _ _ (pl_ne hFqm12_10 hFqm7_10 rfl)]; exact hFqm12_10
      have hFqm13_11 : F11 (qm 13) = cI (cy 1) 4 Bk.1 := by rw [eF11, va_up_ne _ _ (pl_ne hFqm13_10 hFqm7_10 rfl)]; exact hFqm13_10
      have hFqm14_11 : F11 (qm 14) = cD (cy 0) 4 Bk.2 := by rw [eF11, va_up_ne _ _ (pl_ne hFqm14_10 hFqm7_10 rfl)]; exact hFqm14_10
      have hFqm15_11 : F11 (qm 15) = cI (cy 1) 6 Xx.2 := by rw [eF11, va_up_ne _ _ (pl_ne hFqm15_10 hFqm7_10 rfl)]; exact hFqm15_10
      have hl : lv_has ls 4 [(3, .int (nI kk)), (2, .int n), (0, .ref o), (1, .int (nI j_lg))] := hl
      refine lv_iload_n hx hb dX9_log_43 rfl (lv_at hl 0 rfl) ?_
      refine lv_iload_n hx hb dX9_log_44 rfl (lv_at hl 1 rfl) ?_
      refine lv_icmp_ge (tgt := 66) hx hb dX9_log_45 (by decide) (fun c12 => ?_) (fun c12 => ?_)
      · refine lv_iconst (v := 1) hx hb dX9_log_66 (by decide) ?_
        exact W.iret (v := 1) hx hb hr (fun t ht hW => ⟨⟨1, F11, rfl, (by have hge : kk = n.toInt.toNat := (by have hc := c12; rw [fa_le, nI_toInt (by omega)] at hc; omega); subst hge; have hsp : sp_log Sl (nI j_lg) n = (1, upd Sl.1 j_lg n, zr Sl.2 (16 * j_lg) n.toInt.toNat) := (by unfold sp_log; rw [hi_lg]; exact if_pos hnr); rw [hsp]; exact ⟨rfl, (by exact ⟨⟨_, _, hmo, hFo_11⟩, ⟨hm0, hFqm0_11⟩, ⟨hm1, hFqm1_11⟩, ⟨hm2, hFqm2_11⟩, ⟨hm3, hFqm3_11⟩, ⟨hm4, hFqm4_11⟩, ⟨hm5, hFqm5_11⟩, ⟨hm6, hFqm6_11⟩, ⟨hm7, hFqm7_11⟩, ⟨hm8, hFqm8_11⟩, ⟨hm9, hFqm9_11⟩, ⟨hm10, hFqm10_11⟩, ⟨hm11, hFqm11_11⟩, ⟨hm12, hFqm12_11⟩, ⟨hm13, hFqm13_11⟩, ⟨hm14, hFqm14_11⟩, ⟨hm15, hFqm15_11⟩, hne⟩)⟩), (by show va_P _ _ _ t.heap; rw [ht]; exact hP)⟩, hS.F ht⟩) hS.2.2 dX9_log_67
      · have hlt : (kk : Int) < n.toInt := by have hc := c12; rw [fa_le, nI_toInt (by omega)] at hc; omega
        refine lv_aload_n hx hb dX9_log_48 rfl (lv_at hl 2 rfl) ?_
        refine pg_get (ci := 8) (C := RX9) (T := TX9) (N := 20) hx hb hts hinX9 hown hK hP hmo hFo_11 rfl 8 (by decide) (hts (.fieldLink RX9 33 "RopeDrumsModel" "logBits" "[J") (by decide +kernel)) (fun _ h9 => h9) rfl dX9_log_49 ?_
        refine lv_bipush (v := 16) hx hb dX9_log_52 (by decide) ?_
        refine lv_iload_n hx hb dX9_log_54 rfl (lv_at hl 3 rfl) ?_
        refine lv_imul hx hb dX9_log_55 ?_
        refine lv_topi (fun v13 ev13 => ?_)
        refine lv_iload_n hx hb dX9_log_56 rfl (lv_at hl 0 rfl) ?_
        refine lv_iadd hx hb dX9_log_57 ?_
        refine lv_topi (fun v14 ev14 => ?_)
        rw [ev13, nI16] at ev14
        subst ev14
        refine lv_lconst (v := 0) hx hb dX9_log_58 (by decide) ?_
        refine pg_last hx hb hK hP hD hS 2 hm7 hFqm7_11 rfl (vp_in_nI (by omega) (by decide)) dX9_log_59 (fun H locs F15 eF15 hP hS => ?_)
        rw [nI_clamp (by omega)] at eF15
        have hFo_15 : F15 o = .inr (8, [.int 0, .ref (qm 0), .ref (qm 1), .ref (qm 2), .ref (qm 3), .ref (qm 4), .ref (qm 5), .ref (qm 6), .ref (qm 7), .int Pp.1, .ref (qm 8), .ref (qm 9), .ref (qm 10), .ref (qm 11), .ref (qm 12), .ref (qm 13), .ref (qm 14), .int Xx.1, .ref (qm 15), .long oc]) := by rw [eF15, va_up_ne _ _ (pl_ne hFo_11 hFqm7_11 rfl)]; exact hFo_11
        have hFqm0_15 : F15 (qm 0) = cI (cy 1) 10 Mm.1 := by rw [eF15, va_up_ne _ _ (pl_ne hFqm0_11 hFqm7_11 rfl)]; exact hFqm0_11
        have hFqm1_15 : F15 (qm 1) = cJ (cy 2) 10 Mm.2 := by rw [eF15, va_up_ne _ _ (pl_ne hFqm1_11 hFqm7_11 rfl)]; exact hFqm1_11
        have hFqm2_15 : F15 (qm 2) = cD (cy 0) 6 Dd.1 := by rw [eF15, va_up_ne _ _ (pl_ne hFqm2_11 hFqm7_11 rfl)]; exact hFqm2_11
        have hFqm3_15 : F15 (qm 3) = cD (cy 0) 6 Dd.2.1 := by rw [eF15, va_up_ne _ _ (pl_ne hFqm3_11 hFqm7_11 rfl)]; exact hFqm3_11
        have hFqm4_15 : F15 (qm 4) = cD (cy 0) 6 Dd.2.2.1 := by rw [eF15, va_up_ne _ _ (pl_ne hFqm4_11 hFqm7_11 rfl)]; exact hFqm4_11
        have hFqm5_15 : F15 (qm 5) = cJ (cy 2) 6 Dd.2.2.2 := by rw [eF15, va_up_ne _ _ (pl_ne hFqm5_11 hFqm7_11 rfl)]; exact hFqm5_11
        have hFqm6_15 : F15 (qm 6) = cI (cy 1) 8 (upd Sl.1 j_lg n) := by rw [eF15, va_up_ne _ _ (pl_ne hFqm6_11 hFqm7_11 rfl)]; exact hFqm6_11
        have hFqm7_15 : F15 (qm 7) = cJ (cy 2) 128 (vp_updL (zr Sl.2 (16 * j_lg) kk) (16 * j_lg + kk) 0) := by rw [eF15]; exact va_up_self _ _ _
        have hFqm8_15 : F15 (qm 8) = cI (cy 1) 30 Pp.2.1 := by rw [eF15, va_up_ne _ _ (pl_ne hFqm8_11 hFqm7_11 rfl)]; exact hFqm8_11
        have hFqm9_15 : F15 (qm 9) = cI (cy 3) 30 Pp.2.2 := by rw [eF15, va_up_ne _ _ (pl_ne hFqm9_11 hFqm7_11 rfl)]; exact hFqm9_11
        have hFqm10_15 : F15 (qm 10) = cI (cy 1) 5 Kr.1 := by rw [eF15, va_up_ne _ _ (pl_ne hFqm10_11 hFqm7_11 rfl)]; exact hFqm10_11
        have hFqm11_15 : F15 (qm 11) = cI (cy 3) 5 Kr.2.1 := by rw [eF15, va_up_ne _ _ (pl_ne hFqm11_11 hFqm7_11 rfl)]; exact hFqm11_11
        have hFqm12_15 : F15 (qm 12) = cI (cy 1) 60 Kr.2.2 := by rw [eF15, va_up_ne _ _ (pl_ne hFqm12_11 hFqm7_11 rfl)]; exact hFqm12_11
        have hFqm13_15 : F15 (qm 13) = cI (cy 1) 4 Bk.1 := by rw [eF15, va_up_ne _ _ (pl_ne hFqm13_11 hFqm7_11 rfl)]; exact hFqm13_11
        have hFqm14_15 : F15 (qm 14) = cD (cy 0) 4 Bk.2 := by rw [eF15, va_up_ne _ _ (pl_ne hFqm14_11 hFqm7_11 rfl)]; exact hFqm14_11
        have hFqm15_15 : F15 (qm 15) = cI (cy 1) 6 Xx.2 := by rw [eF15, va_up_ne _ _ (pl_ne hFqm15_11 hFqm7_11 rfl)]; exact hFqm15_11
        obtain ⟨v16, ev16⟩ : ∃ y : Int32, y = (nI kk) + (1) := ⟨_, rfl⟩
        refine lv_iinc (v := v16) (lv' := [(3, .int v16), (2, .int n), (0, .ref o), (1, .int (nI j_lg))]) hx hb dX9_log_60 hl (k := 0) rfl (by rw [ev16]; rfl) (by decide) rfl (fun ls hl => ?_)
        refine lv_goto (tgt := 43) hx hb dX9_log_63 (by decide) ?_
        have hv : v16 = nI (kk + 1) := by rw [ev16, nI_succ]
        rw [hv] at hl
        exact K (kk + 1) ls H locs (by omega) (by omega) (by rw [← show F15 = va_up F10 (qm 7) (cJ (cy 2) 128 (zr Sl.2 (16 * j_lg) (kk + 1))) from (by rw [eF15, eF11, upup]; exact congrArg (fun x => va_up F10 (qm 7) (cJ (cy 2) 128 x)) (zrs Sl.2 (16 * j_lg) kk))]; exact hP) hS (lv_sub hl [0, 1, 2, 3] rfl)
    · refine lv_aload_n hx hb dX9_log_0 rfl (lv_at hl 0 rfl) ?_
      refine lv_iconst (v := 0) hx hb dX9_log_1 (by decide) ?_
      refine pg_put (ci := 8) (v := .int 0) (ty := .int) (C := RX9) (T := TX9) (N := 20) hx hb hts hinX9 tyX9 tyX9_ok nmX9 hown hK hP hD hS hmo hFo rfl 0 (by decide) (hts (.fieldLink RX9 61 "RopeDrumsModel" "thrown" "I") (by decide +kernel)) (fun _ h9 => h9) rfl (by decide +kernel) (rfl) (rfl) (Nat.le_of_ble_eq_true rfl) dX9_log_2 (fun H locs F17 eF17 hP hS => ?_)
      have eF17 : F17 = va_up F o (.inr (8, [.int 0, .ref (qm 0), .ref (qm 1), .ref (qm 2), .ref (qm 3), .ref (qm 4), .ref (qm 5), .ref (qm 6), .ref (qm 7), .int Pp.1, .ref (qm 8), .ref (qm 9), .ref (qm 10), .ref (qm 11), .ref (qm 12), .ref (qm 13), .ref (qm 14), .int Xx.1, .ref (qm 15), .long oc])) := eF17
      have hFo_17 : F17 o = .inr (8, [.int 0, .ref (qm 0), .ref (qm 1), .ref (qm 2), .ref (qm 3), .ref (qm 4), .ref (qm 5), .ref (qm 6), .ref (qm 7), .int Pp.1, .ref (qm 8), .ref (qm 9), .ref (qm 10), .ref (qm 11), .ref (qm 12), .ref (qm 13), .ref (qm 14), .int Xx.1, .ref (qm 15), .long oc]) := by rw [eF17]; exact va_up_self _ _ _
      have hFqm0_17 : F17 (qm 0) = cI (cy 1) 10 Mm.1 := by rw [eF17, va_up_ne _ _ (pl_ne hF0 hFo rfl)]; exact hF0
      have hFqm1_17 : F17 (qm 1) = cJ (cy 2) 10 Mm.2 := by rw [eF17, va_up_ne _ _ (pl_ne hF1 hFo rfl)]; exact hF1
      have hFqm2_17 : F17 (qm 2) = cD (cy 0) 6 Dd.1 := by rw [eF17, va_up_ne _ _ (pl_ne hF2 hFo rfl)]; exact hF2
      have hFqm3_17 : F17 (qm 3) = cD (cy 0) 6 Dd.2.1 := by rw [eF17, va_up_ne _ _ (pl_ne hF3 hFo rfl)]; exact hF3
      have hFqm4_17 : F17 (qm 4) = cD (cy 0) 6 Dd.2.2.1 := by rw [eF17, va_up_ne _ _ (pl_ne hF4 hFo rfl)]; exact hF4
      have hFqm5_17 : F17 (qm 5) = cJ (cy 2) 6 Dd.2.2.2 := by rw [eF17, va_up_ne _ _ (pl_ne hF5 hFo rfl)]; exact hF5
      have hFqm6_17 : F17 (qm 6) = cI (cy 1) 8 Sl.1 := by rw [eF17, va_up_ne _ _ (pl_ne hF6 hFo rfl)]; exact hF6
      have hFqm7_17 : F17 (qm 7) = cJ (cy 2) 128 Sl.2 := by rw [eF17, va_up_ne _ _ (pl_ne hF7 hFo rfl)]; exact hF7
      have hFqm8_17 : F17 (qm 8) = cI (cy 1) 30 Pp.2.1 := by rw [eF17, va_up_ne _ _ (pl_ne hF8 hFo rfl)]; exact hF8
      have hFqm9_17 : F17 (qm 9) = cI (cy 3) 30 Pp.2.2 := by rw [eF17, va_up_ne _ _ (pl_ne hF9 hFo rfl)]; exact hF9
      have hFqm10_17 : F17 (qm 10) = cI (cy 1) 5 Kr.1 := by rw [eF17, va_up_ne _ _ (pl_ne hF10 hFo rfl)]; exact hF10
      have hFqm11_17 : F17 (qm 11) = cI (cy 3) 5 Kr.2.1 := by rw [eF17, va_up_ne _ _ (pl_ne hF11 hFo rfl)]; exact hF11
      have hFqm12_17 : F17 (qm 12) = cI (cy 1) 60 Kr.2.2 := by rw [eF17, va_up_ne _ _ (pl_ne hF12 hFo rfl)]; exact hF12
      have hFqm13_17 : F17 (qm 13) = cI (cy 1) 4 Bk.1 := by rw [eF17, va_up_ne _ _ (pl_ne hF13 hFo rfl)]; exact hF13
      have hFqm14_17 : F17 (qm 14) = cD (cy 0) 4 Bk.2 := by rw [eF17, va_up_ne _ _ (pl_ne hF14 hFo rfl)]; exact hF14
      have hFqm15_17 : F17 (qm 15) = cI (cy 1) 6 Xx.2 := by rw [eF17, va_up_ne _ _ (pl_ne hF15 hFo rfl)]; exact hF15
      refine lv_iload_n hx hb dX9_log_5 rfl (lv_at hl 1 rfl) ?_
      refine vp_callSi (W.runS (As := [.int (nI j_lg)]) (rest := []) ⟨hx, hb, hml, hown, hts⟩ (c9_isLog l (nI j_lg)) (va_cwS 1 hts gX9_log_X9_isLog rfl rfl rfl (by decide +kernel) ⟨Nat.le_of_ble_eq_true rfl, Nat.le_of_ble_eq_true rfl⟩) (preS_of okT (trivial)) rfl rfl hl.1 rfl (lv_room (Nat.le_of_ble_eq_true rfl)) dX9_log_6 ⟨Nat.le_of_ble_eq_true rfl, Nat.le_of_ble_eq_true rfl⟩) (fun r18 hr18 => ?_)
      rw [isx1 hi_lg] at hr18
      subst hr18
      refine lv_if_ne (tgt := 16) hx hb dX9_log_9 (by decide) (fun c19 => ?_) (fun c19 => absurd c19 (by decide))
      refine lv_iload_n hx hb dX9_log_16 rfl (lv_at hl 2 rfl) ?_
      refine lv_i2l hx hb dX9_log_17 rfl ?_
      refine lv_topl (fun v20 ev20 => ?_)
      refine lv_ldc2 hx hb hown (hts (.constantLong RX9 181 (-1)) (by decide +kernel)) dX9_log_18 ?_
      refine lv_ldc2 hx hb hown (hts (.constantLong RX9 183 (16)) (by decide +kernel)) dX9_log_21 ?_
      refine vp_callSi (W.runS (As := [.long v20, .long (-1), .long 16]) (rest := []) ⟨hx, hb, hml, hown, hts⟩ (c9_in l v20 (-1) 16) (va_cwS 3 hts gX9_log_X9_in rfl rfl rfl (by decide +kernel) ⟨Nat.le_of_ble_eq_true rfl, Nat.le_of_ble_eq_true rfl⟩) (preS_of okT (trivial)) rfl rfl hl.1 rfl (lv_room (Nat.le_of_ble_eq_true rfl)) dX9_log_24 ⟨Nat.le_of_ble_eq_true rfl, Nat.le_of_ble_eq_true rfl⟩) (fun r21 hr21 => ?_)
      have hzr21 : r21 = 0 := by rw [hr21, ev20, inq_i (y := -1) (z := 16) (by decide) (by decide)]; exact if_neg (hnr)
      subst hzr21
      refine lv_if_ne (tgt := 34) hx hb dX9_log_27 (by decide) (fun c22 => absurd (by decide) c22) (fun c22 => ?_)
      refine lv_sipush (v := -1002) hx hb dX9_log_30 (by decide) ?_
      exact W.iret (v := -1002) hx hb hr (fun t ht hW => ⟨⟨-1002, F17, rfl, (by subst ev20; have hsp : sp_log Sl (nI j_lg) n = (-1002, Sl) := (by unfold sp_log; rw [hi_lg]; exact if_neg hnr); rw [hsp]; exact ⟨rfl, (by exact ⟨⟨_, _, hmo, hFo_17⟩, ⟨hm0, hFqm0_17⟩, ⟨hm1, hFqm1_17⟩, ⟨hm2, hFqm2_17⟩, ⟨hm3, hFqm3_17⟩, ⟨hm4, hFqm4_17⟩, ⟨hm5, hFqm5_17⟩, ⟨hm6, hFqm6_17⟩, ⟨hm7, hFqm7_17⟩, ⟨hm8, hFqm8_17⟩, ⟨hm9, hFqm9_17⟩, ⟨hm10, hFqm10_17⟩, ⟨hm11, hFqm11_17⟩, ⟨hm12, hFqm12_17⟩, ⟨hm13, hFqm13_17⟩, ⟨hm14, hFqm14_17⟩, ⟨hm15, hFqm15_17⟩, hne⟩)⟩), (by show va_P _ _ _ t.heap; rw [ht]; exact hP)⟩, hS.F ht⟩) hS.2.2 dX9_log_33

set_option maxHeartbeats 8000000 in
set_option maxRecDepth 100000 in
theorem n_write (l : Launch) (G : va_G) (cy : Nat → ClassId) (L : List Nat) (F : Nat → va_E) (sz : Nat) (o : Nat) (qm : Nat → Nat) (Mm : SM) (Dd : SD) (Sl : SL) (Pp : SP) (Kr : SR) (Bk : SB) (Xx : SX) (hR : RepM cy L o qm Mm Dd Sl Pp Kr Bk Xx F) (hV : Val Mm Dd Sl Pp Kr Bk) (lg i me : Int32)  : Met l yX9_write wsX9_write ({ frames := 3, cells := 0, slots := 0, locals := 70 }) (va_Pc [.ref o, .int lg, .int i, .int me] (fun U => bQ G cy L F sz U U.heap)) (va_Qi (fun (r : Int32) (F' : Nat → va_E) => r = (sp_write Mm Sl Xx lg i me).1 ∧ RepM cy L o qm Mm Dd (sp_write Mm Sl Xx lg i me).2.1 Pp Kr Bk (sp_write Mm Sl Xx lg i me).2.2 F') (fun F' t => va_P G vwCl (va_pl L F') t.heap) (va_A (va_pl L F) sz)) 0 0 (va_A (va_pl L F) sz) := by
  refine Met.ofW (cc := cX9_write) (maxL := 4) (ret := (some .int)) (by decide) rfl ?_
  intro p e s m args below meth c s₁ B hml hv
  obtain ⟨rfl, hsz, hP, hK, hD0⟩ := hv
  have hx := B.exec
  have hb := B.bytes
  have hr := B.returns
  have hts := atoms_spec (ws := wsX9_write) B.pre
  have hown : s.vm.findClass RX9 = some m.cls := findClass_of_methodNamed B.named
  have hlocks := B.notSynchronized
  have hinX9 : ∀ w ∈ wsX90, w ∈ wsX9_write := by decide +kernel
  subst hsz
  have hD := hD0.self F s.heap.size
  generalize hAe : va_A (va_pl L F) s.heap.size = A at hD ⊢
  have hA : ∀ q : Nat, s.heap.size ≤ q → A q := fun q h => by rw [← hAe]; exact Or.inr h
  have hS : va_S A s.heap s.heap [] := va_S.rf
  obtain ⟨⟨th, oc, hmo, hFo⟩, ⟨hm0, hF0⟩, ⟨hm1, hF1⟩, ⟨hm2, hF2⟩, ⟨hm3, hF3⟩, ⟨hm4, hF4⟩, ⟨hm5, hF5⟩, ⟨hm6, hF6⟩, ⟨hm7, hF7⟩, ⟨hm8, hF8⟩, ⟨hm9, hF9⟩, ⟨hm10, hF10⟩, ⟨hm11, hF11⟩, ⟨hm12, hF12⟩, ⟨hm13, hF13⟩, ⟨hm14, hF14⟩, ⟨hm15, hF15⟩, hne⟩ := id hR
  obtain ⟨hVM, hVD, hVS, hVP, hVK, hVB⟩ := hV
  have hl := lv_entry ([.ref o, .int lg, .int i, .int me]) (n := 4) (Nat.le_of_ble_eq_true rfl)
  rw [lg_entry_eq]
  generalize (lg_sl ([.ref o, .int lg, .int i, .int me]) ++ List.replicate (4 - (lg_sl ([.ref o, .int lg, .int i, .int me])).length) Slot.unset).toArray = ls at hl ⊢
  have hl : lv_has ls 4 [(0, .ref o), (1, .int lg), (2, .int i), (3, .int me)] := hl
  rcases ixc 8 lg with hi_lg | ⟨j_lg, hj_lg, hi_lg, ei_lg⟩
  · rcases ixc 10 me with hi_me | ⟨j_me, hj_me, hi_me, ei_me⟩
    · refine lv_aload_n hx hb dX9_write_0 rfl (lv_at hl 0 rfl) ?_
      refine lv_iconst (v := 0) hx hb dX9_write_1 (by decide) ?_
      refine pg_put (ci := 8) (v := .int 0) (ty := .int) (C := RX9) (T := TX9) (N := 20) hx hb hts hinX9 tyX9 tyX9_ok nmX9 hown hK hP hD hS hmo hFo rfl 0 (by decide) (hts (.fieldLink RX9 61 "RopeDrumsModel" "thrown" "I") (by decide +kernel)) (fun _ h9 => h9) rfl (by decide +kernel) (rfl) (rfl) (Nat.le_of_ble_eq_true rfl) dX9_write_2 (fun H locs F1 eF1 hP hS => ?_)
      have eF1 : F1 = va_up F o (.inr (8, [.int 0, .ref (qm 0), .ref (qm 1), .ref (qm 2), .ref (qm 3), .ref (qm 4), .ref (qm 5), .ref (qm 6), .ref (qm 7), .int Pp.1, .ref (qm 8), .ref (qm 9), .ref (qm 10), .ref (qm 11), .ref (qm 12), .ref (qm 13), .ref (qm 14), .int Xx.1, .ref (qm 15), .long oc])) := eF1
      have hFo_1 : F1 o = .inr (8, [.int 0, .ref (qm 0), .ref (qm 1), .ref (qm 2), .ref (qm 3), .ref (qm 4), .ref (qm 5), .ref (qm 6), .ref (qm 7), .int Pp.1, .ref (qm 8), .ref (qm 9), .ref (qm 10), .ref (qm 11), .ref (qm 12), .ref (qm 13), .ref (qm 14), .int Xx.1, .ref (qm 15), .long oc]) := by rw [eF1]; exact va_up_self _ _ _
      have hFqm0_1 : F1 (qm 0) = cI (cy 1) 10 Mm.1 := by rw [eF1, va_up_ne _ _ (pl_ne hF0 hFo rfl)]; exact hF0
      have hFqm1_1 : F1 (qm 1) = cJ (cy 2) 10 Mm.2 := by rw [eF1, va_up_ne _ _ (pl_ne hF1 hFo rfl)]; exact hF1
      have hFqm2_1 : F1 (qm 2) = cD (cy 0) 6 Dd.1 := by rw [eF1, va_up_ne _ _ (pl_ne hF2 hFo rfl)]; exact hF2
      have hFqm3_1 : F1 (qm 3) = cD (cy 0) 6 Dd.2.1 := by rw [eF1, va_up_ne _ _ (pl_ne hF3 hFo rfl)]; exact hF3
      have hFqm4_1 : F1 (qm 4) = cD (cy 0) 6 Dd.2.2.1 := by rw [eF1, va_up_ne _ _ (pl_ne hF4 hFo rfl)]; exact hF4
      have hFqm5_1 : F1 (qm 5) = cJ (cy 2) 6 Dd.2.2.2 := by rw [eF1, va_up_ne _ _ (pl_ne hF5 hFo rfl)]; exact hF5
      have hFqm6_1 : F1 (qm 6) = cI (cy 1) 8 Sl.1 := by rw [eF1, va_up_ne _ _ (pl_ne hF6 hFo rfl)]; exact hF6
      have hFqm7_1 : F1 (qm 7) = cJ (cy 2) 128 Sl.2 := by rw [eF1, va_up_ne _ _ (pl_ne hF7 hFo rfl)]; exact hF7
      have hFqm8_1 : F1 (qm 8) = cI (cy 1) 30 Pp.2.1 := by rw [eF1, va_up_ne _ _ (pl_ne hF8 hFo rfl)]; exact hF8
      have hFqm9_1 : F1 (qm 9) = cI (cy 3) 30 Pp.2.2 := by rw [eF1, va_up_ne _ _ (pl_ne hF9 hFo rfl)]; exact hF9
      have hFqm10_1 : F1 (qm 10) = cI (cy 1) 5 Kr.1 := by rw [eF1, va_up_ne _ _ (pl_ne hF10 hFo rfl)]; exact hF10
      have hFqm11_1 : F1 (qm 11) = cI (cy 3) 5 Kr.2.1 := by rw [eF1, va_up_ne _ _ (pl_ne hF11 hFo rfl)]; exact hF11
      have hFqm12_1 : F1 (qm 12) = cI (cy 1) 60 Kr.2.2 := by rw [eF1, va_up_ne _ _ (pl_ne hF12 hFo rfl)]; exact hF12
      have hFqm13_1 : F1 (qm 13) = cI (cy 1) 4 Bk.1 := by rw [eF1, va_up_ne _ _ (pl_ne hF13 hFo rfl)]; exact hF13
      have hFqm14_1 : F1 (qm 14) = cD (cy 0) 4 Bk.2 := by rw [eF1, va_up_ne _ _ (pl_ne hF14 hFo rfl)]; exact hF14
      have hFqm15_1 : F1 (qm 15) = cI (cy 1) 6 Xx.2 := by rw [eF1, va_up_ne _ _ (pl_ne hF15 hFo rfl)]; exact hF15
      refine lv_iload_n hx hb dX9_write_5 rfl (lv_at hl 1 rfl) ?_
      refine vp_callSi (W.runS (As := [.int lg]) (rest := []) ⟨hx, hb, hml, hown, hts⟩ (c9_isLog l lg) (va_cwS 1 hts gX9_write_X9_isLog rfl rfl rfl (by decide +kernel) ⟨Nat.le_of_ble_eq_true rfl, Nat.le_of_ble_eq_true rfl⟩) (preS_of okT (trivial)) rfl rfl hl.1 rfl (lv_room (Nat.le_of_ble_eq_true rfl)) dX9_write_6 ⟨Nat.le_of_ble_eq_true rfl, Nat.le_of_ble_eq_true rfl⟩) (fun r2 hr2 => ?_)
      rw [isx0 hi_lg] at hr2
      subst hr2
      refine lv_if_eq (tgt := 19) hx hb dX9_write_9 (by decide) (fun c3 => ?_) (fun c3 => absurd (by decide) c3)
      refine lv_sipush (v := -1001) hx hb dX9_write_19 (by decide) ?_
      exact W.iret (v := -1001) hx hb hr (fun t ht hW => ⟨⟨-1001, F1, rfl, (by have hsp : sp_write Mm Sl Xx lg i me = (-1001, Sl, Xx) := (by unfold sp_write; rw [hi_lg]); rw [hsp]; exact ⟨rfl, (by exact ⟨⟨_, _, hmo, hFo_1⟩, ⟨hm0, hFqm0_1⟩, ⟨hm1, hFqm1_1⟩, ⟨hm2, hFqm2_1⟩, ⟨hm3, hFqm3_1⟩, ⟨hm4, hFqm4_1⟩, ⟨hm5, hFqm5_1⟩, ⟨hm6, hFqm6_1⟩, ⟨hm7, hFqm7_1⟩, ⟨hm8, hFqm8_1⟩, ⟨hm9, hFqm9_1⟩, ⟨hm10, hFqm10_1⟩, ⟨hm11, hFqm11_1⟩, ⟨hm12, hFqm12_1⟩, ⟨hm13, hFqm13_1⟩, ⟨hm14, hFqm14_1⟩, ⟨hm15, hFqm15_1⟩, hne⟩)⟩), (by show va_P _ _ _ t.heap; rw [ht]; exact hP)⟩, hS.F ht⟩) hS.2.2 dX9_write_22
    · subst ei_me
      refine lv_aload_n hx hb dX9_write_0 rfl (lv_at hl 0 rfl) ?_
      refine lv_iconst (v := 0) hx hb dX9_write_1 (by decide) ?_
      refine pg_put (ci := 8) (v := .int 0) (ty := .int) (C := RX9) (T := TX9) (N := 20) hx hb hts hinX9 tyX9 tyX9_ok nmX9 hown hK hP hD hS hmo hFo rfl 0 (by decide) (hts (.fieldLink RX9 61 "RopeDrumsModel" "thrown" "I") (by decide +kernel)) (fun _ h9 => h9) rfl (by decide +kernel) (rfl) (rfl) (Nat.le_of_ble_eq_true rfl) dX9_write_2 (fun H locs F4 eF4 hP hS => ?_)
      have eF4 : F4 = va_up F o (.inr (8, [.int 0, .ref (qm 0), .ref (qm 1), .ref (qm 2), .ref (qm 3), .ref (qm 4), .ref (qm 5), .ref (qm 6), .ref (qm 7), .int Pp.1, .ref (qm 8), .ref (qm 9), .ref (qm 10), .ref (qm 11), .ref (qm 12), .ref (qm 13), .ref (qm 14), .int Xx.1, .ref (qm 15), .long oc])) := eF4
      have hFo_4 : F4 o = .inr (8, [.int 0, .ref (qm 0), .ref (qm 1), .ref (qm 2), .ref (qm 3), .ref (qm 4), .ref (qm 5), .ref (qm 6), .ref (qm 7), .int Pp.1, .ref (qm 8), .ref (qm 9), .ref (qm 10), .ref (qm 11), .ref (qm 12), .ref (qm 13), .ref (qm 14), .int Xx.1, .ref (qm 15), .long oc]) := by rw [eF4]; exact va_up_self _ _ _
      have hFqm0_4 : F4 (qm 0) = cI (cy 1) 10 Mm.1 := by rw [eF4, va_up_ne _ _ (pl_ne hF0 hFo rfl)]; exact hF0
      have hFqm1_4 : F4 (qm 1) = cJ (cy 2) 10 Mm.2 := by rw [eF4, va_up_ne _ _ (pl_ne hF1 hFo rfl)]; exact hF1
      have hFqm2_4 : F4 (qm 2) = cD (cy 0) 6 Dd.1 := by rw [eF4, va_up_ne _ _ (pl_ne hF2 hFo rfl)]; exact hF2
      have hFqm3_4 : F4 (qm 3) = cD (cy 0) 6 Dd.2.1 := by rw [eF4, va_up_ne _ _ (pl_ne hF3 hFo rfl)]; exact hF3
      have hFqm4_4 : F4 (qm 4) = cD (cy 0) 6 Dd.2.2.1 := by rw [eF4, va_up_ne _ _ (pl_ne hF4 hFo rfl)]; exact hF4
      have hFqm5_4 : F4 (qm 5) = cJ (cy 2) 6 Dd.2.2.2 := by rw [eF4, va_up_ne _ _ (pl_ne hF5 hFo rfl)]; exact hF5
      have hFqm6_4 : F4 (qm 6) = cI (cy 1) 8 Sl.1 := by rw [eF4, va_up_ne _ _ (pl_ne hF6 hFo rfl)]; exact hF6
      have hFqm7_4 : F4 (qm 7) = cJ (cy 2) 128 Sl.2 := by rw [eF4, va_up_ne _ _ (pl_ne hF7 hFo rfl)]; exact hF7
      have hFqm8_4 : F4 (qm 8) = cI (cy 1) 30 Pp.2.1 := by rw [eF4, va_up_ne _ _ (pl_ne hF8 hFo rfl)]; exact hF8
      have hFqm9_4 : F4 (qm 9) = cI (cy 3) 30 Pp.2.2 := by rw [eF4, va_up_ne _ _ (pl_ne hF9 hFo rfl)]; exact hF9
      have hFqm10_4 : F4 (qm 10) = cI (cy 1) 5 Kr.1 := by rw [eF4, va_up_ne _ _ (pl_ne hF10 hFo rfl)]; exact hF10
      have hFqm11_4 : F4 (qm 11) = cI (cy 3) 5 Kr.2.1 := by rw [eF4, va_up_ne _ _ (pl_ne hF11 hFo rfl)]; exact hF11
      have hFqm12_4 : F4 (qm 12) = cI (cy 1) 60 Kr.2.2 := by rw [eF4, va_up_ne _ _ (pl_ne hF12 hFo rfl)]; exact hF12
      have hFqm13_4 : F4 (qm 13) = cI (cy 1) 4 Bk.1 := by rw [eF4, va_up_ne _ _ (pl_ne hF13 hFo rfl)]; exact hF13
      have hFqm14_4 : F4 (qm 14) = cD (cy 0) 4 Bk.2 := by rw [eF4, va_up_ne _ _ (pl_ne hF14 hFo rfl)]; exact hF14
      have hFqm15_4 : F4 (qm 15) = cI (cy 1) 6 Xx.2 := by rw [eF4, va_up_ne _ _ (pl_ne hF15 hFo rfl)]; exact hF15
      refine lv_iload_n hx hb dX9_write_5 rfl (lv_at hl 1 rfl) ?_
      refine vp_callSi (W.runS (As := [.int lg]) (rest := []) ⟨hx, hb, hml, hown, hts⟩ (c9_isLog l lg) (va_cwS 1 hts gX9_write_X9_isLog rfl rfl rfl (by decide +kernel) ⟨Nat.le_of_ble_eq_true rfl, Nat.le_of_ble_eq_true rfl⟩) (preS_of okT (trivial)) rfl rfl hl.1 rfl (lv_room (Nat.le_of_ble_eq_true rfl)) dX9_write_6 ⟨Nat.le_of_ble_eq_true rfl, Nat.le_of_ble_eq_true rfl⟩) (fun r5 hr5 => ?_)
      rw [isx0 hi_lg] at hr5
      subst hr5
      refine lv_if_eq (tgt := 19) hx hb dX9_write_9 (by decide) (fun c6 => ?_) (fun c6 => absurd (by decide) c6)
      refine lv_sipush (v := -1001) hx hb dX9_write_19 (by decide) ?_
      exact W.iret (v := -1001) hx hb hr (fun t ht hW => ⟨⟨-1001, F4, rfl, (by have hsp : sp_write Mm Sl Xx lg i (nI j_me) = (-1001, Sl, Xx) := (by unfold sp_write; rw [hi_lg]); rw [hsp]; exact ⟨rfl, (by exact ⟨⟨_, _, hmo, hFo_4⟩, ⟨hm0, hFqm0_4⟩, ⟨hm1, hFqm1_4⟩, ⟨hm2, hFqm2_4⟩, ⟨hm3, hFqm3_4⟩, ⟨hm4, hFqm4_4⟩, ⟨hm5, hFqm5_4⟩, ⟨hm6, hFqm6_4⟩, ⟨hm7, hFqm7_4⟩, ⟨hm8, hFqm8_4⟩, ⟨hm9, hFqm9_4⟩, ⟨hm10, hFqm10_4⟩, ⟨hm11, hFqm11_4⟩, ⟨hm12, hFqm12_4⟩, ⟨hm13, hFqm13_4⟩, ⟨hm14, hFqm14_4⟩, ⟨hm15, hFqm15_4⟩, hne⟩)⟩), (by show va_P _ _ _ t.heap; rw [ht]; exact hP)⟩, hS.F ht⟩) hS.2.2 dX9_write_22
  · subst ei_lg
    rcases ixc 10 me with hi_me | ⟨j_me, hj_me, hi_me, ei_me⟩
    · refine lv_aload_n hx hb dX9_write_0 rfl (lv_at hl 0 rfl) ?_
      refine lv_iconst (v := 0) hx hb dX9_write_1 (by decide) ?_
      refine pg_put (ci := 8) (v := .int 0) (ty := .int) (C := RX9) (T := TX9) (N := 20) hx hb hts hinX9 tyX9 tyX9_ok nmX9 hown hK hP hD hS hmo hFo rfl 0 (by decide) (hts (.fieldLink RX9 61 "RopeDrumsModel" "thrown" "I") (by decide +kernel)) (fun _ h9 => h9) rfl (by decide +kernel) (rfl) (rfl) (Nat.le_of_ble_eq_true rfl) dX9_write_2 (fun H locs F7 eF7 hP hS => ?_)
      have eF7 : F7 = va_up F o (.inr (8, [.int 0, .ref (qm 0), .ref (qm 1), .ref (qm 2), .ref (qm 3), .ref (qm 4), .ref (qm 5), .ref (qm 6), .ref (qm 7), .int Pp.1, .ref (qm 8), .ref (qm 9), .ref (qm 10), .ref (qm 11), .ref (qm 12), .ref (qm 13), .ref (qm 14), .int Xx.1, .ref (qm 15), .long oc])) := eF7
      have hFo_7 : F7 o = .inr (8, [.int 0, .ref (qm 0), .ref (qm 1), .ref (qm 2), .ref (qm 3), .ref (qm 4), .ref (qm 5), .ref (qm 6), .ref (qm 7), .int Pp.1, .ref (qm 8), .ref (qm 9), .ref (qm 10), .ref (qm 11), .ref (qm 12), .ref (qm 13), .ref (qm 14), .int Xx.1, .ref (qm 15), .long oc]) := by rw [eF7]; exact va_up_self _ _ _
      have hFqm0_7 : F7 (qm 0) = cI (cy 1) 10 Mm.1 := by rw [eF7, va_up_ne _ _ (pl_ne hF0 hFo rfl)]; exact hF0
      have hFqm1_7 : F7 (qm 1) = cJ (cy 2) 10 Mm.2 := by rw [eF7, va_up_ne _ _ (pl_ne hF1 hFo rfl)]; exact hF1
      have hFqm2_7 : F7 (qm 2) = cD (cy 0) 6 Dd.1 := by rw [eF7, va_up_ne _ _ (pl_ne hF2 hFo rfl)]; exact hF2
      have hFqm3_7 : F7 (qm 3) = cD (cy 0) 6 Dd.2.1 := by rw [eF7, va_up_ne _ _ (pl_ne hF3 hFo rfl)]; exact hF3
      have hFqm4_7 : F7 (qm 4) = cD (cy 0) 6 Dd.2.2.1 := by rw [eF7, va_up_ne _ _ (pl_ne hF4 hFo rfl)]; exact hF4
      have hFqm5_7 : F7 (qm 5) = cJ (cy 2) 6 Dd.2.2.2 := by rw [eF7, va_up_ne _ _ (pl_ne hF5 hFo rfl)]; exact hF5
      have hFqm6_7 : F7 (qm 6) = cI (cy 1) 8 Sl.1 := by rw [eF7, va_up_ne _ _ (pl_ne hF6 hFo rfl)]; exact hF6
      have hFqm7_7 : F7 (qm 7) = cJ (cy 2) 128 Sl.2 := by rw [eF7, va_up_ne _ _ (pl_ne hF7 hFo rfl)]; exact hF7
      have hFqm8_7 : F7 (qm 8) = cI (cy 1) 30 Pp.2.1 := by rw [eF7, va_up_ne _ _ (pl_ne hF8 hFo rfl)]; exact hF8
      have hFqm9_7 : F7 (qm 9) = cI (cy 3) 30 Pp.2.2 := by rw [eF7, va_up_ne _ _ (pl_ne hF9 hFo rfl)]; exact hF9
      have hFqm10_7 : F7 (qm 10) = cI (cy 1) 5 Kr.1 := by rw [eF7, va_up_ne _ _ (pl_ne hF10 hFo rfl)]; exact hF10
      have hFqm11_7 : F7 (qm 11) = cI (cy 3) 5 Kr.2.1 := by rw [eF7, va_up_ne _ _ (pl_ne hF11 hFo rfl)]; exact hF11
      have hFqm12_7 : F7 (qm 12) = cI (cy 1) 60 Kr.2.2 := by rw [eF7, va_up_ne _ _ (pl_ne hF12 hFo rfl)]; exact hF12
      have hFqm13_7 : F7 (qm 13) = cI (cy 1) 4 Bk.1 := by rw [eF7, va_up_ne _ _ (pl_ne hF13 hFo rfl)]; exact hF13
      have hFqm14_7 : F7 (qm 14) = cD (cy 0) 4 Bk.2 := by rw [eF7, va_up_ne _ _ (pl_ne hF14 hFo rfl)]; exact hF14
      have hFqm15_7 : F7 (qm 15) = cI (cy 1) 6 Xx.2 := by rw [eF7, va_up_ne _ _ (pl_ne hF15 hFo rfl)]; exact hF15
      refine lv_iload_n hx hb dX9_write_5 rfl (lv_at hl 1 rfl) ?_
      refine vp_callSi (W.runS (As := [.int (nI j_lg)]) (rest := []) ⟨hx, hb, hml, hown, hts⟩ (c9_isLog l (nI j_lg)) (va_cwS 1 hts gX9_write_X9_isLog rfl rfl rfl (by decide +kernel) ⟨Nat.le_of_ble_eq_true rfl, Nat.le_of_ble_eq_true rfl⟩) (preS_of okT (trivial)) rfl rfl hl.1 rfl (lv_room (Nat.le_of_ble_eq_true rfl)) dX9_write_6 ⟨Nat.le_of_ble_eq_true rfl, Nat.le_of_ble_eq_true rfl⟩) (fun r8 hr8 => ?_)
      rw [isx1 hi_lg] at hr8
      subst hr8
      refine lv_if_eq (tgt := 19) hx hb dX9_write_9 (by decide) (fun c9 => absurd c9 (by decide)) (fun c9 => ?_)
      refine lv_iload_n hx hb dX9_write_12 rfl (lv_at hl 3 rfl) ?_
      refine vp_callSi (W.runS (As := [.int me]) (rest := []) ⟨hx, hb, hml, hown, hts⟩ (c9_isMeter l me) (va_cwS 1 hts gX9_write_X9_isMeter rfl rfl rfl (by decide +kernel) ⟨Nat.le_of_ble_eq_true rfl, Nat.le_of_ble_eq_true rfl⟩) (preS_of okT (trivial)) rfl rfl hl.1 rfl (lv_room (Nat.le_of_ble_eq_true rfl)) dX9_write_13 ⟨Nat.le_of_ble_eq_true rfl, Nat.le_of_ble_eq_true rfl⟩) (fun r10 hr10 => ?_)
      rw [isx0 hi_me] at hr10
      subst hr10
      refine lv_if_ne (tgt := 23) hx hb dX9_write_16 (by decide) (fun c11 => absurd (by decide) c11) (fun c11 => ?_)
      refine lv_sipush (v := -1001) hx hb dX9_write_19 (by decide) ?_
      exact W.iret (v := -1001) hx hb hr (fun t ht hW => ⟨⟨-1001, F7, rfl, (by have hsp : sp_write Mm Sl Xx (nI j_lg) i me = (-1001, Sl, Xx) := (by unfold sp_write; rw [hi_lg, hi_me]); rw [hsp]; exact ⟨rfl, (by exact ⟨⟨_, _, hmo, hFo_7⟩, ⟨hm0, hFqm0_7⟩, ⟨hm1, hFqm1_7⟩, ⟨hm2, hFqm2_7⟩, ⟨hm3, hFqm3_7⟩, ⟨hm4, hFqm4_7⟩, ⟨hm5, hFqm5_7⟩, ⟨hm6, hFqm6_7⟩, ⟨hm7, hFqm7_7⟩, ⟨hm8, hFqm8_7⟩, ⟨hm9, hFqm9_7⟩, ⟨hm10, hFqm10_7⟩, ⟨hm11, hFqm11_7⟩, ⟨hm12, hFqm12_7⟩, ⟨hm13, hFqm13_7⟩, ⟨hm14, hFqm14_7⟩, ⟨hm15, hFqm15_7⟩, hne⟩)⟩), (by show va_P _ _ _ t.heap; rw [ht]; exact hP)⟩, hS.F ht⟩) hS.2.2 dX9_write_22
    · subst ei_me
      rcases lackc (i := i) (by decide) ((hVS j_lg hj_lg).1) with ⟨hp_i, hk_i⟩ | ⟨hp_i, hk_i⟩ | ⟨q_i, hq_i, hs_i, hp_i, hk_i, ei_i⟩
      · have hp0_i : ¬ pl0 (Sl.1 j_lg) i = 0 := by rw [hp_i]; decide
        refine lv_aload_n hx hb dX9_write_0 rfl (lv_at hl 0 rfl) ?_
        refine lv_iconst (v := 0) hx hb dX9_write_1 (by decide) ?_
        refine pg_put (ci := 8) (v := .int 0) (ty := .int) (C := RX9) (T := TX9) (N := 20) hx hb hts hinX9 tyX9 tyX9_ok nmX9 hown hK hP hD hS hmo hFo rfl 0 (by decide) (hts (.fieldLink RX9 61 "RopeDrumsModel" "thrown" "I") (by decide +kernel)) (fun _ h9 => h9) rfl (by decide +kernel) (rfl) (rfl) (Nat.le_of_ble_eq_true rfl) dX9_write_2 (fun H locs F12 eF12 hP hS => ?_)
        have eF12 : F12 = va_up F o (.inr (8, [.int 0, .ref (qm 0), .ref (qm 1), .ref (qm 2), .ref (qm 3), .ref (qm 4), .ref (qm 5), .ref (qm 6), .ref (qm 7), .int Pp.1, .ref (qm 8), .ref (qm 9), .ref (qm 10), .ref (qm 11), .ref (qm 12), .ref (qm 13), .ref (qm 14), .int Xx.1, .ref (qm 15), .long oc])) := eF12
        have hFo_12 : F12 o = .inr (8, [.int 0, .ref (qm 0), .ref (qm 1), .ref (qm 2), .ref (qm 3), .ref (qm 4), .ref (qm 5), .ref (qm 6), .ref (qm 7), .int Pp.1, .ref (qm 8), .ref (qm 9), .ref (qm 10), .ref (qm 11), .ref (qm 12), .ref (qm 13), .ref (qm 14), .int Xx.1, .ref (qm 15), .long oc]) := by rw [eF12]; exact va_up_self _ _ _
        have hFqm0_12 : F12 (qm 0) = cI (cy 1) 10 Mm.1 := by rw [eF12, va_up_ne _ _ (pl_ne hF0 hFo rfl)]; exact hF0
        have hFqm1_12 : F12 (qm 1) = cJ (cy 2) 10 Mm.2 := by rw [eF12, va_up_ne _ _ (pl_ne hF1 hFo rfl)]; exact hF1
        have hFqm2_12 : F12 (qm 2) = cD (cy 0) 6 Dd.1 := by rw [eF12, va_up_ne _ _ (pl_ne hF2 hFo rfl)]; exact hF2
        have hFqm3_12 : F12 (qm 3) = cD (cy 0) 6 Dd.2.1 := by rw [eF12, va_up_ne _ _ (pl_ne hF3 hFo rfl)]; exact hF3
        have hFqm4_12 : F12 (qm 4) = cD (cy 0) 6 Dd.2.2.1 := by rw [eF12, va_up_ne _ _ (pl_ne hF4 hFo rfl)]; exact hF4
        have hFqm5_12 : F12 (qm 5) = cJ (cy 2) 6 Dd.2.2.2 := by rw [eF12, va_up_ne _ _ (pl_ne hF5 hFo rfl)]; exact hF5
        have hFqm6_12 : F12 (qm 6) = cI (cy 1) 8 Sl.1 := by rw [eF12, va_up_ne _ _ (pl_ne hF6 hFo rfl)]; exact hF6
        have hFqm7_12 : F12 (qm 7) = cJ (cy 2) 128 Sl.2 := by rw [eF12, va_up_ne _ _ (pl_ne hF7 hFo rfl)]; exact hF7
        have hFqm8_12 : F12 (qm 8) = cI (cy 1) 30 Pp.2.1 := by rw [eF12, va_up_ne _ _ (pl_ne hF8 hFo rfl)]; exact hF8
        have hFqm9_12 : F12 (qm 9) = cI (cy 3) 30 Pp.2.2 := by rw [eF12, va_up_ne _ _ (pl_ne hF9 hFo rfl)]; exact hF9
        have hFqm10_12 : F12 (qm 10) = cI (cy 1) 5 Kr.1 := by rw [eF12, va_up_ne _ _ (pl_ne hF10 hFo rfl)]; exact hF10
        have hFqm11_12 : F12 (qm 11) = cI (cy 3) 5 Kr.2.1 := by rw [eF12, va_up_ne _ _ (pl_ne hF11 hFo rfl)]; exact hF11
        have hFqm12_12 : F12 (qm 12) = cI (cy 1) 60 Kr.2.2 := by rw [eF12, va_up_ne _ _ (pl_ne hF12 hFo rfl)]; exact hF12
        have hFqm13_12 : F12 (qm 13) = cI (cy 1) 4 Bk.1 := by rw [eF12, va_up_ne _ _ (pl_ne hF13 hFo rfl)]; exact hF13
        have hFqm14_12 : F12 (qm 14) = cD (cy 0) 4 Bk.2 := by rw [eF12, va_up_ne _ _ (pl_ne hF14 hFo rfl)]; exact hF14
        have hFqm15_12 : F12 (qm 15) = cI (cy 1) 6 Xx.2 := by rw [eF12, va_up_ne _ _ (pl_ne hF15 hFo rfl)]; exact hF15
        refine lv_iload_n hx hb dX9_write_5 rfl (lv_at hl 1 rfl) ?_
        refine vp_callSi (W.runS (As := [.int (nI j_lg)]) (rest := []) ⟨hx, hb, hml, hown, hts⟩ (c9_isLog l (nI j_lg)) (va_cwS 1 hts gX9_write_X9_isLog rfl rfl rfl (by decide +kernel) ⟨Nat.le_of_ble_eq_true rfl, Nat.le_of_ble_eq_true rfl⟩) (preS_of okT (trivial)) rfl rfl hl.1 rfl (lv_room (Nat.le_of_ble_eq_true rfl)) dX9_write_6 ⟨Nat.le_of_ble_eq_true rfl, Nat.le_of_ble_eq_true rfl⟩) (fun r13 hr13 => ?_)
        rw [isx1 hi_lg] at hr13
        subst hr13
        refine lv_if_eq (tgt := 19) hx hb dX9_write_9 (by decide) (fun c14 => absurd c14 (by decide)) (fun c14 => ?_)
        refine lv_iload_n hx hb dX9_write_12 rfl (lv_at hl 3 rfl) ?_
        refine vp_callSi (W.runS (As := [.int (nI j_me)]) (rest := []) ⟨hx, hb, hml, hown, hts⟩ (c9_isMeter l (nI j_me)) (va_cwS 1 hts gX9_write_X9_isMeter rfl rfl rfl (by decide +kernel) ⟨Nat.le_of_ble_eq_true rfl, Nat.le_of_ble_eq_true rfl⟩) (preS_of okT (trivial)) rfl rfl hl.1 rfl (lv_room (Nat.le_of_ble_eq_true rfl)) dX9_write_13 ⟨Nat.le_of_ble_eq_true rfl, Nat.le_of_ble_eq_true rfl⟩) (fun r15 hr15 => ?_)
        rw [isx1 hi_me] at hr15
        subst hr15
        refine lv_if_ne (tgt := 23) hx hb dX9_write_16 (by decide) (fun c16 => ?_) (fun c16 => absurd c16 (by decide))
        refine lv_aload_n hx hb dX9_write_23 rfl (lv_at hl 0 rfl) ?_
        refine lv_aload_n hx hb dX9_write_24 rfl (lv_at hl 0 rfl) ?_
        refine lv_iload_n hx hb dX9_write_25 rfl (lv_at hl 1 rfl) ?_
        refine lv_iload_n hx hb dX9_write_26 rfl (lv_at hl 2 rfl) ?_
        refine vp_callSi (W.runV (As := [.int (nI j_lg), .int i]) (rest := [.ref o]) ⟨hx, hb, hml, hown, hts⟩ (c9_logCause l G cy L F12 o qm 0 Pp.1 Xx.1 oc hmo hFo_12 Sl.1 hm6 hFqm6_12 j_lg hj_lg i ((hVS j_lg hj_lg).1)) (cwV 2 hts gX9_write_X9_logCause rfl rfl rfl (by decide +kernel) ⟨Nat.le_of_ble_eq_true rfl, Nat.le_of_ble_eq_true rfl⟩) (preV_of okP (⟨hP, hK, hD.top⟩) (pl_recv hK hP (ci := 8) rfl hmo hFo_12)) rfl rfl hl.1 rfl (lv_room (Nat.le_of_ble_eq_true rfl)) dX9_write_27 ⟨Nat.le_of_ble_eq_true rfl, Nat.le_of_ble_eq_true rfl⟩) (fun r17 hr17 => ?_)
        rw [hp_i] at hr17
        have hzr17 : r17 = 1 := hr17
        clear hr17
        subst hzr17
        refine pg_put (ci := 8) (v := .int 1) (ty := .int) (C := RX9) (T := TX9) (N := 20) hx hb hts hinX9 tyX9 tyX9_ok nmX9 hown hK hP hD hS hmo hFo_12 rfl 17 (by decide) (hts (.fieldLink RX9 65 "RopeDrumsModel" "failed" "I") (by decide +kernel)) (fun _ h9 => h9) rfl (by decide +kernel) (rfl) (rfl) (Nat.le_of_ble_eq_true rfl) dX9_write_30 (fun H locs F18 eF18 hP hS => ?_)
        have eF18 : F18 = va_up F12 o (.inr (8, [.int 0, .ref (qm 0), .ref (qm 1), .ref (qm 2), .ref (qm 3), .ref (qm 4), .ref (qm 5), .ref (qm 6), .ref (qm 7), .int Pp.1, .ref (qm 8), .ref (qm 9), .ref (qm 10), .ref (qm 11), .ref (qm 12), .ref (qm 13), .ref (qm 14), .int 1, .ref (qm 15), .long oc])) := eF18
        have hFo_18 : F18 o = .inr (8, [.int 0, .ref (qm 0), .ref (qm 1), .ref (qm 2), .ref (qm 3), .ref (qm 4), .ref (qm 5), .ref (qm 6), .ref (qm 7), .int Pp.1, .ref (qm 8), .ref (qm 9), .ref (qm 10), .ref (qm 11), .ref (qm 12), .ref (qm 13), .ref (qm 14), .int 1, .ref (qm 15), .long oc]) := by rw [eF18]; exact va_up_self _ _ _
        have hFqm0_18 : F18 (qm 0) = cI (cy 1) 10 Mm.1 := by rw [eF18, va_up_ne _ _ (pl_ne hFqm0_12 hFo_12 rfl)]; exact hFqm0_12
        have hFqm1_18 : F18 (qm 1) = cJ (cy 2) 10 Mm.2 := by rw [eF18, va_up_ne _ _ (pl_ne hFqm1_12 hFo_12 rfl)]; exact hFqm1_12
        have hFqm2_18 : F18 (qm 2) = cD (cy 0) 6 Dd.1 := by rw [eF18, va_up_ne _ _ (pl_ne hFqm2_12 hFo_12 rfl)]; exact hFqm2_12
        have hFqm3_18 : F18 (qm 3) = cD (cy 0) 6 Dd.2.1 := by rw [eF18, va_up_ne _ _ (pl_ne hFqm3_12 hFo_12 rfl)]; exact hFqm3_12
        have hFqm4_18 : F18 (qm 4) = cD (cy 0) 6 Dd.2.2.1 := by rw [eF18, va_up_ne _ _ (pl_ne hFqm4_12 hFo_12 rfl)]; exact hFqm4_12
        have hFqm5_18 : F18 (qm 5) = cJ (cy 2) 6 Dd.2.2.2 := by rw [eF18, va_up_ne _ _ (pl_ne hFqm5_12 hFo_12 rfl)]; exact hFqm5_12
        have hFqm6_18 : F18 (qm 6) = cI (cy 1) 8 Sl.1 := by rw [eF18, va_up_ne _ _ (pl_ne hFqm6_12 hFo_12 rfl)]; exact hFqm6_12
        have hFqm7_18 : F18 (qm 7) = cJ (cy 2) 128 Sl.2 := by rw [eF18, va_up_ne _ _ (pl_ne hFqm7_12 hFo_12 rfl)]; exact hFqm7_12
        have hFqm8_18 : F18 (qm 8) = cI (cy 1) 30 Pp.2.1 := by rw [eF18, va_up_ne _ _ (pl_ne hFqm8_12 hFo_12 rfl)]; exact hFqm8_12
        have hFqm9_18 : F18 (qm 9) = cI (cy 3) 30 Pp.2.2 := by rw [eF18, va_up_ne _ _ (pl_ne hFqm9_12 hFo_12 rfl)]; exact hFqm9_12
        have hFqm10_18 : F18 (qm 10) = cI (cy 1) 5 Kr.1 := by rw [eF18, va_up_ne _ _ (pl_ne hFqm10_12 hFo_12 rfl)]; exact hFqm10_12
        have hFqm11_18 : F18 (qm 11) = cI (cy 3) 5 Kr.2.1 := by rw [eF18, va_up_ne _ _ (pl_ne hFqm11_12 hFo_12 rfl)]; exact hFqm11_12
        have hFqm12_18 : F18 (qm 12) = cI (cy 1) 60 Kr.2.2 := by rw [eF18, va_up_ne _ _ (pl_ne hFqm12_12 hFo_12 rfl)]; exact hFqm12_12
        have hFqm13_18 : F18 (qm 13) = cI (cy 1) 4 Bk.1 := by rw [eF18, va_up_ne _ _ (pl_ne hFqm13_12 hFo_12 rfl)]; exact hFqm13_12
        have hFqm14_18 : F18 (qm 14) = cD (cy 0) 4 Bk.2 := by rw [eF18, va_up_ne _ _ (pl_ne hFqm14_12 hFo_12 rfl)]; exact hFqm14_12
        have hFqm15_18 : F18 (qm 15) = cI (cy 1) 6 Xx.2 := by rw [eF18, va_up_ne _ _ (pl_ne hFqm15_12 hFo_12 rfl)]; exact hFqm15_12
        refine lv_aload_n hx hb dX9_write_33 rfl (lv_at hl 0 rfl) ?_
        refine pg_get (ci := 8) (C := RX9) (T := TX9) (N := 20) hx hb hts hinX9 hown hK hP hmo hFo_18 rfl 17 (by decide) (hts (.fieldLink RX9 65 "RopeDrumsModel" "failed" "I") (by decide +kernel)) (fun _ h9 => h9) rfl dX9_write_34 ?_
        refine lv_if_ne (tgt := 70) hx hb dX9_write_37 (by decide) (fun c19 => ?_) (fun c19 => absurd c19 (by decide))
        refine lv_aload_n hx hb dX9_write_70 rfl (lv_at hl 0 rfl) ?_
        refine lv_iconst (v := 1) hx hb dX9_write_71 (by decide) ?_
        refine va_calli (va_runV (As := [.int 1]) (rest := []) ⟨hx, hb, hml, hown, hts⟩ (c9_answers_1 l G cy L F18 H.size o qm 0 Pp.1 oc hmo hFo_18 Xx.2 hm15 hFqm15_18 1) (cwV 1 hts gX9_write_X9_answers rfl rfl rfl (by decide +kernel) ⟨Nat.le_of_ble_eq_true rfl, Nat.le_of_ble_eq_true rfl⟩) (preV_of okQ (⟨rfl, hP, hK, hD.top⟩) (pl_recv hK hP (ci := 8) rfl hmo hFo_18)) rfl rfl hl.1 rfl (lv_room (Nat.le_of_ble_eq_true rfl)) dX9_write_72 ⟨Nat.le_of_ble_eq_true rfl, Nat.le_of_ble_eq_true rfl⟩) hS (fun q _ h => pl_free hD hS hA q h) (pl_free hD hS hA) (fun r21 F20 t H1 locs ht hvm hw hP1 hz1 hk1 hS => ?_)
        have hP1 : va_P G vwCl (va_pl L F20) t.heap := hP1
        rw [ht] at hP1
        have hP := hP1
        generalize H1 = H at hP hS ⊢
        obtain ⟨hqr21, eF20⟩ := hw
        have eF20 : F20 = va_up F18 (qm 15) (cI (cy 1) 6 (upd Xx.2 1 (Xx.2 1 + 1))) := eF20
        have hFo_21 : F20 o = .inr (8, [.int 0, .ref (qm 0), .ref (qm 1), .ref (qm 2), .ref (qm 3), .ref (qm 4), .ref (qm 5), .ref (qm 6), .ref (qm 7), .int Pp.1, .ref (qm 8), .ref (qm 9), .ref (qm 10), .ref (qm 11), .ref (qm 12), .ref (qm 13), .ref (qm 14), .int 1, .ref (qm 15), .long oc]) := by rw [eF20, va_up_ne _ _ (pl_ne hFo_18 hFqm15_18 rfl)]; exact hFo_18
        have hFqm0_21 : F20 (qm 0) = cI (cy 1) 10 Mm.1 := by rw [eF20, va_up_ne _ _ (pl_ne hFqm0_18 hFqm15_18 rfl)]; exact hFqm0_18
        have hFqm1_21 : F20 (qm 1) = cJ (cy 2) 10 Mm.2 := by rw [eF20, va_up_ne _ _ (pl_ne hFqm1_18 hFqm15_18 rfl)]; exact hFqm1_18
        have hFqm2_21 : F20 (qm 2) = cD (cy 0) 6 Dd.1 := by rw [eF20, va_up_ne _ _ (pl_ne hFqm2_18 hFqm15_18 rfl)]; exact hFqm2_18
        have hFqm3_21 : F20 (qm 3) = cD (cy 0) 6 Dd.2.1 := by rw [eF20, va_up_ne _ _ (pl_ne hFqm3_18 hFqm15_18 rfl)]; exact hFqm3_18
        have hFqm4_21 : F20 (qm 4) = cD (cy 0) 6 Dd.2.2.1 := by rw [eF20, va_up_ne _ _ (pl_ne hFqm4_18 hFqm15_18 rfl)]; exact hFqm4_18
        have hFqm5_21 : F20 (qm 5) = cJ (cy 2) 6 Dd.2.2.2 := by rw [eF20, va_up_ne _ _ (pl_ne hFqm5_18 hFqm15_18 rfl)]; exact hFqm5_18
        have hFqm6_21 : F20 (qm 6) = cI (cy 1) 8 Sl.1 := by rw [eF20, va_up_ne _ _ (pl_ne hFqm6_18 hFqm15_18 rfl)]; exact hFqm6_18
        have hFqm7_21 : F20 (qm 7) = cJ (cy 2) 128 Sl.2 := by rw [eF20, va_up_ne _ _ (pl_ne hFqm7_18 hFqm15_18 rfl)]; exact hFqm7_18
        have hFqm8_21 : F20 (qm 8) = cI (cy 1) 30 Pp.2.1 := by rw [eF20, va_up_ne _ _ (pl_ne hFqm8_18 hFqm15_18 rfl)]; exact hFqm8_18
        have hFqm9_21 : F20 (qm 9) = cI (cy 3) 30 Pp.2.2 := by rw [eF20, va_up_ne _ _ (pl_ne hFqm9_18 hFqm15_18 rfl)]; exact hFqm9_18
        have hFqm10_21 : F20 (qm 10) = cI (cy 1) 5 Kr.1 := by rw [eF20, va_up_ne _ _ (pl_ne hFqm10_18 hFqm15_18 rfl)]; exact hFqm10_18
        have hFqm11_21 : F20 (qm 11) = cI (cy 3) 5 Kr.2.1 := by rw [eF20, va_up_ne _ _ (pl_ne hFqm11_18 hFqm15_18 rfl)]; exact hFqm11_18
        have hFqm12_21 : F20 (qm 12) = cI (cy 1) 60 Kr.2.2 := by rw [eF20, va_up_ne _ _ (pl_ne hFqm12_18 hFqm15_18 rfl)]; exact hFqm12_18
        have hFqm13_21 : F20 (qm 13) = cI (cy 1) 4 Bk.1 := by rw [eF20, va_up_ne _ _ (pl_ne hFqm13_18 hFqm15_18 rfl)]; exact hFqm13_18
        have hFqm14_21 : F20 (qm 14) = cD (cy 0) 4 Bk.2 := by rw [eF20, va_up_ne _ _ (pl_ne hFqm14_18 hFqm15_18 rfl)]; exact hFqm14_18
        have hFqm15_21 : F20 (qm 15) = cI (cy 1) 6 (upd Xx.2 1 (Xx.2 1 + 1)) := by rw [eF20]; exact va_up_self _ _ _
        have hr21 := hqr21
        exact W.iret (v := r21) hx hb hr (fun t ht hW => ⟨⟨r21, F20, rfl, (by subst hr21; have hsp : sp_write Mm Sl Xx (nI j_lg) i (nI j_me) = (-10 - 1, Sl, failX Xx 1) := (by unfold sp_write; rw [hi_lg, hi_me]; exact (if_neg hp0_i).trans (by rw [hp_i]; rfl)); rw [hsp]; exact ⟨rfl, (by exact ⟨⟨_, _, hmo, hFo_21⟩, ⟨hm0, hFqm0_21⟩, ⟨hm1, hFqm1_21⟩, ⟨hm2, hFqm2_21⟩, ⟨hm3, hFqm3_21⟩, ⟨hm4, hFqm4_21⟩, ⟨hm5, hFqm5_21⟩, ⟨hm6, hFqm6_21⟩, ⟨hm7, hFqm7_21⟩, ⟨hm8, hFqm8_21⟩, ⟨hm9, hFqm9_21⟩, ⟨hm10, hFqm10_21⟩, ⟨hm11, hFqm11_21⟩, ⟨hm12, hFqm12_21⟩, ⟨hm13, hFqm13_21⟩, ⟨hm14, hFqm14_21⟩, ⟨hm15, hFqm15_21⟩, hne⟩)⟩), (by show va_P _ _ _ t.heap; rw [ht]; exact hP)⟩, hS.F ht⟩) hS.2.2 dX9_write_75
      · have hp0_i : ¬ pl0 (Sl.1 j_lg) i = 0 := by rw [hp_i]; decide
        refine lv_aload_n hx hb dX9_write_0 rfl (lv_at hl 0 rfl) ?_
        refine lv_iconst (v := 0) hx hb dX9_write_1 (by decide) ?_
        refine pg_put (ci := 8) (v := .int 0) (ty := .int) (C := RX9) (T := TX9) (N := 20) hx hb hts hinX9 tyX9 tyX9_ok nmX9 hown hK hP hD hS hmo hFo rfl 0 (by decide) (hts (.fieldLink RX9 61 "RopeDrumsModel" "thrown" "I") (by decide +kernel)) (fun _ h9 => h9) rfl (by decide +kernel) (rfl) (rfl) (Nat.le_of_ble_eq_true rfl) dX9_write_2 (fun H locs F22 eF22 hP hS => ?_)
        have eF22 : F22 = va_up F o (.inr (8, [.int 0, .ref (qm 0), .ref (qm 1), .ref (qm 2), .ref (qm 3), .ref (qm 4), .ref (qm 5), .ref (qm 6), .ref (qm 7), .int Pp.1, .ref (qm 8), .ref (qm 9), .ref (qm 10), .ref (qm 11), .ref (qm 12), .ref (qm 13), .ref (qm 14), .int Xx.1, .ref (qm 15), .long oc])) := eF22
        have hFo_22 : F22 o = .inr (8, [.int 0, .ref (qm 0), .ref (qm 1), .ref (qm 2), .ref (qm 3), .ref (qm 4), .ref (qm 5), .ref (qm 6), .ref (qm 7), .int Pp.1, .ref (qm 8), .ref (qm 9), .ref (qm 10), .ref (qm 11), .ref (qm 12), .ref (qm 13), .ref (qm 14), .int Xx.1, .ref (qm 15), .long oc]) := by rw [eF22]; exact va_up_self _ _ _
        have hFqm0_22 : F22 (qm 0) = cI (cy 1) 10 Mm.1 := by rw [eF22, va_up_ne _ _ (pl_ne hF0 hFo rfl)]; exact hF0
        have hFqm1_22 : F22 (qm 1) = cJ (cy 2) 10 Mm.2 := by rw [eF22, va_up_ne _ _ (pl_ne hF1 hFo rfl)]; exact hF1
        have hFqm2_22 : F22 (qm 2) = cD (cy 0) 6 Dd.1 := by rw [eF22, va_up_ne _ _ (pl_ne hF2 hFo rfl)]; exact hF2
        have hFqm3_22 : F22 (qm 3) = cD (cy 0) 6 Dd.2.1 := by rw [eF22, va_up_ne _ _ (pl_ne hF3 hFo rfl)]; exact hF3
        have hFqm4_22 : F22 (qm 4) = cD (cy 0) 6 Dd.2.2.1 := by rw [eF22, va_up_ne _ _ (pl_ne hF4 hFo rfl)]; exact hF4
        have hFqm5_22 : F22 (qm 5) = cJ (cy 2) 6 Dd.2.2.2 := by rw [eF22, va_up_ne _ _ (pl_ne hF5 hFo rfl)]; exact hF5
        have hFqm6_22 : F22 (qm 6) = cI (cy 1) 8 Sl.1 := by rw [eF22, va_up_ne _ _ (pl_ne hF6 hFo rfl)]; exact hF6
        have hFqm7_22 : F22 (qm 7) = cJ (cy 2) 128 Sl.2 := by rw [eF22, va_up_ne _ _ (pl_ne hF7 hFo rfl)]; exact hF7
        have hFqm8_22 : F22 (qm 8) = cI (cy 1) 30 Pp.2.1 := by rw [eF22, va_up_ne _ _ (pl_ne hF8 hFo rfl)]; exact hF8
        have hFqm9_22 : F22 (qm 9) = cI (cy 3) 30 Pp.2.2 := by rw [eF22, va_up_ne _ _ (pl_ne hF9 hFo rfl)]; exact hF9
        have hFqm10_22 : F22 (qm 10) = cI (cy 1) 5 Kr.1 := by rw [eF22, va_up_ne _ _ (pl_ne hF10 hFo rfl)]; exact hF10
        have hFqm11_22 : F22 (qm 11) = cI (cy 3) 5 Kr.2.1 := by rw [eF22, va_up_ne _ _ (pl_ne hF11 hFo rfl)]; exact hF11
        have hFqm12_22 : F22 (qm 12) = cI (cy 1) 60 Kr.2.2 := by rw [eF22, va_up_ne _ _ (pl_ne hF12 hFo rfl)]; exact hF12
        have hFqm13_22 : F22 (qm 13) = cI (cy 1) 4 Bk.1 := by rw [eF22, va_up_ne _ _ (pl_ne hF13 hFo rfl)]; exact hF13
        have hFqm14_22 : F22 (qm 14) = cD (cy 0) 4 Bk.2 := by rw [eF22, va_up_ne _ _ (pl_ne hF14 hFo rfl)]; exact hF14
        have hFqm15_22 : F22 (qm 15) = cI (cy 1) 6 Xx.2 := by rw [eF22, va_up_ne _ _ (pl_ne hF15 hFo rfl)]; exact hF15
        refine lv_iload_n hx hb dX9_write_5 rfl (lv_at hl 1 rfl) ?_
        refine vp_callSi (W.runS (As := [.int (nI j_lg)]) (rest := []) ⟨hx, hb, hml, hown, hts⟩ (c9_isLog l (nI j_lg)) (va_cwS 1 hts gX9_write_X9_isLog rfl rfl rfl (by decide +kernel) ⟨Nat.le_of_ble_eq_true rfl, Nat.le_of_ble_eq_true rfl⟩) (preS_of okT (trivial)) rfl rfl hl.1 rfl (lv_room (Nat.le_of_ble_eq_true rfl)) dX9_write_6 ⟨Nat.le_of_ble_eq_true rfl, Nat.le_of_ble_eq_true rfl⟩) (fun r23 hr23 => ?_)
        rw [isx1 hi_lg] at hr23
        subst hr23
        refine lv_if_eq (tgt := 19) hx hb dX9_write_9 (by decide) (fun c24 => absurd c24 (by decide)) (fun c24 => ?_)
        refine lv_iload_n hx hb dX9_write_12 rfl (lv_at hl 3 rfl) ?_
        refine vp_callSi (W.runS (As := [.int (nI j_me)]) (rest := []) ⟨hx, hb, hml, hown, hts⟩ (c9_isMeter l (nI j_me)) (va_cwS 1 hts gX9_write_X9_isMeter rfl rfl rfl (by decide +kernel) ⟨Nat.le_of_ble_eq_true rfl, Nat.le_of_ble_eq_true rfl⟩) (preS_of okT (trivial)) rfl rfl hl.1 rfl (lv_room (Nat.le_of_ble_eq_true rfl)) dX9_write_13 ⟨Nat.le_of_ble_eq_true rfl, Nat.le_of_ble_eq_true rfl⟩) (fun r25 hr25 => ?_)
        rw [isx1 hi_me] at hr25
        subst hr25
        refine lv_if_ne (tgt := 23) hx hb dX9_write_16 (by decide) (fun c26 => ?_) (fun c26 => absurd c26 (by decide))
        refine lv_aload_n hx hb dX9_write_23 rfl (lv_at hl 0 rfl) ?_
        refine lv_aload_n hx hb dX9_write_24 rfl (lv_at hl 0 rfl) ?_
        refine lv_iload_n hx hb dX9_write_25 rfl (lv_at hl 1 rfl) ?_
        refine lv_iload_n hx hb dX9_write_26 rfl (lv_at hl 2 rfl) ?_
        refine vp_callSi (W.runV (As := [.int (nI j_lg), .int i]) (rest := [.ref o]) ⟨hx, hb, hml, hown, hts⟩ (c9_logCause l G cy L F22 o qm 0 Pp.1 Xx.1 oc hmo hFo_22 Sl.1 hm6 hFqm6_22 j_lg hj_lg i ((hVS j_lg hj_lg).1)) (cwV 2 hts gX9_write_X9_logCause rfl rfl rfl (by decide +kernel) ⟨Nat.le_of_ble_eq_true rfl, Nat.le_of_ble_eq_true rfl⟩) (preV_of okP (⟨hP, hK, hD.top⟩) (pl_recv hK hP (ci := 8) rfl hmo hFo_22)) rfl rfl hl.1 rfl (lv_room (Nat.le_of_ble_eq_true rfl)) dX9_write_27 ⟨Nat.le_of_ble_eq_true rfl, Nat.le_of_ble_eq_true rfl⟩) (fun r27 hr27 => ?_)
        rw [hp_i] at hr27
        have hzr27 : r27 = 2 := hr27
        clear hr27
        subst hzr27
        refine pg_put (ci := 8) (v := .int 2) (ty := .int) (C := RX9) (T := TX9) (N := 20) hx hb hts hinX9 tyX9 tyX9_ok nmX9 hown hK hP hD hS hmo hFo_22 rfl 17 (by decide) (hts (.fieldLink RX9 65 "RopeDrumsModel" "failed" "I") (by decide +kernel)) (fun _ h9 => h9) rfl (by decide +kernel) (rfl) (rfl) (Nat.le_of_ble_eq_true rfl) dX9_write_30 (fun H locs F28 eF28 hP hS => ?_)
        have eF28 : F28 = va_up F22 o (.inr (8, [.int 0, .ref (qm 0), .ref (qm 1), .ref (qm 2), .ref (qm 3), .ref (qm 4), .ref (qm 5), .ref (qm 6), .ref (qm 7), .int Pp.1, .ref (qm 8), .ref (qm 9), .ref (qm 10), .ref (qm 11), .ref (qm 12), .ref (qm 13), .ref (qm 14), .int 2, .ref (qm 15), .long oc])) := eF28
        have hFo_28 : F28 o = .inr (8, [.int 0, .ref (qm 0), .ref (qm 1), .ref (qm 2), .ref (qm 3), .ref (qm 4), .ref (qm 5), .ref (qm 6), .ref (qm 7), .int Pp.1, .ref (qm 8), .ref (qm 9), .ref (qm 10), .ref (qm 11), .ref (qm 12), .ref (qm 13), .ref (qm 14), .int 2, .ref (qm 15), .long oc]) := by rw [eF28]; exact va_up_self _ _ _
        have hFqm0_28 : F28 (qm 0) = cI (cy 1) 10 Mm.1 := by rw [eF28, va_up_ne _ _ (pl_ne hFqm0_22 hFo_22 rfl)]; exact hFqm0_22
        have hFqm1_28 : F28 (qm 1) = cJ (cy 2) 10 Mm.2 := by rw [eF28, va_up_ne _ _ (pl_ne hFqm1_22 hFo_22 rfl)]; exact hFqm1_22
        have hFqm2_28 : F28 (qm 2) = cD (cy 0) 6 Dd.1 := by rw [eF28, va_up_ne _ _ (pl_ne hFqm2_22 hFo_22 rfl)]; exact hFqm2_22
        have hFqm3_28 : F28 (qm 3) = cD (cy 0) 6 Dd.2.1 := by rw [eF28, va_up_ne _ _ (pl_ne hFqm3_22 hFo_22 rfl)]; exact hFqm3_22
        have hFqm4_28 : F28 (qm 4) = cD (cy 0) 6 Dd.2.2.1 := by rw [eF28, va_up_ne _ _ (pl_ne hFqm4_22 hFo_22 rfl)]; exact hFqm4_22
        have hFqm5_28 : F28 (qm 5) = cJ (cy 2) 6 Dd.2.2.2 := by rw [eF28, va_up_ne _ _ (pl_ne hFqm5_22 hFo_22 rfl)]; exact hFqm5_22
        have hFqm6_28 : F28 (qm 6) = cI (cy 1) 8 Sl.1 := by rw [eF28, va_up_ne _ _ (pl_ne hFqm6_22 hFo_22 rfl)]; exact hFqm6_22
        have hFqm7_28 : F28 (qm 7) = cJ (cy 2) 128 Sl.2 := by rw [eF28, va_up_ne _ _ (pl_ne hFqm7_22 hFo_22 rfl)]; exact hFqm7_22
        have hFqm8_28 : F28 (qm 8) = cI (cy 1) 30 Pp.2.1 := by rw [eF28, va_up_ne _ _ (pl_ne hFqm8_22 hFo_22 rfl)]; exact hFqm8_22
        have hFqm9_28 : F28 (qm 9) = cI (cy 3) 30 Pp.2.2 := by rw [eF28, va_up_ne _ _ (pl_ne hFqm9_22 hFo_22 rfl)]; exact hFqm9_22
        have hFqm10_28 : F28 (qm 10) = cI (cy 1) 5 Kr.1 := by rw [eF28, va_up_ne _ _ (pl_ne hFqm10_22 hFo_22 rfl)]; exact hFqm10_22
        have hFqm11_28 : F28 (qm 11) = cI (cy 3) 5 Kr.2.1 := by rw [eF28, va_up_ne _ _ (pl_ne hFqm11_22 hFo_22 rfl)]; exact hFqm11_22
        have hFqm12_28 : F28 (qm 12) = cI (cy 1) 60 Kr.2.2 := by rw [eF28, va_up_ne _ _ (pl_ne hFqm12_22 hFo_22 rfl)]; exact hFqm12_22
        have hFqm13_28 : F28 (qm 13) = cI (cy 1) 4 Bk.1 := by rw [eF28, va_up_ne _ _ (pl_ne hFqm13_22 hFo_22 rfl)]; exact hFqm13_22
        have hFqm14_28 : F28 (qm 14) = cD (cy 0) 4 Bk.2 := by rw [eF28, va_up_ne _ _ (pl_ne hFqm14_22 hFo_22 rfl)]; exact hFqm14_22
        have hFqm15_28 : F28 (qm 15) = cI (cy 1) 6 Xx.2 := by rw [eF28, va_up_ne _ _ (pl_ne hFqm15_22 hFo_22 rfl)]; exact hFqm15_22
        refine lv_aload_n hx hb dX9_write_33 rfl (lv_at hl 0 rfl) ?_
        refine pg_get (ci := 8) (C := RX9) (T := TX9) (N := 20) hx hb hts hinX9 hown hK hP hmo hFo_28 rfl 17 (by decide) (hts (.fieldLink RX9 65 "RopeDrumsModel" "failed" "I") (by decide +kernel)) (fun _ h9 => h9) rfl dX9_write_34 ?_
        refine lv_if_ne (tgt := 70) hx hb dX9_write_37 (by decide) (fun c29 => ?_) (fun c29 => absurd c29 (by decide))
        refine lv_aload_n hx hb dX9_write_70 rfl (lv_at hl 0 rfl) ?_
        refine lv_iconst (v := 1) hx hb dX9_write_71 (by decide) ?_
        refine va_calli (va_runV (As := [.int 1]) (rest := []) ⟨hx, hb, hml, hown, hts⟩ (c9_answers_2 l G cy L F28 H.size o qm 0 Pp.1 oc hmo hFo_28 Xx.2 hm15 hFqm15_28 1) (cwV 1 hts gX9_write_X9_answers rfl rfl rfl (by decide +kernel) ⟨Nat.le_of_ble_eq_true rfl, Nat.le_of_ble_eq_true rfl⟩) (preV_of okQ (⟨rfl, hP, hK, hD.top⟩) (pl_recv hK hP (ci := 8) rfl hmo hFo_28)) rfl rfl hl.1 rfl (lv_room (Nat.le_of_ble_eq_true rfl)) dX9_write_72 ⟨Nat.le_of_ble_eq_true rfl, Nat.le_of_ble_eq_true rfl⟩) hS (fun q _ h => pl_free hD hS hA q h) (pl_free hD hS hA) (fun r31 F30 t H1 locs ht hvm hw hP1 hz1 hk1 hS => ?_)
        have hP1 : va_P G vwCl (va_pl L F30) t.heap := hP1
        rw [ht] at hP1
        have hP := hP1
        generalize H1 = H at hP hS ⊢
        obtain ⟨hqr31, eF30⟩ := hw
        have eF30 : F30 = va_up F28 (qm 15) (cI (cy 1) 6 (upd Xx.2 2 (Xx.2 2 + 1))) := eF30
        have hFo_31 : F30 o = .inr (8, [.int 0, .ref (qm 0), .ref (qm 1), .ref (qm 2), .ref (qm 3), .ref (qm 4), .ref (qm 5), .ref (qm 6), .ref (qm 7), .int Pp.1, .ref (qm 8), .ref (qm 9), .ref (qm 10), .ref (qm 11), .ref (qm 12), .ref (qm 13), .ref (qm 14), .int 2, .ref (qm 15), .long oc]) := by rw [eF30, va_up_ne _ _ (pl_ne hFo_28 hFqm15_28 rfl)]; exact hFo_28
        have hFqm0_31 : F30 (qm 0) = cI (cy 1) 10 Mm.1 := by rw [eF30, va_up_ne _ _ (pl_ne hFqm0_28 hFqm15_28 rfl)]; exact hFqm0_28
        have hFqm1_31 : F30 (qm 1) = cJ (cy 2) 10 Mm.2 := by rw [eF30, va_up_ne _ _ (pl_ne hFqm1_28 hFqm15_28 rfl)]; exact hFqm1_28
        have hFqm2_31 : F30 (qm 2) = cD (cy 0) 6 Dd.1 := by rw [eF30, va_up_ne _ _ (pl_ne hFqm2_28 hFqm15_28 rfl)]; exact hFqm2_28
        have hFqm3_31 : F30 (qm 3) = cD (cy 0) 6 Dd.2.1 := by rw [eF30, va_up_ne _ _ (pl_ne hFqm3_28 hFqm15_28 rfl)]; exact hFqm3_28
        have hFqm4_31 : F30 (qm 4) = cD (cy 0) 6 Dd.2.2.1 := by rw [eF30, va_up_ne _ _ (pl_ne hFqm4_28 hFqm15_28 rfl)]; exact hFqm4_28
        have hFqm5_31 : F30 (qm 5) = cJ (cy 2) 6 Dd.2.2.2 := by rw [eF30, va_up_ne _ _ (pl_ne hFqm5_28 hFqm15_28 rfl)]; exact hFqm5_28
        have hFqm6_31 : F30 (qm 6) = cI (cy 1) 8 Sl.1 := by rw [eF30, va_up_ne _ _ (pl_ne hFqm6_28 hFqm15_28 rfl)]; exact hFqm6_28
        have hFqm7_31 : F30 (qm 7) = cJ (cy 2) 128 Sl.2 := by rw [eF30, va_up_ne _ _ (pl_ne hFqm7_28 hFqm15_28 rfl)]; exact hFqm7_28
        have hFqm8_31 : F30 (qm 8) = cI (cy 1) 30 Pp.2.1 := by rw [eF30, va_up_ne _ _ (pl_ne hFqm8_28 hFqm15_28 rfl)]; exact hFqm8_28
        have hFqm9_31 : F30 (qm 9) = cI (cy 3) 30 Pp.2.2 := by rw [eF30, va_up_ne _ _ (pl_ne hFqm9_28 hFqm15_28 rfl)]; exact hFqm9_28
        have hFqm10_31 : F30 (qm 10) = cI (cy 1) 5 Kr.1 := by rw [eF30, va_up_ne _ _ (pl_ne hFqm10_28 hFqm15_28 rfl)]; exact hFqm10_28
        have hFqm11_31 : F30 (qm 11) = cI (cy 3) 5 Kr.2.1 := by rw [eF30, va_up_ne _ _ (pl_ne hFqm11_28 hFqm15_28 rfl)]; exact hFqm11_28
        have hFqm12_31 : F30 (qm 12) = cI (cy 1) 60 Kr.2.2 := by rw [eF30, va_up_ne _ _ (pl_ne hFqm12_28 hFqm15_28 rfl)]; exact hFqm12_28
        have hFqm13_31 : F30 (qm 13) = cI (cy 1) 4 Bk.1 := by rw [eF30, va_up_ne _ _ (pl_ne hFqm13_28 hFqm15_28 rfl)]; exact hFqm13_28
        have hFqm14_31 : F30 (qm 14) = cD (cy 0) 4 Bk.2 := by rw [eF30, va_up_ne _ _ (pl_ne hFqm14_28 hFqm15_28 rfl)]; exact hFqm14_28
        have hFqm15_31 : F30 (qm 15) = cI (cy 1) 6 (upd Xx.2 2 (Xx.2 2 + 1)) := by rw [eF30]; exact va_up_self _ _ _
        have hr31 := hqr31
        exact W.iret (v := r31) hx hb hr (fun t ht hW => ⟨⟨r31, F30, rfl, (by subst hr31; have hsp : sp_write Mm Sl Xx (nI j_lg) i (nI j_me) = (-10 - 2, Sl, failX Xx 2) := (by unfold sp_write; rw [hi_lg, hi_me]; exact (if_neg hp0_i).trans (by rw [hp_i]; rfl)); rw [hsp]; exact ⟨rfl, (by exact ⟨⟨_, _, hmo, hFo_31⟩, ⟨hm0, hFqm0_31⟩, ⟨hm1, hFqm1_31⟩, ⟨hm2, hFqm2_31⟩, ⟨hm3, hFqm3_31⟩, ⟨hm4, hFqm4_31⟩, ⟨hm5, hFqm5_31⟩, ⟨hm6, hFqm6_31⟩, ⟨hm7, hFqm7_31⟩, ⟨hm8, hFqm8_31⟩, ⟨hm9, hFqm9_31⟩, ⟨hm10, hFqm10_31⟩, ⟨hm11, hFqm11_31⟩, ⟨hm12, hFqm12_31⟩, ⟨hm13, hFqm13_31⟩, ⟨hm14, hFqm14_31⟩, ⟨hm15, hFqm15_31⟩, hne⟩)⟩), (by show va_P _ _ _ t.heap; rw [ht]; exact hP)⟩, hS.F ht⟩) hS.2.2 dX9_write_75
      · subst ei_i
        refine lv_aload_n hx hb dX9_write_0 rfl (lv_at hl 0 rfl) ?_
        refine lv_iconst (v := 0) hx hb dX9_write_1 (by decide) ?_
        refine pg_put (ci := 8) (v := .int 0) (ty := .int) (C := RX9) (T := TX9) (N := 20) hx hb hts hinX9 tyX9 tyX9_ok nmX9 hown hK hP hD hS hmo hFo rfl 0 (by decide) (hts (.fieldLink RX9 61 "RopeDrumsModel" "thrown" "I") (by decide +kernel)) (fun _ h9 => h9) rfl (by decide +kernel) (rfl) (rfl) (Nat.le_of_ble_eq_true rfl) dX9_write_2 (fun H locs F32 eF32 hP hS => ?_)
        have eF32 : F32 = va_up F o (.inr (8, [.int 0, .ref (qm 0), .ref (qm 1), .ref (qm 2), .ref (qm 3), .ref (qm 4), .ref (qm 5), .ref (qm 6), .ref (qm 7), .int Pp.1, .ref (qm 8), .ref (qm 9), .ref (qm 10), .ref (qm 11), .ref (qm 12), .ref (qm 13), .ref (qm 14), .int Xx.1, .ref (qm 15), .long oc])) := eF32
        have hFo_32 : F32 o = .inr (8, [.int 0, .ref (qm 0), .ref (qm 1), .ref (qm 2), .ref (qm 3), .ref (qm 4), .ref (qm 5), .ref (qm 6), .ref (qm 7), .int Pp.1, .ref (qm 8), .ref (qm 9), .ref (qm 10), .ref (qm 11), .ref (qm 12), .ref (qm 13), .ref (qm 14), .int Xx.1, .ref (qm 15), .long oc]) := by rw [eF32]; exact va_up_self _ _ _
        have hFqm0_32 : F32 (qm 0) = cI (cy 1) 10 Mm.1 := by rw [eF32, va_up_ne _ _ (pl_ne hF0 hFo rfl)]; exact hF0
        have hFqm1_32 : F32 (qm 1) = cJ (cy 2) 10 Mm.2 := by rw [eF32, va_up_ne _ _ (pl_ne hF1 hFo rfl)]; exact hF1
        have hFqm2_32 : F32 (qm 2) = cD (cy 0) 6 Dd.1 := by rw [eF32, va_up_ne _ _ (pl_ne hF2 hFo rfl)]; exact hF2
        have hFqm3_32 : F32 (qm 3) = cD (cy 0) 6 Dd.2.1 := by rw [eF32, va_up_ne _ _ (pl_ne hF3 hFo rfl)]; exact hF3
        have hFqm4_32 : F32 (qm 4) = cD (cy 0) 6 Dd.2.2.1 := by rw [eF32, va_up_ne _ _ (pl_ne hF4 hFo rfl)]; exact hF4
        have hFqm5_32 : F32 (qm 5) = cJ (cy 2) 6 Dd.2.2.2 := by rw [eF32, va_up_ne _ _ (pl_ne hF5 hFo rfl)]; exact hF5
        have hFqm6_32 : F32 (qm 6) = cI (cy 1) 8 Sl.1 := by rw [eF32, va_up_ne _ _ (pl_ne hF6 hFo rfl)]; exact hF6
        have hFqm7_32 : F32 (qm 7) = cJ (cy 2) 128 Sl.2 := by rw [eF32, va_up_ne _ _ (pl_ne hF7 hFo rfl)]; exact hF7
        have hFqm8_32 : F32 (qm 8) = cI (cy 1) 30 Pp.2.1 := by rw [eF32, va_up_ne _ _ (pl_ne hF8 hFo rfl)]; exact hF8
        have hFqm9_32 : F32 (qm 9) = cI (cy 3) 30 Pp.2.2 := by rw [eF32, va_up_ne _ _ (pl_ne hF9 hFo rfl)]; exact hF9
        have hFqm10_32 : F32 (qm 10) = cI (cy 1) 5 Kr.1 := by rw [eF32, va_up_ne _ _ (pl_ne hF10 hFo rfl)]; exact hF10
        have hFqm11_32 : F32 (qm 11) = cI (cy 3) 5 Kr.2.1 := by rw [eF32, va_up_ne _ _ (pl_ne hF11 hFo rfl)]; exact hF11
        have hFqm12_32 : F32 (qm 12) = cI (cy 1) 60 Kr.2.2 := by rw [eF32, va_up_ne _ _ (pl_ne hF12 hFo rfl)]; exact hF12
        have hFqm13_32 : F32 (qm 13) = cI (cy 1) 4 Bk.1 := by rw [eF32, va_up_ne _ _ (pl_ne hF13 hFo rfl)]; exact hF13
        have hFqm14_32 : F32 (qm 14) = cD (cy 0) 4 Bk.2 := by rw [eF32, va_up_ne _ _ (pl_ne hF14 hFo rfl)]; exact hF14
        have hFqm15_32 : F32 (qm 15) = cI (cy 1) 6 Xx.2 := by rw [eF32, va_up_ne _ _ (pl_ne hF15 hFo rfl)]; exact hF15
        refine lv_iload_n hx hb dX9_write_5 rfl (lv_at hl 1 rfl) ?_
        refine vp_callSi (W.runS (As := [.int (nI j_lg)]) (rest := []) ⟨hx, hb, hml, hown, hts⟩ (c9_isLog l (nI j_lg)) (va_cwS 1 hts gX9_write_X9_isLog rfl rfl rfl (by decide +kernel) ⟨Nat.le_of_ble_eq_true rfl, Nat.le_of_ble_eq_true rfl⟩) (preS_of okT (trivial)) rfl rfl hl.1 rfl (lv_room (Nat.le_of_ble_eq_true rfl)) dX9_write_6 ⟨Nat.le_of_ble_eq_true rfl, Nat.le_of_ble_eq_true rfl⟩) (fun r33 hr33 => ?_)
        rw [isx1 hi_lg] at hr33
        subst hr33
        refine lv_if_eq (tgt := 19) hx hb dX9_write_9 (by decide) (fun c34 => absurd c34 (by decide)) (fun c34 => ?_)
        refine lv_iload_n hx hb dX9_write_12 rfl (lv_at hl 3 rfl) ?_
        refine vp_callSi (W.runS (As := [.int (nI j_me)]) (rest := []) ⟨hx, hb, hml, hown, hts⟩ (c9_isMeter l (nI j_me)) (va_cwS 1 hts gX9_write_X9_isMeter rfl rfl rfl (by decide +kernel) ⟨Nat.le_of_ble_eq_true rfl, Nat.le_of_ble_eq_true rfl⟩) (preS_of okT (trivial)) rfl rfl hl.1 rfl (lv_room (Nat.le_of_ble_eq_true rfl)) dX9_write_13 ⟨Nat.le_of_ble_eq_true rfl, Nat.le_of_ble_eq_true rfl⟩) (fun r35 hr35 => ?_)
        rw [isx1 hi_me] at hr35
        subst hr35
        refine lv_if_ne (tgt := 23) hx hb dX9_write_16 (by decide) (fun c36 => ?_) (fun c36 => absurd c36 (by decide))
        refine lv_aload_n hx hb dX9_write_23 rfl (lv_at hl 0 rfl) ?_
        refine lv_aload_n hx hb dX9_write_24 rfl (lv_at hl 0 rfl) ?_
        refine lv_iload_n hx hb dX9_write_25 rfl (lv_at hl 1 rfl) ?_
        refine lv_iload_n hx hb dX9_write_26 rfl (lv_at hl 2 rfl) ?_
        refine vp_callSi (W.runV (As := [.int (nI j_lg), .int (nI q_i)]) (rest := [.ref o]) ⟨hx, hb, hml, hown, hts⟩ (c9_logCause l G cy L F32 o qm 0 Pp.1 Xx.1 oc hmo hFo_32 Sl.1 hm6 hFqm6_32 j_lg hj_lg (nI q_i) ((hVS j_lg hj_lg).1)) (cwV 2 hts gX9_write_X9_logCause rfl rfl rfl (by decide +kernel) ⟨Nat.le_of_ble_eq_true rfl, Nat.le_of_ble_eq_true rfl⟩) (preV_of okP (⟨hP, hK, hD.top⟩) (pl_recv hK hP (ci := 8) rfl hmo hFo_32)) rfl rfl hl.1 rfl (lv_room (Nat.le_of_ble_eq_true rfl)) dX9_write_27 ⟨Nat.le_of_ble_eq_true rfl, Nat.le_of_ble_eq_true rfl⟩) (fun r37 hr37 => ?_)
        rw [hp_i] at hr37
        have hzr37 : r37 = 0 := hr37
        clear hr37
        subst hzr37
        refine pg_put (ci := 8) (v := .int 0) (ty := .int) (C := RX9) (T := TX9) (N := 20) hx hb hts hinX9 tyX9 tyX9_ok nmX9 hown hK hP hD hS hmo hFo_32 rfl 17 (by decide) (hts (.fieldLink RX9 65 "RopeDrumsModel" "failed" "I") (by decide +kernel)) (fun _ h9 => h9) rfl (by decide +kernel) (rfl) (rfl) (Nat.le_of_ble_eq_true rfl) dX9_write_30 (fun H locs F38 eF38 hP hS => ?_)
        have eF38 : F38 = va_up F32 o (.inr (8, [.int 0, .ref (qm 0), .ref (qm 1), .ref (qm 2), .ref (qm 3), .ref (qm 4), .ref (qm 5), .ref (qm 6), .ref (qm 7), .int Pp.1, .ref (qm 8), .ref (qm 9), .ref (qm 10), .ref (qm 11), .ref (qm 12), .ref (qm 13), .ref (qm 14), .int 0, .ref (qm 15), .long oc])) := eF38
        have hFo_38 : F38 o = .inr (8, [.int 0, .ref (qm 0), .ref (qm 1), .ref (qm 2), .ref (qm 3), .ref (qm 4), .ref (qm 5), .ref (qm 6), .ref (qm 7), .int Pp.1, .ref (qm 8), .ref (qm 9), .ref (qm 10), .ref (qm 11), .ref (qm 12), .ref (qm 13), .ref (qm 14), .int 0, .ref (qm 15), .long oc]) := by rw [eF38]; exact va_up_self _ _ _
        have hFqm0_38 : F38 (qm 0) = cI (cy 1) 10 Mm.1 := by rw [eF38, va_up_ne _ _ (pl_ne hFqm0_32 hFo_32 rfl)]; exact hFqm0_32
        have hFqm1_38 : F38 (qm 1) = cJ (cy 2) 10 Mm.2 := by rw [eF38, va_up_ne _ _ (pl_ne hFqm1_32 hFo_32 rfl)]; exact hFqm1_32
        have hFqm2_38 : F38 (qm 2) = cD (cy 0) 6 Dd.1 := by rw [eF38, va_up_ne _ _ (pl_ne hFqm2_32 hFo_32 rfl)]; exact hFqm2_32
        have hFqm3_38 : F38 (qm 3) = cD (cy 0) 6 Dd.2.1 := by rw [eF38, va_up_ne _ _ (pl_ne hFqm3_32 hFo_32 rfl)]; exact hFqm3_32
        have hFqm4_38 : F38 (qm 4) = cD (cy 0) 6 Dd.2.2.1 := by rw [eF38, va_up_ne _ _ (pl_ne hFqm4_32 hFo_32 rfl)]; exact hFqm4_32
        have hFqm5_38 : F38 (qm 5) = cJ (cy 2) 6 Dd.2.2.2 := by rw [eF38, va_up_ne _ _ (pl_ne hFqm5_32 hFo_32 rfl)]; exact hFqm5_32
        have hFqm6_38 : F38 (qm 6) = cI (cy 1) 8 Sl.1 := by rw [eF38, va_up_ne _ _ (pl_ne hFqm6_32 hFo_32 rfl)]; exact hFqm6_32
        have hFqm7_38 : F38 (qm 7) = cJ (cy 2) 128 Sl.2 := by rw [eF38, va_up_ne _ _ (pl_ne hFqm7_32 hFo_32 rfl)]; exact hFqm7_32
        have hFqm8_38 : F38 (qm 8) = cI (cy 1) 30 Pp.2.1 := by rw [eF38, va_up_ne _ _ (pl_ne hFqm8_32 hFo_32 rfl)]; exact hFqm8_32
        have hFqm9_38 : F38 (qm 9) = cI (cy 3) 30 Pp.2.2 := by rw [eF38, va_up_ne _ _ (pl_ne hFqm9_32 hFo_32 rfl)]; exact hFqm9_32
        have hFqm10_38 : F38 (qm 10) = cI (cy 1) 5 Kr.1 := by rw [eF38, va_up_ne _ _ (pl_ne hFqm10_32 hFo_32 rfl)]; exact hFqm10_32
        have hFqm11_38 : F38 (qm 11) = cI (cy 3) 5 Kr.2.1 := by rw [eF38, va_up_ne _ _ (pl_ne hFqm11_32 hFo_32 rfl)]; exact hFqm11_32
        have hFqm12_38 : F38 (qm 12) = cI (cy 1) 60 Kr.2.2 := by rw [eF38, va_up_ne _ _ (pl_ne hFqm12_32 hFo_32 rfl)]; exact hFqm12_32
        have hFqm13_38 : F38 (qm 13) = cI (cy 1) 4 Bk.1 := by rw [eF38, va_up_ne _ _ (pl_ne hFqm13_32 hFo_32 rfl)]; exact hFqm13_32
        have hFqm14_38 : F38 (qm 14) = cD (cy 0) 4 Bk.2 := by rw [eF38, va_up_ne _ _ (pl_ne hFqm14_32 hFo_32 rfl)]; exact hFqm14_32
        have hFqm15_38 : F38 (qm 15) = cI (cy 1) 6 Xx.2 := by rw [eF38, va_up_ne _ _ (pl_ne hFqm15_32 hFo_32 rfl)]; exact hFqm15_32
        refine lv_aload_n hx hb dX9_write_33 rfl (lv_at hl 0 rfl) ?_
        refine pg_get (ci := 8) (C := RX9) (T := TX9) (N := 20) hx hb hts hinX9 hown hK hP hmo hFo_38 rfl 17 (by decide) (hts (.fieldLink RX9 65 "RopeDrumsModel" "failed" "I") (by decide +kernel)) (fun _ h9 => h9) rfl dX9_write_34 ?_
        refine lv_if_ne (tgt := 70) hx hb dX9_write_37 (by decide) (fun c39 => absurd (by decide) c39) (fun c39 => ?_)
        refine lv_aload_n hx hb dX9_write_40 rfl (lv_at hl 0 rfl) ?_
        refine pg_get (ci := 8) (C := RX9) (T := TX9) (N := 20) hx hb hts hinX9 hown hK hP hmo hFo_38 rfl 8 (by decide) (hts (.fieldLink RX9 33 "RopeDrumsModel" "logBits" "[J") (by decide +kernel)) (fun _ h9 => h9) rfl dX9_write_41 ?_
        refine lv_bipush (v := 16) hx hb dX9_write_44 (by decide) ?_
        refine lv_iload_n hx hb dX9_write_46 rfl (lv_at hl 1 rfl) ?_
        refine lv_imul hx hb dX9_write_47 ?_
        refine lv_topi (fun v40 ev40 => ?_)
        refine lv_iload_n hx hb dX9_write_48 rfl (lv_at hl 2 rfl) ?_
        refine lv_iadd hx hb dX9_write_49 ?_
        refine lv_topi (fun v41 ev41 => ?_)
        rw [ev40, nI16] at ev41
        subst ev41
        refine lv_aload_n hx hb dX9_write_50 rfl (lv_at hl 0 rfl) ?_
        refine pg_get (ci := 8) (C := RX9) (T := TX9) (N := 20) hx hb hts hinX9 hown hK hP hmo hFo_38 rfl 1 (by decide) (hts (.fieldLink RX9 7 "RopeDrumsModel" "laneOf" "[I") (by decide +kernel)) (fun _ h9 => h9) rfl dX9_write_51 ?_
        refine lv_iload_n hx hb dX9_write_54 rfl (lv_at hl 3 rfl) ?_
        refine pg_iald hx hb hK hP 1 hm0 hFqm0_38 rfl (vp_in_nI (by omega) (by decide)) dX9_write_55 ?_
        refine lv_topi (fun v42 ev42 => ?_)
        rw [nI_clamp (by omega)] at ev42
        refine lv_aload_n hx hb dX9_write_56 rfl (lv_at hl 0 rfl) ?_
        refine pg_get (ci := 8) (C := RX9) (T := TX9) (N := 20) hx hb hts hinX9 hown hK hP hmo hFo_38 rfl 2 (by decide) (hts (.fieldLink RX9 13 "RopeDrumsModel" "held" "[J") (by decide +kernel)) (fun _ h9 => h9) rfl dX9_write_57 ?_
        refine lv_iload_n hx hb dX9_write_60 rfl (lv_at hl 3 rfl) ?_
        refine pg_lald hx hb hK hP 2 hm1 hFqm1_38 rfl (vp_in_nI (by omega) (by decide)) dX9_write_61 ?_
        refine lv_topl (fun v43 ev43 => ?_)
        rw [nI_clamp (by omega)] at ev43
        refine lv_iload_n hx hb dX9_write_62 rfl (lv_at hl 1 rfl) ?_
        refine vp_callSi (W.runS (As := [.int (nI j_lg)]) (rest := [.long v43, .int v42, .int (nI (16 * j_lg + q_i)), .ref (qm 7)]) ⟨hx, hb, hml, hown, hts⟩ (c9_laneOfLog l j_lg hj_lg) (va_cwS 1 hts gX9_write_X9_laneOfLog rfl rfl rfl (by decide +kernel) ⟨Nat.le_of_ble_eq_true rfl, Nat.le_of_ble_eq_true rfl⟩) (preS_of okT (trivial)) rfl rfl hl.1 rfl (lv_room (Nat.le_of_ble_eq_true rfl)) dX9_write_63 ⟨Nat.le_of_ble_eq_true rfl, Nat.le_of_ble_eq_true rfl⟩) (fun r44 hr44 => ?_)
        subst hr44
        refine vp_callSl (W.runS (As := [.int v42, .long v43, .int (lw j_lg)]) (rest := [.int (nI (16 * j_lg + q_i)), .ref (qm 7)]) ⟨hx, hb, hml, hown, hts⟩ (c9_turned l v42 (lw j_lg) v43 (by rw [ev42, ev43]; exact (hVM j_me hj_me))) (va_cwS 3 hts gX9_write_X9_turned rfl rfl rfl (by decide +kernel) ⟨Nat.le_of_ble_eq_true rfl, Nat.le_of_ble_eq_true rfl⟩) (preS_of okT (trivial)) rfl rfl hl.1 rfl (lv_room (Nat.le_of_ble_eq_true rfl)) dX9_write_66 ⟨Nat.le_of_ble_eq_true rfl, Nat.le_of_ble_eq_true rfl⟩) (fun r45 hr45 => ?_)
        refine pg_last hx hb hK hP hD hS 2 hm7 hFqm7_38 rfl (vp_in_nI (by omega) (by decide)) dX9_write_69 (fun H locs F46 eF46 hP hS => ?_)
        rw [nI_clamp (by omega)] at eF46
        have hFo_46 : F46 o = .inr (8, [.int 0, .ref (qm 0), .ref (qm 1), .ref (qm 2), .ref (qm 3), .ref (qm 4), .ref (qm 5), .ref (qm 6), .ref (qm 7), .int Pp.1, .ref (qm 8), .ref (qm 9), .ref (qm 10), .ref (qm 11), .ref (qm 12), .ref (qm 13), .ref (qm 14), .int 0, .ref (qm 15), .long oc]) := by rw [eF46, va_up_ne _ _ (pl_ne hFo_38 hFqm7_38 rfl)]; exact hFo_38
        have hFqm0_46 : F46 (qm 0) = cI (cy 1) 10 Mm.1 := by rw [eF46, va_up_ne _ _ (pl_ne hFqm0_38 hFqm7_38 rfl)]; exact hFqm0_38
        have hFqm1_46 : F46 (qm 1) = cJ (cy 2) 10 Mm.2 := by rw [eF46, va_up_ne _ _ (pl_ne hFqm1_38 hFqm7_38 rfl)]; exact hFqm1_38
        have hFqm2_46 : F46 (qm 2) = cD (cy 0) 6 Dd.1 := by rw [eF46, va_up_ne _ _ (pl_ne hFqm2_38 hFqm7_38 rfl)]; exact hFqm2_38
        have hFqm3_46 : F46 (qm 3) = cD (cy 0) 6 Dd.2.1 := by rw [eF46, va_up_ne _ _ (pl_ne hFqm3_38 hFqm7_38 rfl)]; exact hFqm3_38
        have hFqm4_46 : F46 (qm 4) = cD (cy 0) 6 Dd.2.2.1 := by rw [eF46, va_up_ne _ _ (pl_ne hFqm4_38 hFqm7_38 rfl)]; exact hFqm4_38
        have hFqm5_46 : F46 (qm 5) = cJ (cy 2) 6 Dd.2.2.2 := by rw [eF46, va_up_ne _ _ (pl_ne hFqm5_38 hFqm7_38 rfl)]; exact hFqm5_38
        have hFqm6_46 : F46 (qm 6) = cI (cy 1) 8 Sl.1 := by rw [eF46, va_up_ne _ _ (pl_ne hFqm6_38 hFqm7_38 rfl)]; exact hFqm6_38
        have hFqm7_46 : F46 (qm 7) = cJ (cy 2) 128 (vp_updL Sl.2 (16 * j_lg + q_i) r45) := by rw [eF46]; exact va_up_self _ _ _
        have hFqm8_46 : F46 (qm 8) = cI (cy 1) 30 Pp.2.1 := by rw [eF46, va_up_ne _ _ (pl_ne hFqm8_38 hFqm7_38 rfl)]; exact hFqm8_38
        have hFqm9_46 : F46 (qm 9) = cI (cy 3) 30 Pp.2.2 := by rw [eF46, va_up_ne _ _ (pl_ne hFqm9_38 hFqm7_38 rfl)]; exact hFqm9_38
        have hFqm10_46 : F46 (qm 10) = cI (cy 1) 5 Kr.1 := by rw [eF46, va_up_ne _ _ (pl_ne hFqm10_38 hFqm7_38 rfl)]; exact hFqm10_38
        have hFqm11_46 : F46 (qm 11) = cI (cy 3) 5 Kr.2.1 := by rw [eF46, va_up_ne _ _ (pl_ne hFqm11_38 hFqm7_38 rfl)]; exact hFqm11_38
        have hFqm12_46 : F46 (qm 12) = cI (cy 1) 60 Kr.2.2 := by rw [eF46, va_up_ne _ _ (pl_ne hFqm12_38 hFqm7_38 rfl)]; exact hFqm12_38
        have hFqm13_46 : F46 (qm 13) = cI (cy 1) 4 Bk.1 := by rw [eF46, va_up_ne _ _ (pl_ne hFqm13_38 hFqm7_38 rfl)]; exact hFqm13_38
        have hFqm14_46 : F46 (qm 14) = cD (cy 0) 4 Bk.2 := by rw [eF46, va_up_ne _ _ (pl_ne hFqm14_38 hFqm7_38 rfl)]; exact hFqm14_38
        have hFqm15_46 : F46 (qm 15) = cI (cy 1) 6 Xx.2 := by rw [eF46, va_up_ne _ _ (pl_ne hFqm15_38 hFqm7_38 rfl)]; exact hFqm15_38
        refine lv_aload_n hx hb dX9_write_70 rfl (lv_at hl 0 rfl) ?_
        refine lv_iconst (v := 1) hx hb dX9_write_71 (by decide) ?_
        refine va_calli (va_runV (As := [.int 1]) (rest := []) ⟨hx, hb, hml, hown, hts⟩ (c9_answers_0 l G cy L F46 H.size o qm 0 Pp.1 oc hmo hFo_46 Xx.2 hm15 hFqm15_46 1) (cwV 1 hts gX9_write_X9_answers rfl rfl rfl (by decide +kernel) ⟨Nat.le_of_ble_eq_true rfl, Nat.le_of_ble_eq_true rfl⟩) (preV_of okQ (⟨rfl, hP, hK, hD.top⟩) (pl_recv hK hP (ci := 8) rfl hmo hFo_46)) rfl rfl hl.1 rfl (lv_room (Nat.le_of_ble_eq_true rfl)) dX9_write_72 ⟨Nat.le_of_ble_eq_true rfl, Nat.le_of_ble_eq_true rfl⟩) hS (fun q _ h => pl_free hD hS hA q h) (pl_free hD hS hA) (fun r48 F47 t H1 locs ht hvm hw hP1 hz1 hk1 hS => ?_)
        have hP1 : va_P G vwCl (va_pl L F47) t.heap := hP1
        rw [ht] at hP1
        have hP := hP1
        generalize H1 = H at hP hS ⊢
        obtain ⟨hqr48, eF47⟩ := hw
        have hFo_F47 : F47 o = .inr (8, [.int 0, .ref (qm 0), .ref (qm 1), .ref (qm 2), .ref (qm 3), .ref (qm 4), .ref (qm 5), .ref (qm 6), .ref (qm 7), .int Pp.1, .ref (qm 8), .ref (qm 9), .ref (qm 10), .ref (qm 11), .ref (qm 12), .ref (qm 13), .ref (qm 14), .int 0, .ref (qm 15), .long oc]) := by rw [eF47]; exact hFo_46
        have hFqm0_F47 : F47 (qm 0) = cI (cy 1) 10 Mm.1 := by rw [eF47]; exact hFqm0_46
        have hFqm1_F47 : F47 (qm 1) = cJ (cy 2) 10 Mm.2 := by rw [eF47]; exact hFqm1_46
        have hFqm2_F47 : F47 (qm 2) = cD (cy 0) 6 Dd.1 := by rw [eF47]; exact hFqm2_46
        have hFqm3_F47 : F47 (qm 3) = cD (cy 0) 6 Dd.2.1 := by rw [eF47]; exact hFqm3_46
        have hFqm4_F47 : F47 (qm 4) = cD (cy 0) 6 Dd.2.2.1 := by rw [eF47]; exact hFqm4_46
        have hFqm5_F47 : F47 (qm 5) = cJ (cy 2) 6 Dd.2.2.2 := by rw [eF47]; exact hFqm5_46
        have hFqm6_F47 : F47 (qm 6) = cI (cy 1) 8 Sl.1 := by rw [eF47]; exact hFqm6_46
        have hFqm7_F47 : F47 (qm 7) = cJ (cy 2) 128 (vp_updL Sl.2 (16 * j_lg + q_i) r45) := by rw [eF47]; exact hFqm7_46
        have hFqm8_F47 : F47 (qm 8) = cI (cy 1) 30 Pp.2.1 := by rw [eF47]; exact hFqm8_46
        have hFqm9_F47 : F47 (qm 9) = cI (cy 3) 30 Pp.2.2 := by rw [eF47]; exact hFqm9_46
        have hFqm10_F47 : F47 (qm 10) = cI (cy 1) 5 Kr.1 := by rw [eF47]; exact hFqm10_46
        have hFqm11_F47 : F47 (qm 11) = cI (cy 3) 5 Kr.2.1 := by rw [eF47]; exact hFqm11_46
        have hFqm12_F47 : F47 (qm 12) = cI (cy 1) 60 Kr.2.2 := by rw [eF47]; exact hFqm12_46
        have hFqm13_F47 : F47 (qm 13) = cI (cy 1) 4 Bk.1 := by rw [eF47]; exact hFqm13_46
        have hFqm14_F47 : F47 (qm 14) = cD (cy 0) 4 Bk.2 := by rw [eF47]; exact hFqm14_46
        have hFqm15_F47 : F47 (qm 15) = cI (cy 1) 6 Xx.2 := by rw [eF47]; exact hFqm15_46
        have hr48 := hqr48
        exact W.iret (v := r48) hx hb hr (fun t ht hW => ⟨⟨r48, F47, rfl, (by subst hr48 hr45 ev43 ev42 ev40; have hsp : sp_write Mm Sl Xx (nI j_lg) (nI q_i) (nI j_me) = (1, (Sl.1, vp_updL Sl.2 (16 * j_lg + q_i) (tn (Mm.1 j_me) (Mm.2 j_me) (lw j_lg))), goodX Xx) := (by unfold sp_write; rw [hi_lg, hi_me]; exact (if_pos hp_i).trans (by rw [nI_tn (by omega)])); rw [hsp]; exact ⟨rfl, (by exact ⟨⟨_, _, hmo, hFo_F47⟩, ⟨hm0, hFqm0_F47⟩, ⟨hm1, hFqm1_F47⟩, ⟨hm2, hFqm2_F47⟩, ⟨hm3, hFqm3_F47⟩, ⟨hm4, hFqm4_F47⟩, ⟨hm5, hFqm5_F47⟩, ⟨hm6, hFqm6_F47⟩, ⟨hm7, hFqm7_F47⟩, ⟨hm8, hFqm8_F47⟩, ⟨hm9, hFqm9_F47⟩, ⟨hm10, hFqm10_F47⟩, ⟨hm11, hFqm11_F47⟩, ⟨hm12, hFqm12_F47⟩, ⟨hm13, hFqm13_F47⟩, ⟨hm14, hFqm14_F47⟩, ⟨hm15, hFqm15_F47⟩, hne⟩)⟩), (by show va_P _ _ _ t.heap; rw [ht]; exact hP)⟩, hS.F ht⟩) hS.2.2 dX9_write_75

set_option maxHeartbeats 8000000 in
set_option maxRecDepth 100000 in
theorem n_read (l : Launch) (G : va_G) (cy : Nat → ClassId) (L : List Nat) (F : Nat → va_E) (sz : Nat) (o : Nat) (qm : Nat → Nat) (Mm : SM) (Dd : SD) (Sl : SL) (Pp : SP) (Kr : SR) (Bk : SB) (Xx : SX) (hR : RepM cy L o qm Mm Dd Sl Pp Kr Bk Xx F) (hV : Val Mm Dd Sl Pp Kr Bk) (lg i me : Int32)  : Met l yX9_read wsX9_read ({ frames := 2, cells := 0, slots := 0, locals := 47 }) (va_Pc [.ref o, .int lg, .int i, .int me] (fun U => bQ G cy L F sz U U.heap)) (va_Qi (fun (r : Int32) (F' : Nat → va_E) => r = (sp_read Mm Sl Xx lg i me).1 ∧ RepM cy L o qm (sp_read Mm Sl Xx lg i me).2.1 Dd Sl Pp Kr Bk (sp_read Mm Sl Xx lg i me).2.2 F') (fun F' t => va_P G vwCl (va_pl L F') t.heap) (va_A (va_pl L F) sz)) 0 0 (va_A (va_pl L F) sz) := by
  refine Met.ofW (cc := cX9_read) (maxL := 4) (ret := (some .int)) (by decide) rfl ?_
  intro p e s m args below meth c s₁ B hml hv
  obtain ⟨rfl, hsz, hP, hK, hD0⟩ := hv
  have hx := B.exec
  have hb := B.bytes
  have hr := B.returns
  have hts := atoms_spec (ws := wsX9_read) B.pre
  have hown : s.vm.findClass RX9 = some m.cls := findClass_of_methodNamed B.named
  have hlocks := B.notSynchronized
  have hinX9 : ∀ w ∈ wsX90, w ∈ wsX9_read := by decide +kernel
  subst hsz
  have hD := hD0.self F s.heap.size
  generalize hAe : va_A (va_pl L F) s.heap.size = A at hD ⊢
  have hA : ∀ q : Nat, s.heap.size ≤ q → A q := fun q h => by rw [← hAe]; exact Or.inr h
  have hS : va_S A s.heap s.heap [] := va_S.rf
  obtain ⟨⟨th, oc, hmo, hFo⟩, ⟨hm0, hF0⟩, ⟨hm1, hF1⟩, ⟨hm2, hF2⟩, ⟨hm3, hF3⟩, ⟨hm4, hF4⟩, ⟨hm5, hF5⟩, ⟨hm6, hF6⟩, ⟨hm7, hF7⟩, ⟨hm8, hF8⟩, ⟨hm9, hF9⟩, ⟨hm10, hF10⟩, ⟨hm11, hF11⟩, ⟨hm12, hF12⟩, ⟨hm13, hF13⟩, ⟨hm14, hF14⟩, ⟨hm15, hF15⟩, hne⟩ := id hR
  obtain ⟨hVM, hVD, hVS, hVP, hVK, hVB⟩ := hV
  have hl := lv_entry ([.ref o, .int lg, .int i, .int me]) (n := 4) (Nat.le_of_ble_eq_true rfl)
  rw [lg_entry_eq]
  generalize (lg_sl ([.ref o, .int lg, .int i, .int me]) ++ List.replicate (4 - (lg_sl ([.ref o, .int lg, .int i, .int me])).length) Slot.unset).toArray = ls at hl ⊢
  have hl : lv_has ls 4 [(0, .ref o), (1, .int lg), (2, .int i), (3, .int me)] := hl
  rcases ixc 8 lg with hi_lg | ⟨j_lg, hj_lg, hi_lg, ei_lg⟩
  · rcases ixc 10 me with hi_me | ⟨j_me, hj_me, hi_me, ei_me⟩
    · refine lv_aload_n hx hb dX9_read_0 rfl (lv_at hl 0 rfl) ?_
      refine lv_iconst (v := 0) hx hb dX9_read_1 (by decide) ?_
      refine pg_put (ci := 8) (v := .int 0) (ty := .int) (C := RX9) (T := TX9) (N := 20) hx hb hts hinX9 tyX9 tyX9_ok nmX9 hown hK hP hD hS hmo hFo rfl 0 (by decide) (hts (.fieldLink RX9 61 "RopeDrumsModel" "thrown" "I") (by decide +kernel)) (fun _ h9 => h9) rfl (by decide +kernel) (rfl) (rfl) (Nat.le_of_ble_eq_true rfl) dX9_read_2 (fun H locs F1 eF1 hP hS => ?_)
      have eF1 : F1 = va_up F o (.inr (8, [.int 0, .ref (qm 0), .ref (qm 1), .ref (qm 2), .ref (qm 3), .ref (qm 4), .ref (qm 5), .ref (qm 6), .ref (qm 7), .int Pp.1, .ref (qm 8), .ref (qm 9), .ref (qm 10), .ref (qm 11), .ref (qm 12), .ref (qm 13), .ref (qm 14), .int Xx.1, .ref (qm 15), .long oc])) := eF1
      have hFo_1 : F1 o = .inr (8, [.int 0, .ref (qm 0), .ref (qm 1), .ref (qm 2), .ref (qm 3), .ref (qm 4), .ref (qm 5), .ref (qm 6), .ref (qm 7), .int Pp.1, .ref (qm 8), .ref (qm 9), .ref (qm 10), .ref (qm 11), .ref (qm 12), .ref (qm 13), .ref (qm 14), .int Xx.1, .ref (qm 15), .long oc]) := by rw [eF1]; exact va_up_self _ _ _
      have hFqm0_1 : F1 (qm 0) = cI (cy 1) 10 Mm.1 := by rw [eF1, va_up_ne _ _ (pl_ne hF0 hFo rfl)]; exact hF0
      have hFqm1_1 : F1 (qm 1) = cJ (cy 2) 10 Mm.2 := by rw [eF1, va_up_ne _ _ (pl_ne hF1 hFo rfl)]; exact hF1
      have hFqm2_1 : F1 (qm 2) = cD (cy 0) 6 Dd.1 := by rw [eF1, va_up_ne _ _ (pl_ne hF2 hFo rfl)]; exact hF2
      have hFqm3_1 : F1 (qm 3) = cD (cy 0) 6 Dd.2.1 := by rw [eF1, va_up_ne _ _ (pl_ne hF3 hFo rfl)]; exact hF3
      have hFqm4_1 : F1 (qm 4) = cD (cy 0) 6 Dd.2.2.1 := by rw [eF1, va_up_ne _ _ (pl_ne hF4 hFo rfl)]; exact hF4
      have hFqm5_1 : F1 (qm 5) = cJ (cy 2) 6 Dd.2.2.2 := by rw [eF1, va_up_ne _ _ (pl_ne hF5 hFo rfl)]; exact hF5
      have hFqm6_1 : F1 (qm 6) = cI (cy 1) 8 Sl.1 := by rw [eF1, va_up_ne _ _ (pl_ne hF6 hFo rfl)]; exact hF6
      have hFqm7_1 : F1 (qm 7) = cJ (cy 2) 128 Sl.2 := by rw [eF1, va_up_ne _ _ (pl_ne hF7 hFo rfl)]; exact hF7
      have hFqm8_1 : F1 (qm 8) = cI (cy 1) 30 Pp.2.1 := by rw [eF1, va_up_ne _ _ (pl_ne hF8 hFo rfl)]; exact hF8
      have hFqm9_1 : F1 (qm 9) = cI (cy 3) 30 Pp.2.2 := by rw [eF1, va_up_ne _ _ (pl_ne hF9 hFo rfl)]; exact hF9
      have hFqm10_1 : F1 (qm 10) = cI (cy 1) 5 Kr.1 := by rw [eF1, va_up_ne _ _ (pl_ne hF10 hFo rfl)]; exact hF10
      have hFqm11_1 : F1 (qm 11) = cI (cy 3) 5 Kr.2.1 := by rw [eF1, va_up_ne _ _ (pl_ne hF11 hFo rfl)]; exact hF11
      have hFqm12_1 : F1 (qm 12) = cI (cy 1) 60 Kr.2.2 := by rw [eF1, va_up_ne _ _ (pl_ne hF12 hFo rfl)]; exact hF12
      have hFqm13_1 : F1 (qm 13) = cI (cy 1) 4 Bk.1 := by rw [eF1, va_up_ne _ _ (pl_ne hF13 hFo rfl)]; exact hF13
      have hFqm14_1 : F1 (qm 14) = cD (cy 0) 4 Bk.2 := by rw [eF1, va_up_ne _ _ (pl_ne hF14 hFo rfl)]; exact hF14
      have hFqm15_1 : F1 (qm 15) = cI (cy 1) 6 Xx.2 := by rw [eF1, va_up_ne _ _ (pl_ne hF15 hFo rfl)]; exact hF15
      refine lv_iload_n hx hb dX9_read_5 rfl (lv_at hl 1 rfl) ?_
      refine vp_callSi (W.runS (As := [.int lg]) (rest := []) ⟨hx, hb, hml, hown, hts⟩ (c9_isLog l lg) (va_cwS 1 hts gX9_read_X9_isLog rfl rfl rfl (by decide +kernel) ⟨Nat.le_of_ble_eq_true rfl, Nat.le_of_ble_eq_true rfl⟩) (preS_of okT (trivial)) rfl rfl hl.1 rfl (lv_room (Nat.le_of_ble_eq_true rfl)) dX9_read_6 ⟨Nat.le_of_ble_eq_true rfl, Nat.le_of_ble_eq_true rfl⟩) (fun r2 hr2 => ?_)
      rw [isx0 hi_lg] at hr2
      subst hr2
      refine lv_if_eq (tgt := 19) hx hb dX9_read_9 (by decide) (fun c3 => ?_) (fun c3 => absurd (by decide) c3)
      refine lv_sipush (v := -1001) hx hb dX9_read_19 (by decide) ?_
      exact W.iret (v := -1001) hx hb hr (fun t ht hW => ⟨⟨-1001, F1, rfl, (by have hsp : sp_read Mm Sl Xx lg i me = (-1001, Mm, Xx) := (by unfold sp_read; rw [hi_lg]); rw [hsp]; exact ⟨rfl, (by exact ⟨⟨_, _, hmo, hFo_1⟩, ⟨hm0, hFqm0_1⟩, ⟨hm1, hFqm1_1⟩, ⟨hm2, hFqm2_1⟩, ⟨hm3, hFqm3_1⟩, ⟨hm4, hFqm4_1⟩, ⟨hm5, hFqm5_1⟩, ⟨hm6, hFqm6_1⟩, ⟨hm7, hFqm7_1⟩, ⟨hm8, hFqm8_1⟩, ⟨hm9, hFqm9_1⟩, ⟨hm10, hFqm10_1⟩, ⟨hm11, hFqm11_1⟩, ⟨hm12, hFqm12_1⟩, ⟨hm13, hFqm13_1⟩, ⟨hm14, hFqm14_1⟩, ⟨hm15, hFqm15_1⟩, hne⟩)⟩), (by show va_P _ _ _ t.heap; rw [ht]; exact hP)⟩, hS.F ht⟩) hS.2.2 dX9_read_22
    · subst ei_me
      refine lv_aload_n hx hb dX9_read_0 rfl (lv_at hl 0 rfl) ?_
      refine lv_iconst (v := 0) hx hb dX9_read_1 (by decide) ?_
      refine pg_put (ci := 8) (v := .int 0) (ty := .int) (C := RX9) (T := TX9) (N := 20) hx hb hts hinX9 tyX9 tyX9_ok nmX9 hown hK hP hD hS hmo hFo rfl 0 (by decide) (hts (.fieldLink RX9 61 "RopeDrumsModel" "thrown" "I") (by decide +kernel)) (fun _ h9 => h9) rfl (by decide +kernel) (rfl) (rfl) (Nat.le_of_ble_eq_true rfl) dX9_read_2 (fun H locs F4 eF4 hP hS => ?_)
      have eF4 : F4 = va_up F o (.inr (8, [.int 0, .ref (qm 0), .ref (qm 1), .ref (qm 2), .ref (qm 3), .ref (qm 4), .ref (qm 5), .ref (qm 6), .ref (qm 7), .int Pp.1, .ref (qm 8), .ref (qm 9), .ref (qm 10), .ref (qm 11), .ref (qm 12), .ref (qm 13), .ref (qm 14), .int Xx.1, .ref (qm 15), .long oc])) := eF4
      have hFo_4 : F4 o = .inr (8, [.int 0, .ref (qm 0), .ref (qm 1), .ref (qm 2), .ref (qm 3), .ref (qm 4), .ref (qm 5), .ref (qm 6), .ref (qm 7), .int Pp.1, .ref (qm 8), .ref (qm 9), .ref (qm 10), .ref (qm 11), .ref (qm 12), .ref (qm 13), .ref (qm 14), .int Xx.1, .ref (qm 15), .long oc]) := by rw [eF4]; exact va_up_self _ _ _
      have hFqm0_4 : F4 (qm 0) = cI (cy 1) 10 Mm.1 := by rw [eF4, va_up_ne _ _ (pl_ne hF0 hFo rfl)]; exact hF0
      have hFqm1_4 : F4 (qm 1) = cJ (cy 2) 10 Mm.2 := by rw [eF4, va_up_ne _ _ (pl_ne hF1 hFo rfl)]; exact hF1
      have hFqm2_4 : F4 (qm 2) = cD (cy 0) 6 Dd.1 := by rw [eF4, va_up_ne _ _ (pl_ne hF2 hFo rfl)]; exact hF2
      have hFqm3_4 : F4 (qm 3) = cD (cy 0) 6 Dd.2.1 := by rw [eF4, va_up_ne _ _ (pl_ne hF3 hFo rfl)]; exact hF3
      have hFqm4_4 : F4 (qm 4) = cD (cy 0) 6 Dd.2.2.1 := by rw [eF4, va_up_ne _ _ (pl_ne hF4 hFo rfl)]; exact hF4
      have hFqm5_4 : F4 (qm 5) = cJ (cy 2) 6 Dd.2.2.2 := by rw [eF4, va_up_ne _ _ (pl_ne hF5 hFo rfl)]; exact hF5
      have hFqm6_4 : F4 (qm 6) = cI (cy 1) 8 Sl.1 := by rw [eF4, va_up_ne _ _ (pl_ne hF6 hFo rfl)]; exact hF6
      have hFqm7_4 : F4 (qm 7) = cJ (cy 2) 128 Sl.2 := by rw [eF4, va_up_ne _ _ (pl_ne hF7 hFo rfl)]; exact hF7
      have hFqm8_4 : F4 (qm 8) = cI (cy 1) 30 Pp.2.1 := by rw [eF4, va_up_ne _ _ (pl_ne hF8 hFo rfl)]; exact hF8
      have hFqm9_4 : F4 (qm 9) = cI (cy 3) 30 Pp.2.2 := by rw [eF4, va_up_ne _ _ (pl_ne hF9 hFo rfl)]; exact hF9
      have hFqm10_4 : F4 (qm 10) = cI (cy 1) 5 Kr.1 := by rw [eF4, va_up_ne _ _ (pl_ne hF10 hFo rfl)]; exact hF10
      have hFqm11_4 : F4 (qm 11) = cI (cy 3) 5 Kr.2.1 := by rw [eF4, va_up_ne _ _ (pl_ne hF11 hFo rfl)]; exact hF11
      have hFqm12_4 : F4 (qm 12) = cI (cy 1) 60 Kr.2.2 := by rw [eF4, va_up_ne _ _ (pl_ne hF12 hFo rfl)]; exact hF12
      have hFqm13_4 : F4 (qm 13) = cI (cy 1) 4 Bk.1 := by rw [eF4, va_up_ne _ _ (pl_ne hF13 hFo rfl)]; exact hF13
      have hFqm14_4 : F4 (qm 14) = cD (cy 0) 4 Bk.2 := by rw [eF4, va_up_ne _ _ (pl_ne hF14 hFo rfl)]; exact hF14
      have hFqm15_4 : F4 (qm 15) = cI (cy 1) 6 Xx.2 := by rw [eF4, va_up_ne _ _ (pl_ne hF15 hFo rfl)]; exact hF15
      refine lv_iload_n hx hb dX9_read_5 rfl (lv_at hl 1 rfl) ?_
      refine vp_callSi (W.runS (As := [.int lg]) (rest := []) ⟨hx, hb, hml, hown, hts⟩ (c9_isLog l lg) (va_cwS 1 hts gX9_read_X9_isLog rfl rfl rfl (by decide +kernel) ⟨Nat.le_of_ble_eq_true rfl, Nat.le_of_ble_eq_true rfl⟩) (preS_of okT (trivial)) rfl rfl hl.1 rfl (lv_room (Nat.le_of_ble_eq_true rfl)) dX9_read_6 ⟨Nat.le_of_ble_eq_true rfl, Nat.le_of_ble_eq_true rfl⟩) (fun r5 hr5 => ?_)
      rw [isx0 hi_lg] at hr5
      subst hr5
      refine lv_if_eq (tgt := 19) hx hb dX9_read_9 (by decide) (fun c6 => ?_) (fun c6 => absurd (by decide) c6)
      refine lv_sipush (v := -1001) hx hb dX9_read_19 (by decide) ?_
      exact W.iret (v := -1001) hx hb hr (fun t ht hW => ⟨⟨-1001, F4, rfl, (by have hsp : sp_read Mm Sl Xx lg i (nI j_me) = (-1001, Mm, Xx) := (by unfold sp_read; rw [hi_lg]); rw [hsp]; exact ⟨rfl, (by exact ⟨⟨_, _, hmo, hFo_4⟩, ⟨hm0, hFqm0_4⟩, ⟨hm1, hFqm1_4⟩, ⟨hm2, hFqm2_4⟩, ⟨hm3, hFqm3_4⟩, ⟨hm4, hFqm4_4⟩, ⟨hm5, hFqm5_4⟩, ⟨hm6, hFqm6_4⟩, ⟨hm7, hFqm7_4⟩, ⟨hm8, hFqm8_4⟩, ⟨hm9, hFqm9_4⟩, ⟨hm10, hFqm10_4⟩, ⟨hm11, hFqm11_4⟩, ⟨hm12, hFqm12_4⟩, ⟨hm13, hFqm13_4⟩, ⟨hm14, hFqm14_4⟩, ⟨hm15, hFqm15_4⟩, hne⟩)⟩), (by show va_P _ _ _ t.heap; rw [ht]; exact hP)⟩, hS.F ht⟩) hS.2.2 dX9_read_22
  · subst ei_lg
    rcases ixc 10 me with hi_me | ⟨j_me, hj_me, hi_me, ei_me⟩
    · refine lv_aload_n hx hb dX9_read_0 rfl (lv_at hl 0 rfl) ?_
      refine lv_iconst (v := 0) hx hb dX9_read_1 (by decide) ?_
      refine pg_put (ci := 8) (v := .int 0) (ty := .int) (C := RX9) (T := TX9) (N := 20) hx hb hts hinX9 tyX9 tyX9_ok nmX9 hown hK hP hD hS hmo hFo rfl 0 (by decide) (hts (.fieldLink RX9 61 "RopeDrumsModel" "thrown" "I") (by decide +kernel)) (fun _ h9 => h9) rfl (by decide +kernel) (rfl) (rfl) (Nat.le_of_ble_eq_true rfl) dX9_read_2 (fun H locs F7 eF7 hP hS => ?_)
      have eF7 : F7 = va_up F o (.inr (8, [.int 0, .ref (qm 0), .ref (qm 1), .ref (qm 2), .ref (qm 3), .ref (qm 4), .ref (qm 5), .ref (qm 6), .ref (qm 7), .int Pp.1, .ref (qm 8), .ref (qm 9), .ref (qm 10), .ref (qm 11), .ref (qm 12), .ref (qm 13), .ref (qm 14), .int Xx.1, .ref (qm 15), .long oc])) := eF7
      have hFo_7 : F7 o = .inr (8, [.int 0, .ref (qm 0), .ref (qm 1), .ref (qm 2), .ref (qm 3), .ref (qm 4), .ref (qm 5), .ref (qm 6), .ref (qm 7), .int Pp.1, .ref (qm 8), .ref (qm 9), .ref (qm 10), .ref (qm 11), .ref (qm 12), .ref (qm 13), .ref (qm 14), .int Xx.1, .ref (qm 15), .long oc]) := by rw [eF7]; exact va_up_self _ _ _
      have hFqm0_7 : F7 (qm 0) = cI (cy 1) 10 Mm.1 := by rw [eF7, va_up_ne _ _ (pl_ne hF0 hFo rfl)]; exact hF0
      have hFqm1_7 : F7 (qm 1) = cJ (cy 2) 10 Mm.2 := by rw [eF7, va_up_ne _ _ (pl_ne hF1 hFo rfl)]; exact hF1
      have hFqm2_7 : F7 (qm 2) = cD (cy 0) 6 Dd.1 := by rw [eF7, va_up_ne _ _ (pl_ne hF2 hFo rfl)]; exact hF2
      have hFqm3_7 : F7 (qm 3) = cD (cy 0) 6 Dd.2.1 := by rw [eF7, va_up_ne _ _ (pl_ne hF3 hFo rfl)]; exact hF3
      have hFqm4_7 : F7 (qm 4) = cD (cy 0) 6 Dd.2.2.1 := by rw [eF7, va_up_ne _ _ (pl_ne hF4 hFo rfl)]; exact hF4
      have hFqm5_7 : F7 (qm 5) = cJ (cy 2) 6 Dd.2.2.2 := by rw [eF7, va_up_ne _ _ (pl_ne hF5 hFo rfl)]; exact hF5
      have hFqm6_7 : F7 (qm 6) = cI (cy 1) 8 Sl.1 := by rw [eF7, va_up_ne _ _ (pl_ne hF6 hFo rfl)]; exact hF6
      have hFqm7_7 : F7 (qm 7) = cJ (cy 2) 128 Sl.2 := by rw [eF7, va_up_ne _ _ (pl_ne hF7 hFo rfl)]; exact hF7
      have hFqm8_7 : F7 (qm 8) = cI (cy 1) 30 Pp.2.1 := by rw [eF7, va_up_ne _ _ (pl_ne hF8 hFo rfl)]; exact hF8
      have hFqm9_7 : F7 (qm 9) = cI (cy 3) 30 Pp.2.2 := by rw [eF7, va_up_ne _ _ (pl_ne hF9 hFo rfl)]; exact hF9
      have hFqm10_7 : F7 (qm 10) = cI (cy 1) 5 Kr.1 := by rw [eF7, va_up_ne _ _ (pl_ne hF10 hFo rfl)]; exact hF10
      have hFqm11_7 : F7 (qm 11) = cI (cy 3) 5 Kr.2.1 := by rw [eF7, va_up_ne _ _ (pl_ne hF11 hFo rfl)]; exact hF11
      have hFqm12_7 : F7 (qm 12) = cI (cy 1) 60 Kr.2.2 := by rw [eF7, va_up_ne _ _ (pl_ne hF12 hFo rfl)]; exact hF12
      have hFqm13_7 : F7 (qm 13) = cI (cy 1) 4 Bk.1 := by rw [eF7, va_up_ne _ _ (pl_ne hF13 hFo rfl)]; exact hF13
      have hFqm14_7 : F7 (qm 14) = cD (cy 0) 4 Bk.2 := by rw [eF7, va_up_ne _ _ (pl_ne hF14 hFo rfl)]; exact hF14
      have hFqm15_7 : F7 (qm 15) = cI (cy 1) 6 Xx.2 := by rw [eF7, va_up_ne _ _ (pl_ne hF15 hFo rfl)]; exact hF15
      refine lv_iload_n hx hb dX9_read_5 rfl (lv_at hl 1 rfl) ?_
      refine vp_callSi (W.runS (As := [.int (nI j_lg)]) (rest := []) ⟨hx, hb, hml, hown, hts⟩ (c9_isLog l (nI j_lg)) (va_cwS 1 hts gX9_read_X9_isLog rfl rfl rfl (by decide +kernel) ⟨Nat.le_of_ble_eq_true rfl, Nat.le_of_ble_eq_true rfl⟩) (preS_of okT (trivial)) rfl rfl hl.1 rfl (lv_room (Nat.le_of_ble_eq_true rfl)) dX9_read_6 ⟨Nat.le_of_ble_eq_true rfl, Nat.le_of_ble_eq_true rfl⟩) (fun r8 hr8 => ?_)
      rw [isx1 hi_lg] at hr8
      subst hr8
      refine lv_if_eq (tgt := 19) hx hb dX9_read_9 (by decide) (fun c9 => absurd c9 (by decide)) (fun c9 => ?_)
      refine lv_iload_n hx hb dX9_read_12 rfl (lv_at hl 3 rfl) ?_
      refine vp_callSi (W.runS (As := [.int me]) (rest := []) ⟨hx, hb, hml, hown, hts⟩ (c9_isMeter l me) (va_cwS 1 hts gX9_read_X9_isMeter rfl rfl rfl (by decide +kernel) ⟨Nat.le_of_ble_eq_true rfl, Nat.le_of_ble_eq_true rfl⟩) (preS_of okT (trivial)) rfl rfl hl.1 rfl (lv_room (Nat.le_of_ble_eq_true rfl)) dX9_read_13 ⟨Nat.le_of_ble_eq_true rfl, Nat.le_of_ble_eq_true rfl⟩) (fun r10 hr10 => ?_)
      rw [isx0 hi_me] at hr10
      subst hr10
      refine lv_if_ne (tgt := 23) hx hb dX9_read_16 (by decide) (fun c11 => absurd (by decide) c11) (fun c11 => ?_)
      refine lv_sipush (v := -1001) hx hb dX9_read_19 (by decide) ?_
      exact W.iret (v := -1001) hx hb hr (fun t ht hW => ⟨⟨-1001, F7, rfl, (by have hsp : sp_read Mm Sl Xx (nI j_lg) i me = (-1001, Mm, Xx) := (by unfold sp_read; rw [hi_lg, hi_me]); rw [hsp]; exact ⟨rfl, (by exact ⟨⟨_, _, hmo, hFo_7⟩, ⟨hm0, hFqm0_7⟩, ⟨hm1, hFqm1_7⟩, ⟨hm2, hFqm2_7⟩, ⟨hm3, hFqm3_7⟩, ⟨hm4, hFqm4_7⟩, ⟨hm5, hFqm5_7⟩, ⟨hm6, hFqm6_7⟩, ⟨hm7, hFqm7_7⟩, ⟨hm8, hFqm8_7⟩, ⟨hm9, hFqm9_7⟩, ⟨hm10, hFqm10_7⟩, ⟨hm11, hFqm11_7⟩, ⟨hm12, hFqm12_7⟩, ⟨hm13, hFqm13_7⟩, ⟨hm14, hFqm14_7⟩, ⟨hm15, hFqm15_7⟩, hne⟩)⟩), (by show va_P _ _ _ t.heap; rw [ht]; exact hP)⟩, hS.F ht⟩) hS.2.2 dX9_read_22
    · subst ei_me
      rcases lackc (i := i) (by decide) ((hVS j_lg hj_lg).1) with ⟨hp_i, hk_i⟩ | ⟨hp_i, hk_i⟩ | ⟨q_i, hq_i, hs_i, hp_i, hk_i, ei_i⟩
      · have hp0_i : ¬ pl0 (Sl.1 j_lg) i = 0 := by rw [hp_i]; decide
        refine lv_aload_n hx hb dX9_read_0 rfl (lv_at hl 0 rfl) ?_
        refine lv_iconst (v := 0) hx hb dX9_read_1 (by decide) ?_
        refine pg_put (ci := 8) (v := .int 0) (ty := .int) (C := RX9) (T := TX9) (N := 20) hx hb hts hinX9 tyX9 tyX9_ok nmX9 hown hK hP hD hS hmo hFo rfl 0 (by decide) (hts (.fieldLink RX9 61 "RopeDrumsModel" "thrown" "I") (by decide +kernel)) (fun _ h9 => h9) rfl (by decide +kernel) (rfl) (rfl) (Nat.le_of_ble_eq_true rfl) dX9_read_2 (fun H locs F12 eF12 hP hS => ?_)
        have eF12 : F12 = va_up F o (.inr (8, [.int 0, .ref (qm 0), .ref (qm 1), .ref (qm 2), .ref (qm 3), .ref (qm 4), .ref (qm 5), .ref (qm 6), .ref (qm 7), .int Pp.1, .ref (qm 8), .ref (qm 9), .ref (qm 10), .ref (qm 11), .ref (qm 12), .ref (qm 13), .ref (qm 14), .int Xx.1, .ref (qm 15), .long oc])) := eF12
        have hFo_12 : F12 o = .inr (8, [.int 0, .ref (qm 0), .ref (qm 1), .ref (qm 2), .ref (qm 3), .ref (qm 4), .ref (qm 5), .ref (qm 6), .ref (qm 7), .int Pp.1, .ref (qm 8), .ref (qm 9), .ref (qm 10), .ref (qm 11), .ref (qm 12), .ref (qm 13), .ref (qm 14), .int Xx.1, .ref (qm 15), .long oc]) := by rw [eF12]; exact va_up_self _ _ _
        have hFqm0_12 : F12 (qm 0) = cI (cy 1) 10 Mm.1 := by rw [eF12, va_up_ne _ _ (pl_ne hF0 hFo rfl)]; exact hF0
        have hFqm1_12 : F12 (qm 1) = cJ (cy 2) 10 Mm.2 := by rw [eF12, va_up_ne _ _ (pl_ne hF1 hFo rfl)]; exact hF1
        have hFqm2_12 : F12 (qm 2) = cD (cy 0) 6 Dd.1 := by rw [eF12, va_up_ne _ _ (pl_ne hF2 hFo rfl)]; exact hF2
        have hFqm3_12 : F12 (qm 3) = cD (cy 0) 6 Dd.2.1 := by rw [eF12, va_up_ne _ _ (pl_ne hF3 hFo rfl)]; exact hF3
        have hFqm4_12 : F12 (qm 4) = cD (cy 0) 6 Dd.2.2.1 := by rw [eF12, va_up_ne _ _ (pl_ne hF4 hFo rfl)]; exact hF4
        have hFqm5_12 : F12 (qm 5) = cJ (cy 2) 6 Dd.2.2.2 := by rw [eF12, va_up_ne _ _ (pl_ne hF5 hFo rfl)]; exact hF5
        have hFqm6_12 : F12 (qm 6) = cI (cy 1) 8 Sl.1 := by rw [eF12, va_up_ne _ _ (pl_ne hF6 hFo rfl)]; exact hF6
        have hFqm7_12 : F12 (qm 7) = cJ (cy 2) 128 Sl.2 := by rw [eF12, va_up_ne _ _ (pl_ne hF7 hFo rfl)]; exact hF7
        have hFqm8_12 : F12 (qm 8) = cI (cy 1) 30 Pp.2.1 := by rw [eF12, va_up_ne _ _ (pl_ne hF8 hFo rfl)]; exact hF8
        have hFqm9_12 : F12 (qm 9) = cI (cy 3) 30 Pp.2.2 := by rw [eF12, va_up_ne _ _ (pl_ne hF9 hFo rfl)]; exact hF9
        have hFqm10_12 : F12 (qm 10) = cI (cy 1) 5 Kr.1 := by rw [eF12, va_up_ne _ _ (pl_ne hF10 hFo rfl)]; exact hF10
        have hFqm11_12 : F12 (qm 11) = cI (cy 3) 5 Kr.2.1 := by rw [eF12, va_up_ne _ _ (pl_ne hF11 hFo rfl)]; exact hF11
        have hFqm12_12 : F12 (qm 12) = cI (cy 1) 60 Kr.2.2 := by rw [eF12, va_up_ne _ _ (pl_ne hF12 hFo rfl)]; exact hF12
        have hFqm13_12 : F12 (qm 13) = cI (cy 1) 4 Bk.1 := by rw [eF12, va_up_ne _ _ (pl_ne hF13 hFo rfl)]; exact hF13
        have hFqm14_12 : F12 (qm 14) = cD (cy 0) 4 Bk.2 := by rw [eF12, va_up_ne _ _ (pl_ne hF14 hFo rfl)]; exact hF14
        have hFqm15_12 : F12 (qm 15) = cI (cy 1) 6 Xx.2 := by rw [eF12, va_up_ne _ _ (pl_ne hF15 hFo rfl)]; exact hF15
        refine lv_iload_n hx hb dX9_read_5 rfl (lv_at hl 1 rfl) ?_
        refine vp_callSi (W.runS (As := [.int (nI j_lg)]) (rest := []) ⟨hx, hb, hml, hown, hts⟩ (c9_isLog l (nI j_lg)) (va_cwS 1 hts gX9_read_X9_isLog rfl rfl rfl (by decide +kernel) ⟨Nat.le_of_ble_eq_true rfl, Nat.le_of_ble_eq_true rfl⟩) (preS_of okT (trivial)) rfl rfl hl.1 rfl (lv_room (Nat.le_of_ble_eq_true rfl)) dX9_read_6 ⟨Nat.le_of_ble_eq_true rfl, Nat.le_of_ble_eq_true rfl⟩) (fun r13 hr13 => ?_)
        rw [isx1 hi_lg] at hr13
        subst hr13
        refine lv_if_eq (tgt := 19) hx hb dX9_read_9 (by decide) (fun c14 => absurd c14 (by decide)) (fun c14 => ?_)
        refine lv_iload_n hx hb dX9_read_12 rfl (lv_at hl 3 rfl) ?_
        refine vp_callSi (W.runS (As := [.int (nI j_me)]) (rest := []) ⟨hx, hb, hml, hown, hts⟩ (c9_isMeter l (nI j_me)) (va_cwS 1 hts gX9_read_X9_isMeter rfl rfl rfl (by decide +kernel) ⟨Nat.le_of_ble_eq_true rfl, Nat.le_of_ble_eq_true rfl⟩) (preS_of okT (trivial)) rfl rfl hl.1 rfl (lv_room (Nat.le_of_ble_eq_true rfl)) dX9_read_13 ⟨Nat.le_of_ble_eq_true rfl, Nat.le_of_ble_eq_true rfl⟩) (fun r15 hr15 => ?_)
        rw [isx1 hi_me] at hr15
        subst hr15
        refine lv_if_ne (tgt := 23) hx hb dX9_read_16 (by decide) (fun c16 => ?_) (fun c16 => absurd c16 (by decide))
        refine lv_aload_n hx hb dX9_read_23 rfl (lv_at hl 0 rfl) ?_
        refine lv_aload_n hx hb dX9_read_24 rfl (lv_at hl 0 rfl) ?_
        refine lv_iload_n hx hb dX9_read_25 rfl (lv_at hl 1 rfl) ?_
        refine lv_iload_n hx hb dX9_read_26 rfl (lv_at hl 2 rfl) ?_
        refine vp_callSi (W.runV (As := [.int (nI j_lg), .int i]) (rest := [.ref o]) ⟨hx, hb, hml, hown, hts⟩ (c9_logCause l G cy L F12 o qm 0 Pp.1 Xx.1 oc hmo hFo_12 Sl.1 hm6 hFqm6_12 j_lg hj_lg i ((hVS j_lg hj_lg).1)) (cwV 2 hts gX9_read_X9_logCause rfl rfl rfl (by decide +kernel) ⟨Nat.le_of_ble_eq_true rfl, Nat.le_of_ble_eq_true rfl⟩) (preV_of okP (⟨hP, hK, hD.top⟩) (pl_recv hK hP (ci := 8) rfl hmo hFo_12)) rfl rfl hl.1 rfl (lv_room (Nat.le_of_ble_eq_true rfl)) dX9_read_27 ⟨Nat.le_of_ble_eq_true rfl, Nat.le_of_ble_eq_true rfl⟩) (fun r17 hr17 => ?_)
        rw [hp_i] at hr17
        have hzr17 : r17 = 1 := hr17
        clear hr17
        subst hzr17
        refine pg_put (ci := 8) (v := .int 1) (ty := .int) (C := RX9) (T := TX9) (N := 20) hx hb hts hinX9 tyX9 tyX9_ok nmX9 hown hK hP hD hS hmo hFo_12 rfl 17 (by decide) (hts (.fieldLink RX9 65 "RopeDrumsModel" "failed" "I") (by decide +kernel)) (fun _ h9 => h9) rfl (by decide +kernel) (rfl) (rfl) (Nat.le_of_ble_eq_true rfl) dX9_read_30 (fun H locs F18 eF18 hP hS => ?_)
        have eF18 : F18 = va_up F12 o (.inr (8, [.int 0, .ref (qm 0), .ref (qm 1), .ref (qm 2), .ref (qm 3), .ref (qm 4), .ref (qm 5), .ref (qm 6), .ref (qm 7), .int Pp.1, .ref (qm 8), .ref (qm 9), .ref (qm 10), .ref (qm 11), .ref (qm 12), .ref (qm 13), .ref (qm 14), .int 1, .ref (qm 15), .long oc])) := eF18
        have hFo_18 : F18 o = .inr (8, [.int 0, .ref (qm 0), .ref (qm 1), .ref (qm 2), .ref (qm 3), .ref (qm 4), .ref (qm 5), .ref (qm 6), .ref (qm 7), .int Pp.1, .ref (qm 8), .ref (qm 9), .ref (qm 10), .ref (qm 11), .ref (qm 12), .ref (qm 13), .ref (qm 14), .int 1, .ref (qm 15), .long oc]) := by rw [eF18]; exact va_up_self _ _ _
        have hFqm0_18 : F18 (qm 0) = cI (cy 1) 10 Mm.1 := by rw [eF18, va_up_ne _ _ (pl_ne hFqm0_12 hFo_12 rfl)]; exact hFqm0_12
        have hFqm1_18 : F18 (qm 1) = cJ (cy 2) 10 Mm.2 := by rw [eF18, va_up_ne _ _ (pl_ne hFqm1_12 hFo_12 rfl)]; exact hFqm1_12
        have hFqm2_18 : F18 (qm 2) = cD (cy 0) 6 Dd.1 := by rw [eF18, va_up_ne _ _ (pl_ne hFqm2_12 hFo_12 rfl)]; exact hFqm2_12
        have hFqm3_18 : F18 (qm 3) = cD (cy 0) 6 Dd.2.1 := by rw [eF18, va_up_ne _ _ (pl_ne hFqm3_12 hFo_12 rfl)]; exact hFqm3_12
        have hFqm4_18 : F18 (qm 4) = cD (cy 0) 6 Dd.2.2.1 := by rw [eF18, va_up_ne _ _ (pl_ne hFqm4_12 hFo_12 rfl)]; exact hFqm4_12
        have hFqm5_18 : F18 (qm 5) = cJ (cy 2) 6 Dd.2.2.2 := by rw [eF18, va_up_ne _ _ (pl_ne hFqm5_12 hFo_12 rfl)]; exact hFqm5_12
        have hFqm6_18 : F18 (qm 6) = cI (cy 1) 8 Sl.1 := by rw [eF18, va_up_ne _ _ (pl_ne hFqm6_12 hFo_12 rfl)]; exact hFqm6_12
        have hFqm7_18 : F18 (qm 7) = cJ (cy 2) 128 Sl.2 := by rw [eF18, va_up_ne _ _ (pl_ne hFqm7_12 hFo_12 rfl)]; exact hFqm7_12
        have hFqm8_18 : F18 (qm 8) = cI (cy 1) 30 Pp.2.1 := by rw [eF18, va_up_ne _ _ (pl_ne hFqm8_12 hFo_12 rfl)]; exact hFqm8_12
        have hFqm9_18 : F18 (qm 9) = cI (cy 3) 30 Pp.2.2 := by rw [eF18, va_up_ne _ _ (pl_ne hFqm9_12 hFo_12 rfl)]; exact hFqm9_12
        have hFqm10_18 : F18 (qm 10) = cI (cy 1) 5 Kr.1 := by rw [eF18, va_up_ne _ _ (pl_ne hFqm10_12 hFo_12 rfl)]; exact hFqm10_12
        have hFqm11_18 : F18 (qm 11) = cI (cy 3) 5 Kr.2.1 := by rw [eF18, va_up_ne _ _ (pl_ne hFqm11_12 hFo_12 rfl)]; exact hFqm11_12
        have hFqm12_18 : F18 (qm 12) = cI (cy 1) 60 Kr.2.2 := by rw [eF18, va_up_ne _ _ (pl_ne hFqm12_12 hFo_12 rfl)]; exact hFqm12_12
        have hFqm13_18 : F18 (qm 13) = cI (cy 1) 4 Bk.1 := by rw [eF18, va_up_ne _ _ (pl_ne hFqm13_12 hFo_12 rfl)]; exact hFqm13_12
        have hFqm14_18 : F18 (qm 14) = cD (cy 0) 4 Bk.2 := by rw [eF18, va_up_ne _ _ (pl_ne hFqm14_12 hFo_12 rfl)]; exact hFqm14_12
        have hFqm15_18 : F18 (qm 15) = cI (cy 1) 6 Xx.2 := by rw [eF18, va_up_ne _ _ (pl_ne hFqm15_12 hFo_12 rfl)]; exact hFqm15_12
        refine lv_aload_n hx hb dX9_read_33 rfl (lv_at hl 0 rfl) ?_
        refine pg_get (ci := 8) (C := RX9) (T := TX9) (N := 20) hx hb hts hinX9 hown hK hP hmo hFo_18 rfl 17 (by decide) (hts (.fieldLink RX9 65 "RopeDrumsModel" "failed" "I") (by decide +kernel)) (fun _ h9 => h9) rfl dX9_read_34 ?_
        refine lv_if_ne (tgt := 67) hx hb dX9_read_37 (by decide) (fun c19 => ?_) (fun c19 => absurd c19 (by decide))
        refine lv_aload_n hx hb dX9_read_67 rfl (lv_at hl 0 rfl) ?_
        refine lv_iload_n hx hb dX9_read_68 rfl (lv_at hl 1 rfl) ?_
        refine vp_callSi (W.runS (As := [.int (nI j_lg)]) (rest := [.ref o]) ⟨hx, hb, hml, hown, hts⟩ (c9_laneOfLog l j_lg hj_lg) (va_cwS 1 hts gX9_read_X9_laneOfLog rfl rfl rfl (by decide +kernel) ⟨Nat.le_of_ble_eq_true rfl, Nat.le_of_ble_eq_true rfl⟩) (preS_of okT (trivial)) rfl rfl hl.1 rfl (lv_room (Nat.le_of_ble_eq_true rfl)) dX9_read_69 ⟨Nat.le_of_ble_eq_true rfl, Nat.le_of_ble_eq_true rfl⟩) (fun r20 hr20 => ?_)
        subst hr20
        refine va_calli (va_runV (As := [.int (lw j_lg)]) (rest := []) ⟨hx, hb, hml, hown, hts⟩ (c9_answers_1 l G cy L F18 H.size o qm 0 Pp.1 oc hmo hFo_18 Xx.2 hm15 hFqm15_18 (lw j_lg)) (cwV 1 hts gX9_read_X9_answers rfl rfl rfl (by decide +kernel) ⟨Nat.le_of_ble_eq_true rfl, Nat.le_of_ble_eq_true rfl⟩) (preV_of okQ (⟨rfl, hP, hK, hD.top⟩) (pl_recv hK hP (ci := 8) rfl hmo hFo_18)) rfl rfl hl.1 rfl (lv_room (Nat.le_of_ble_eq_true rfl)) dX9_read_72 ⟨Nat.le_of_ble_eq_true rfl, Nat.le_of_ble_eq_true rfl⟩) hS (fun q _ h => pl_free hD hS hA q h) (pl_free hD hS hA) (fun r22 F21 t H1 locs ht hvm hw hP1 hz1 hk1 hS => ?_)
        have hP1 : va_P G vwCl (va_pl L F21) t.heap := hP1
        rw [ht] at hP1
        have hP := hP1
        generalize H1 = H at hP hS ⊢
        obtain ⟨hqr22, eF21⟩ := hw
        have eF21 : F21 = va_up F18 (qm 15) (cI (cy 1) 6 (upd Xx.2 1 (Xx.2 1 + 1))) := eF21
        have hFo_22 : F21 o = .inr (8, [.int 0, .ref (qm 0), .ref (qm 1), .ref (qm 2), .ref (qm 3), .ref (qm 4), .ref (qm 5), .ref (qm 6), .ref (qm 7), .int Pp.1, .ref (qm 8), .ref (qm 9), .ref (qm 10), .ref (qm 11), .ref (qm 12), .ref (qm 13), .ref (qm 14), .int 1, .ref (qm 15), .long oc]) := by rw [eF21, va_up_ne _ _ (pl_ne hFo_18 hFqm15_18 rfl)]; exact hFo_18
        have hFqm0_22 : F21 (qm 0) = cI (cy 1) 10 Mm.1 := by rw [eF21, va_up_ne _ _ (pl_ne hFqm0_18 hFqm15_18 rfl)]; exact hFqm0_18
        have hFqm1_22 : F21 (qm 1) = cJ (cy 2) 10 Mm.2 := by rw [eF21, va_up_ne _ _ (pl_ne hFqm1_18 hFqm15_18 rfl)]; exact hFqm1_18
        have hFqm2_22 : F21 (qm 2) = cD (cy 0) 6 Dd.1 := by rw [eF21, va_up_ne _ _ (pl_ne hFqm2_18 hFqm15_18 rfl)]; exact hFqm2_18
        have hFqm3_22 : F21 (qm 3) = cD (cy 0) 6 Dd.2.1 := by rw [eF21, va_up_ne _ _ (pl_ne hFqm3_18 hFqm15_18 rfl)]; exact hFqm3_18
        have hFqm4_22 : F21 (qm 4) = cD (cy 0) 6 Dd.2.2.1 := by rw [eF21, va_up_ne _ _ (pl_ne hFqm4_18 hFqm15_18 rfl)]; exact hFqm4_18
        have hFqm5_22 : F21 (qm 5) = cJ (cy 2) 6 Dd.2.2.2 := by rw [eF21, va_up_ne _ _ (pl_ne hFqm5_18 hFqm15_18 rfl)]; exact hFqm5_18
        have hFqm6_22 : F21 (qm 6) = cI (cy 1) 8 Sl.1 := by rw [eF21, va_up_ne _ _ (pl_ne hFqm6_18 hFqm15_18 rfl)]; exact hFqm6_18
        have hFqm7_22 : F21 (qm 7) = cJ (cy 2) 128 Sl.2 := by rw [eF21, va_up_ne _ _ (pl_ne hFqm7_18 hFqm15_18 rfl)]; exact hFqm7_18
        have hFqm8_22 : F21 (qm 8) = cI (cy 1) 30 Pp.2.1 := by rw [eF21, va_up_ne _ _ (pl_ne hFqm8_18 hFqm15_18 rfl)]; exact hFqm8_18
        have hFqm9_22 : F21 (qm 9) = cI (cy 3) 30 Pp.2.2 := by rw [eF21, va_up_ne _ _ (pl_ne hFqm9_18 hFqm15_18 rfl)]; exact hFqm9_18
        have hFqm10_22 : F21 (qm 10) = cI (cy 1) 5 Kr.1 := by rw [eF21, va_up_ne _ _ (pl_ne hFqm10_18 hFqm15_18 rfl)]; exact hFqm10_18
        have hFqm11_22 : F21 (qm 11) = cI (cy 3) 5 Kr.2.1 := by rw [eF21, va_up_ne _ _ (pl_ne hFqm11_18 hFqm15_18 rfl)]; exact hFqm11_18
        have hFqm12_22 : F21 (qm 12) = cI (cy 1) 60 Kr.2.2 := by rw [eF21, va_up_ne _ _ (pl_ne hFqm12_18 hFqm15_18 rfl)]; exact hFqm12_18
        have hFqm13_22 : F21 (qm 13) = cI (cy 1) 4 Bk.1 := by rw [eF21, va_up_ne _ _ (pl_ne hFqm13_18 hFqm15_18 rfl)]; exact hFqm13_18
        have hFqm14_22 : F21 (qm 14) = cD (cy 0) 4 Bk.2 := by rw [eF21, va_up_ne _ _ (pl_ne hFqm14_18 hFqm15_18 rfl)]; exact hFqm14_18
        have hFqm15_22 : F21 (qm 15) = cI (cy 1) 6 (upd Xx.2 1 (Xx.2 1 + 1)) := by rw [eF21]; exact va_up_self _ _ _
        have hr22 := hqr22
        exact W.iret (v := r22) hx hb hr (fun t ht hW => ⟨⟨r22, F21, rfl, (by subst hr22; have hsp : sp_read Mm Sl Xx (nI j_lg) i (nI j_me) = (-10 - 1, Mm, failX Xx 1) := (by unfold sp_read; rw [hi_lg, hi_me]; exact (if_neg hp0_i).trans (by rw [hp_i]; rfl)); rw [hsp]; exact ⟨rfl, (by exact ⟨⟨_, _, hmo, hFo_22⟩, ⟨hm0, hFqm0_22⟩, ⟨hm1, hFqm1_22⟩, ⟨hm2, hFqm2_22⟩, ⟨hm3, hFqm3_22⟩, ⟨hm4, hFqm4_22⟩, ⟨hm5, hFqm5_22⟩, ⟨hm6, hFqm6_22⟩, ⟨hm7, hFqm7_22⟩, ⟨hm8, hFqm8_22⟩, ⟨hm9, hFqm9_22⟩, ⟨hm10, hFqm10_22⟩, ⟨hm11, hFqm11_22⟩, ⟨hm12, hFqm12_22⟩, ⟨hm13, hFqm13_22⟩, ⟨hm14, hFqm14_22⟩, ⟨hm15, hFqm15_22⟩, hne⟩)⟩), (by show va_P _ _ _ t.heap; rw [ht]; exact hP)⟩, hS.F ht⟩) hS.2.2 dX9_read_75
      · have hp0_i : ¬ pl0 (Sl.1 j_lg) i = 0 := by rw [hp_i]; decide
        refine lv_aload_n hx hb dX9_read_0 rfl (lv_at hl 0 rfl) ?_
        refine lv_iconst (v := 0) hx hb dX9_read_1 (by decide) ?_
        refine pg_put (ci := 8) (v := .int 0) (ty := .int) (C := RX9) (T := TX9) (N := 20) hx hb hts hinX9 tyX9 tyX9_ok nmX9 hown hK hP hD hS hmo hFo rfl 0 (by decide) (hts (.fieldLink RX9 61 "RopeDrumsModel" "thrown" "I") (by decide +kernel)) (fun _ h9 => h9) rfl (by decide +kernel) (rfl) (rfl) (Nat.le_of_ble_eq_true rfl) dX9_read_2 (fun H locs F23 eF23 hP hS => ?_)
        have eF23 : F23 = va_up F o (.inr (8, [.int 0, .ref (qm 0), .ref (qm 1), .ref (qm 2), .ref (qm 3), .ref (qm 4), .ref (qm 5), .ref (qm 6), .ref (qm 7), .int Pp.1, .ref (qm 8), .ref (qm 9), .ref (qm 10), .ref (qm 11), .ref (qm 12), .ref (qm 13), .ref (qm 14), .int Xx.1, .ref (qm 15), .long oc])) := eF23
        have hFo_23 : F23 o = .inr (8, [.int 0, .ref (qm 0), .ref (qm 1), .ref (qm 2), .ref (qm 3), .ref (qm 4), .ref (qm 5), .ref (qm 6), .ref (qm 7), .int Pp.1, .ref (qm 8), .ref (qm 9), .ref (qm 10), .ref (qm 11), .ref (qm 12), .ref (qm 13), .ref (qm 14), .int Xx.1, .ref (qm 15), .long oc]) := by rw [eF23]; exact va_up_self _ _ _
        have hFqm0_23 : F23 (qm 0) = cI (cy 1) 10 Mm.1 := by rw [eF23, va_up_ne _ _ (pl_ne hF0 hFo rfl)]; exact hF0
        have hFqm1_23 : F23 (qm 1) = cJ (cy 2) 10 Mm.2 := by rw [eF23, va_up_ne _ _ (pl_ne hF1 hFo rfl)]; exact hF1
        have hFqm2_23 : F23 (qm 2) = cD (cy 0) 6 Dd.1 := by rw [eF23, va_up_ne _ _ (pl_ne hF2 hFo rfl)]; exact hF2
        have hFqm3_23 : F23 (qm 3) = cD (cy 0) 6 Dd.2.1 := by rw [eF23, va_up_ne _ _ (pl_ne hF3 hFo rfl)]; exact hF3
        have hFqm4_23 : F23 (qm 4) = cD (cy 0) 6 Dd.2.2.1 := by rw [eF23, va_up_ne _ _ (pl_ne hF4 hFo rfl)]; exact hF4
        have hFqm5_23 : F23 (qm 5) = cJ (cy 2) 6 Dd.2.2.2 := by rw [eF23, va_up_ne _ _ (pl_ne hF5 hFo rfl)]; exact hF5
        have hFqm6_23 : F23 (qm 6) = cI (cy 1) 8 Sl.1 := by rw [eF23, va_up_ne _ _ (pl_ne hF6 hFo rfl)]; exact hF6
        have hFqm7_23 : F23 (qm 7) = cJ (cy 2) 128 Sl.2 := by rw [eF23, va_up_ne _ _ (pl_ne hF7 hFo rfl)]; exact hF7
        have hFqm8_23 : F23 (qm 8) = cI (cy 1) 30 Pp.2.1 := by rw [eF23, va_up_ne _ _ (pl_ne hF8 hFo rfl)]; exact hF8
        have hFqm9_23 : F23 (qm 9) = cI (cy 3) 30 Pp.2.2 := by rw [eF23, va_up_ne _ _ (pl_ne hF9 hFo rfl)]; exact hF9
        have hFqm10_23 : F23 (qm 10) = cI (cy 1) 5 Kr.1 := by rw [eF23, va_up_ne _ _ (pl_ne hF10 hFo rfl)]; exact hF10
        have hFqm11_23 : F23 (qm 11) = cI (cy 3) 5 Kr.2.1 := by rw [eF23, va_up_ne _ _ (pl_ne hF11 hFo rfl)]; exact hF11
        have hFqm12_23 : F23 (qm 12) = cI (cy 1) 60 Kr.2.2 := by rw [eF23, va_up_ne _ _ (pl_ne hF12 hFo rfl)]; exact hF12
        have hFqm13_23 : F23 (qm 13) = cI (cy 1) 4 Bk.1 := by rw [eF23, va_up_ne _ _ (pl_ne hF13 hFo rfl)]; exact hF13
        have hFqm14_23 : F23 (qm 14) = cD (cy 0) 4 Bk.2 := by rw [eF23, va_up_ne _ _ (pl_ne hF14 hFo rfl)]; exact hF14
        have hFqm15_23 : F23 (qm 15) = cI (cy 1) 6 Xx.2 := by rw [eF23, va_up_ne _ _ (pl_ne hF15 hFo rfl)]; exact hF15
        refine lv_iload_n hx hb dX9_read_5 rfl (lv_at hl 1 rfl) ?_
        refine vp_callSi (W.runS (As := [.int (nI j_lg)]) (rest := []) ⟨hx, hb, hml, hown, hts⟩ (c9_isLog l (nI j_lg)) (va_cwS 1 hts gX9_read_X9_isLog rfl rfl rfl (by decide +kernel) ⟨Nat.le_of_ble_eq_true rfl, Nat.le_of_ble_eq_true rfl⟩) (preS_of okT (trivial)) rfl rfl hl.1 rfl (lv_room (Nat.le_of_ble_eq_true rfl)) dX9_read_6 ⟨Nat.le_of_ble_eq_true rfl, Nat.le_of_ble_eq_true rfl⟩) (fun r24 hr24 => ?_)
        rw [isx1 hi_lg] at hr24
        subst hr24
        refine lv_if_eq (tgt := 19) hx hb dX9_read_9 (by decide) (fun c25 => absurd c25 (by decide)) (fun c25 => ?_)
        refine lv_iload_n hx hb dX9_read_12 rfl (lv_at hl 3 rfl) ?_
        refine vp_callSi (W.runS (As := [.int (nI j_me)]) (rest := []) ⟨hx, hb, hml, hown, hts⟩ (c9_isMeter l (nI j_me)) (va_cwS 1 hts gX9_read_X9_isMeter rfl rfl rfl (by decide +kernel) ⟨Nat.le_of_ble_eq_true rfl, Nat.le_of_ble_eq_true rfl⟩) (preS_of okT (trivial)) rfl rfl hl.1 rfl (lv_room (Nat.le_of_ble_eq_true rfl)) dX9_read_13 ⟨Nat.le_of_ble_eq_true rfl, Nat.le_of_ble_eq_true rfl⟩) (fun r26 hr26 => ?_)
        rw [isx1 hi_me] at hr26
        subst hr26
        refine lv_if_ne (tgt := 23) hx hb dX9_read_16 (by decide) (fun c27 => ?_) (fun c27 => absurd c27 (by decide))
        refine lv_aload_n hx hb dX9_read_23 rfl (lv_at hl 0 rfl) ?_
        refine lv_aload_n hx hb dX9_read_24 rfl (lv_at hl 0 rfl) ?_
        refine lv_iload_n hx hb dX9_read_25 rfl (lv_at hl 1 rfl) ?_
        refine lv_iload_n hx hb dX9_read_26 rfl (lv_at hl 2 rfl) ?_
        refine vp_callSi (W.runV (As := [.int (nI j_lg), .int i]) (rest := [.ref o]) ⟨hx, hb, hml, hown, hts⟩ (c9_logCause l G cy L F23 o qm 0 Pp.1 Xx.1 oc hmo hFo_23 Sl.1 hm6 hFqm6_23 j_lg hj_lg i ((hVS j_lg hj_lg).1)) (cwV 2 hts gX9_read_X9_logCause rfl rfl rfl (by decide +kernel) ⟨Nat.le_of_ble_eq_true rfl, Nat.le_of_ble_eq_true rfl⟩) (preV_of okP (⟨hP, hK, hD.top⟩) (pl_recv hK hP (ci := 8) rfl hmo hFo_23)) rfl rfl hl.1 rfl (lv_room (Nat.le_of_ble_eq_true rfl)) dX9_read_27 ⟨Nat.le_of_ble_eq_true rfl, Nat.le_of_ble_eq_true rfl⟩) (fun r28 hr28 => ?_)
        rw [hp_i] at hr28
        have hzr28 : r28 = 2 := hr28
        clear hr28
        subst hzr28
        refine pg_put (ci := 8) (v := .int 2) (ty := .int) (C := RX9) (T := TX9) (N := 20) hx hb hts hinX9 tyX9 tyX9_ok nmX9 hown hK hP hD hS hmo hFo_23 rfl 17 (by decide) (hts (.fieldLink RX9 65 "RopeDrumsModel" "failed" "I") (by decide +kernel)) (fun _ h9 => h9) rfl (by decide +kernel) (rfl) (rfl) (Nat.le_of_ble_eq_true rfl) dX9_read_30 (fun H locs F29 eF29 hP hS => ?_)
        have eF29 : F29 = va_up F23 o (.inr (8, [.int 0, .ref (qm 0), .ref (qm 1), .ref (qm 2), .ref (qm 3), .ref (qm 4), .ref (qm 5), .ref (qm 6), .ref (qm 7), .int Pp.1, .ref (qm 8), .ref (qm 9), .ref (qm 10), .ref (qm 11), .ref (qm 12), .ref (qm 13), .ref (qm 14), .int 2, .ref (qm 15), .long oc])) := eF29
        have hFo_29 : F29 o = .inr (8, [.int 0, .ref (qm 0), .ref (qm 1), .ref (qm 2), .ref (qm 3), .ref (qm 4), .ref (qm 5), .ref (qm 6), .ref (qm 7), .int Pp.1, .ref (qm 8), .ref (qm 9), .ref (qm 10), .ref (qm 11), .ref (qm 12), .ref (qm 13), .ref (qm 14), .int 2, .ref (qm 15), .long oc]) := by rw [eF29]; exact va_up_self _ _ _
        have hFqm0_29 : F29 (qm 0) = cI (cy 1) 10 Mm.1 := by rw [eF29, va_up_ne _ _ (pl_ne hFqm0_23 hFo_23 rfl)]; exact hFqm0_23
        have hFqm1_29 : F29 (qm 1) = cJ (cy 2) 10 Mm.2 := by rw [eF29, va_up_ne _ _ (pl_ne hFqm1_23 hFo_23 rfl)]; exact hFqm1_23
        have hFqm2_29 : F29 (qm 2) = cD (cy 0) 6 Dd.1 := by rw [eF29, va_up_ne _ _ (pl_ne hFqm2_23 hFo_23 rfl)]; exact hFqm2_23
        have hFqm3_29 : F29 (qm 3) = cD (cy 0) 6 Dd.2.1 := by rw [eF29, va_up_ne _ _ (pl_ne hFqm3_23 hFo_23 rfl)]; exact hFqm3_23
        have hFqm4_29 : F29 (qm 4) = cD (cy 0) 6 Dd.2.2.1 := by rw [eF29, va_up_ne _ _ (pl_ne hFqm4_23 hFo_23 rfl)]; exact hFqm4_23
        have hFqm5_29 : F29 (qm 5) = cJ (cy 2) 6 Dd.2.2.2 := by rw [eF29, va_up_ne _ _ (pl_ne hFqm5_23 hFo_23 rfl)]; exact hFqm5_23
        have hFqm6_29 : F29 (qm 6) = cI (cy 1) 8 Sl.1 := by rw [eF29, va_up_ne _ _ (pl_ne hFqm6_23 hFo_23 rfl)]; exact hFqm6_23
        have hFqm7_29 : F29 (qm 7) = cJ (cy 2) 128 Sl.2 := by rw [eF29, va_up_ne _ _ (pl_ne hFqm7_23 hFo_23 rfl)]; exact hFqm7_23
        have hFqm8_29 : F29 (qm 8) = cI (cy 1) 30 Pp.2.1 := by rw [eF29, va_up_ne _ _ (pl_ne hFqm8_23 hFo_23 rfl)]; exact hFqm8_23
        have hFqm9_29 : F29 (qm 9) = cI (cy 3) 30 Pp.2.2 := by rw [eF29, va_up_ne _ _ (pl_ne hFqm9_23 hFo_23 rfl)]; exact hFqm9_23
        have hFqm10_29 : F29 (qm 10) = cI (cy 1) 5 Kr.1 := by rw [eF29, va_up_ne _ _ (pl_ne hFqm10_23 hFo_23 rfl)]; exact hFqm10_23
        have hFqm11_29 : F29 (qm 11) = cI (cy 3) 5 Kr.2.1 := by rw [eF29, va_up_ne _ _ (pl_ne hFqm11_23 hFo_23 rfl)]; exact hFqm11_23
        have hFqm12_29 : F29 (qm 12) = cI (cy 1) 60 Kr.2.2 := by rw [eF29, va_up_ne _ _ (pl_ne hFqm12_23 hFo_23 rfl)]; exact hFqm12_23
        have hFqm13_29 : F29 (qm 13) = cI (cy 1) 4 Bk.1 := by rw [eF29, va_up_ne _ _ (pl_ne hFqm13_23 hFo_23 rfl)]; exact hFqm13_23
        have hFqm14_29 : F29 (qm 14) = cD (cy 0) 4 Bk.2 := by rw [eF29, va_up_ne _ _ (pl_ne hFqm14_23 hFo_23 rfl)]; exact hFqm14_23
        have hFqm15_29 : F29 (qm 15) = cI (cy 1) 6 Xx.2 := by rw [eF29, va_up_ne _ _ (pl_ne hFqm15_23 hFo_23 rfl)]; exact hFqm15_23
        refine lv_aload_n hx hb dX9_read_33 rfl (lv_at hl 0 rfl) ?_
        refine pg_get (ci := 8) (C := RX9) (T := TX9) (N := 20) hx hb hts hinX9 hown hK hP hmo hFo_29 rfl 17 (by decide) (hts (.fieldLink RX9 65 "RopeDrumsModel" "failed" "I") (by decide +kernel)) (fun _ h9 => h9) rfl dX9_read_34 ?_
        refine lv_if_ne (tgt := 67) hx hb dX9_read_37 (by decide) (fun c30 => ?_) (fun c30 => absurd c30 (by decide))
        refine lv_aload_n hx hb dX9_read_67 rfl (lv_at hl 0 rfl) ?_
        refine lv_iload_n hx hb dX9_read_68 rfl (lv_at hl 1 rfl) ?_
        refine vp_callSi (W.runS (As := [.int (nI j_lg)]) (rest := [.ref o]) ⟨hx, hb, hml, hown, hts⟩ (c9_laneOfLog l j_lg hj_lg) (va_cwS 1 hts gX9_read_X9_laneOfLog rfl rfl rfl (by decide +kernel) ⟨Nat.le_of_ble_eq_true rfl, Nat.le_of_ble_eq_true rfl⟩) (preS_of okT (trivial)) rfl rfl hl.1 rfl (lv_room (Nat.le_of_ble_eq_true rfl)) dX9_read_69 ⟨Nat.le_of_ble_eq_true rfl, Nat.le_of_ble_eq_true rfl⟩) (fun r31 hr31 => ?_)
        subst hr31
        refine va_calli (va_runV (As := [.int (lw j_lg)]) (rest := []) ⟨hx, hb, hml, hown, hts⟩ (c9_answers_2 l G cy L F29 H.size o qm 0 Pp.1 oc hmo hFo_29 Xx.2 hm15 hFqm15_29 (lw j_lg)) (cwV 1 hts gX9_read_X9_answers rfl rfl rfl (by decide +kernel) ⟨Nat.le_of_ble_eq_true rfl, Nat.le_of_ble_eq_true rfl⟩) (preV_of okQ (⟨rfl, hP, hK, hD.top⟩) (pl_recv hK hP (ci := 8) rfl hmo hFo_29)) rfl rfl hl.1 rfl (lv_room (Nat.le_of_ble_eq_true rfl)) dX9_read_72 ⟨Nat.le_of_ble_eq_true rfl, Nat.le_of_ble_eq_true rfl⟩) hS (fun q _ h => pl_free hD hS hA q h) (pl_free hD hS hA) (fun r33 F32 t H1 locs ht hvm hw hP1 hz1 hk1 hS => ?_)
        have hP1 : va_P G vwCl (va_pl L F32) t.heap := hP1
        rw [ht] at hP1
        have hP := hP1
        generalize H1 = H at hP hS ⊢
        obtain ⟨hqr33, eF32⟩ := hw
        have eF32 : F32 = va_up F29 (qm 15) (cI (cy 1) 6 (upd Xx.2 2 (Xx.2 2 + 1))) := eF32
        have hFo_33 : F32 o = .inr (8, [.int 0, .ref (qm 0), .ref (qm 1), .ref (qm 2), .ref (qm 3), .ref (qm 4), .ref (qm 5), .ref (qm 6), .ref (qm 7), .int Pp.1, .ref (qm 8), .ref (qm 9), .ref (qm 10), .ref (qm 11), .ref (qm 12), .ref (qm 13), .ref (qm 14), .int 2, .ref (qm 15), .long oc]) := by rw [eF32, va_up_ne _ _ (pl_ne hFo_29 hFqm15_29 rfl)]; exact hFo_29
        have hFqm0_33 : F32 (qm 0) = cI (cy 1) 10 Mm.1 := by rw [eF32, va_up_ne _ _ (pl_ne hFqm0_29 hFqm15_29 rfl)]; exact hFqm0_29
        have hFqm1_33 : F32 (qm 1) = cJ (cy 2) 10 Mm.2 := by rw [eF32, va_up_ne _ _ (pl_ne hFqm1_29 hFqm15_29 rfl)]; exact hFqm1_29
        have hFqm2_33 : F32 (qm 2) = cD (cy 0) 6 Dd.1 := by rw [eF32, va_up_ne _ _ (pl_ne hFqm2_29 hFqm15_29 rfl)]; exact hFqm2_29
        have hFqm3_33 : F32 (qm 3) = cD (cy 0) 6 Dd.2.1 := by rw [eF32, va_up_ne _ _ (pl_ne hFqm3_29 hFqm15_29 rfl)]; exact hFqm3_29
        have hFqm4_33 : F32 (qm 4) = cD (cy 0) 6 Dd.2.2.1 := by rw [eF32, va_up_ne _ _ (pl_ne hFqm4_29 hFqm15_29 rfl)]; exact hFqm4_29
        have hFqm5_33 : F32 (qm 5) = cJ (cy 2) 6 Dd.2.2.2 := by rw [eF32, va_up_ne _ _ (pl_ne hFqm5_29 hFqm15_29 rfl)]; exact hFqm5_29
        have hFqm6_33 : F32 (qm 6) = cI (cy 1) 8 Sl.1 := by rw [eF32, va_up_ne _ _ (pl_ne hFqm6_29 hFqm15_29 rfl)]; exact hFqm6_29
        have hFqm7_33 : F32 (qm 7) = cJ (cy 2) 128 Sl.2 := by rw [eF32, va_up_ne _ _ (pl_ne hFqm7_29 hFqm15_29 rfl)]; exact hFqm7_29
        have hFqm8_33 : F32 (qm 8) = cI (cy 1) 30 Pp.2.1 := by rw [eF32, va_up_ne _ _ (pl_ne hFqm8_29 hFqm15_29 rfl)]; exact hFqm8_29
        have hFqm9_33 : F32 (qm 9) = cI (cy 3) 30 Pp.2.2 := by rw [eF32, va_up_ne _ _ (pl_ne hFqm9_29 hFqm15_29 rfl)]; exact hFqm9_29
        have hFqm10_33 : F32 (qm 10) = cI (cy 1) 5 Kr.1 := by rw [eF32, va_up_ne _ _ (pl_ne hFqm10_29 hFqm15_29 rfl)]; exact hFqm10_29
        have hFqm11_33 : F32 (qm 11) = cI (cy 3) 5 Kr.2.1 := by rw [eF32, va_up_ne _ _ (pl_ne hFqm11_29 hFqm15_29 rfl)]; exact hFqm11_29
        have hFqm12_33 : F32 (qm 12) = cI (cy 1) 60 Kr.2.2 := by rw [eF32, va_up_ne _ _ (pl_ne hFqm12_29 hFqm15_29 rfl)]; exact hFqm12_29
        have hFqm13_33 : F32 (qm 13) = cI (cy 1) 4 Bk.1 := by rw [eF32, va_up_ne _ _ (pl_ne hFqm13_29 hFqm15_29 rfl)]; exact hFqm13_29
        have hFqm14_33 : F32 (qm 14) = cD (cy 0) 4 Bk.2 := by rw [eF32, va_up_ne _ _ (pl_ne hFqm14_29 hFqm15_29 rfl)]; exact hFqm14_29
        have hFqm15_33 : F32 (qm 15) = cI (cy 1) 6 (upd Xx.2 2 (Xx.2 2 + 1)) := by rw [eF32]; exact va_up_self _ _ _
        have hr33 := hqr33
        exact W.iret (v := r33) hx hb hr (fun t ht hW => ⟨⟨r33, F32, rfl, (by subst hr33; have hsp : sp_read Mm Sl Xx (nI j_lg) i (nI j_me) = (-10 - 2, Mm, failX Xx 2) := (by unfold sp_read; rw [hi_lg, hi_me]; exact (if_neg hp0_i).trans (by rw [hp_i]; rfl)); rw [hsp]; exact ⟨rfl, (by exact ⟨⟨_, _, hmo, hFo_33⟩, ⟨hm0, hFqm0_33⟩, ⟨hm1, hFqm1_33⟩, ⟨hm2, hFqm2_33⟩, ⟨hm3, hFqm3_33⟩, ⟨hm4, hFqm4_33⟩, ⟨hm5, hFqm5_33⟩, ⟨hm6, hFqm6_33⟩, ⟨hm7, hFqm7_33⟩, ⟨hm8, hFqm8_33⟩, ⟨hm9, hFqm9_33⟩, ⟨hm10, hFqm10_33⟩, ⟨hm11, hFqm11_33⟩, ⟨hm12, hFqm12_33⟩, ⟨hm13, hFqm13_33⟩, ⟨hm14, hFqm14_33⟩, ⟨hm15, hFqm15_33⟩, hne⟩)⟩), (by show va_P _ _ _ t.heap; rw [ht]; exact hP)⟩, hS.F ht⟩) hS.2.2 dX9_read_75
      · subst ei_i
        refine lv_aload_n hx hb dX9_read_0 rfl (lv_at hl 0 rfl) ?_
        refine lv_iconst (v := 0) hx hb dX9_read_1 (by decide) ?_
        refine pg_put (ci := 8) (v := .int 0) (ty := .int) (C := RX9) (T := TX9) (N := 20) hx hb hts hinX9 tyX9 tyX9_ok nmX9 hown hK hP hD hS hmo hFo rfl 0 (by decide) (hts (.fieldLink RX9 61 "RopeDrumsModel" "thrown" "I") (by decide +kernel)) (fun _ h9 => h9) rfl (by decide +kernel) (rfl) (rfl) (Nat.le_of_ble_eq_true rfl) dX9_read_2 (fun H locs F34 eF34 hP hS => ?_)
        have eF34 : F34 = va_up F o (.inr (8, [.int 0, .ref (qm 0), .ref (qm 1), .ref (qm 2), .ref (qm 3), .ref (qm 4), .ref (qm 5), .ref (qm 6), .ref (qm 7), .int Pp.1, .ref (qm 8), .ref (qm 9), .ref (qm 10), .ref (qm 11), .ref (qm 12), .ref (qm 13), .ref (qm 14), .int Xx.1, .ref (qm 15), .long oc])) := eF34
        have hFo_34 : F34 o = .inr (8, [.int 0, .ref (qm 0), .ref (qm 1), .ref (qm 2), .ref (qm 3), .ref (qm 4), .ref (qm 5), .ref (qm 6), .ref (qm 7), .int Pp.1, .ref (qm 8), .ref (qm 9), .ref (qm 10), .ref (qm 11), .ref (qm 12), .ref (qm 13), .ref (qm 14), .int Xx.1, .ref (qm 15), .long oc]) := by rw [eF34]; exact va_up_self _ _ _
        have hFqm0_34 : F34 (qm 0) = cI (cy 1) 10 Mm.1 := by rw [eF34, va_up_ne _ _ (pl_ne hF0 hFo rfl)]; exact hF0
        have hFqm1_34 : F34 (qm 1) = cJ (cy 2) 10 Mm.2 := by rw [eF34, va_up_ne _ _ (pl_ne hF1 hFo rfl)]; exact hF1
        have hFqm2_34 : F34 (qm 2) = cD (cy 0) 6 Dd.1 := by rw [eF34, va_up_ne _ _ (pl_ne hF2 hFo rfl)]; exact hF2
        have hFqm3_34 : F34 (qm 3) = cD (cy 0) 6 Dd.2.1 := by rw [eF34, va_up_ne _ _ (pl_ne hF3 hFo rfl)]; exact hF3
        have hFqm4_34 : F34 (qm 4) = cD (cy 0) 6 Dd.2.2.1 := by rw [eF34, va_up_ne _ _ (pl_ne hF4 hFo rfl)]; exact hF4
        have hFqm5_34 : F34 (qm 5) = cJ (cy 2) 6 Dd.2.2.2 := by rw [eF34, va_up_ne _ _ (pl_ne hF5 hFo rfl)]; exact hF5
        have hFqm6_34 : F34 (qm 6) = cI (cy 1) 8 Sl.1 := by rw [eF34, va_up_ne _ _ (pl_ne hF6 hFo rfl)]; exact hF6
        have hFqm7_34 : F34 (qm 7) = cJ (cy 2) 128 Sl.2 := by rw [eF34, va_up_ne _ _ (pl_ne hF7 hFo rfl)]; exact hF7
        have hFqm8_34 : F34 (qm 8) = cI (cy 1) 30 Pp.2.1 := by rw [eF34, va_up_ne _ _ (pl_ne hF8 hFo rfl)]; exact hF8
        have hFqm9_34 : F34 (qm 9) = cI (cy 3) 30 Pp.2.2 := by rw [eF34, va_up_ne _ _ (pl_ne hF9 hFo rfl)]; exact hF9
        have hFqm10_34 : F34 (qm 10) = cI (cy 1) 5 Kr.1 := by rw [eF34, va_up_ne _ _ (pl_ne hF10 hFo rfl)]; exact hF10
        have hFqm11_34 : F34 (qm 11) = cI (cy 3) 5 Kr.2.1 := by rw [eF34, va_up_ne _ _ (pl_ne hF11 hFo rfl)]; exact hF11
        have hFqm12_34 : F34 (qm 12) = cI (cy 1) 60 Kr.2.2 := by rw [eF34, va_up_ne _ _ (pl_ne hF12 hFo rfl)]; exact hF12
        have hFqm13_34 : F34 (qm 13) = cI (cy 1) 4 Bk.1 := by rw [eF34, va_up_ne _ _ (pl_ne hF13 hFo rfl)]; exact hF13
        have hFqm14_34 : F34 (qm 14) = cD (cy 0) 4 Bk.2 := by rw [eF34, va_up_ne _ _ (pl_ne hF14 hFo rfl)]; exact hF14
        have hFqm15_34 : F34 (qm 15) = cI (cy 1) 6 Xx.2 := by rw [eF34, va_up_ne _ _ (pl_ne hF15 hFo rfl)]; exact hF15
        refine lv_iload_n hx hb dX9_read_5 rfl (lv_at hl 1 rfl) ?_
        refine vp_callSi (W.runS (As := [.int (nI j_lg)]) (rest := []) ⟨hx, hb, hml, hown, hts⟩ (c9_isLog l (nI j_lg)) (va_cwS 1 hts gX9_read_X9_isLog rfl rfl rfl (by decide +kernel) ⟨Nat.le_of_ble_eq_true rfl, Nat.le_of_ble_eq_true rfl⟩) (preS_of okT (trivial)) rfl rfl hl.1 rfl (lv_room (Nat.le_of_ble_eq_true rfl)) dX9_read_6 ⟨Nat.le_of_ble_eq_true rfl, Nat.le_of_ble_eq_true rfl⟩) (fun r35 hr35 => ?_)
        rw [isx1 hi_lg] at hr35
        subst hr35
        refine lv_if_eq (tgt := 19) hx hb dX9_read_9 (by decide) (fun c36 => absurd c36 (by decide)) (fun c36 => ?_)
        refine lv_iload_n hx hb dX9_read_12 rfl (lv_at hl 3 rfl) ?_
        refine vp_callSi (W.runS (As := [.int (nI j_me)]) (rest := []) ⟨hx, hb, hml, hown, hts⟩ (c9_isMeter l (nI j_me)) (va_cwS 1 hts gX9_read_X9_isMeter rfl rfl rfl (by decide +kernel) ⟨Nat.le_of_ble_eq_true rfl, Nat.le_of_ble_eq_true rfl⟩) (preS_of okT (trivial)) rfl rfl hl.1 rfl (lv_room (Nat.le_of_ble_eq_true rfl)) dX9_read_13 ⟨Nat.le_of_ble_eq_true rfl, Nat.le_of_ble_eq_true rfl⟩) (fun r37 hr37 => ?_)
        rw [isx1 hi_me] at hr37
        subst hr37
        refine lv_if_ne (tgt := 23) hx hb dX9_read_16 (by decide) (fun c38 => ?_) (fun c38 => absurd c38 (by decide))
        refine lv_aload_n hx hb dX9_read_23 rfl (lv_at hl 0 rfl) ?_
        refine lv_aload_n hx hb dX9_read_24 rfl (lv_at hl 0 rfl) ?_
        refine lv_iload_n hx hb dX9_read_25 rfl (lv_at hl 1 rfl) ?_
        refine lv_iload_n hx hb dX9_read_26 rfl (lv_at hl 2 rfl) ?_
        refine vp_callSi (W.runV (As := [.int (nI j_lg), .int (nI q_i)]) (rest := [.ref o]) ⟨hx, hb, hml, hown, hts⟩ (c9_logCause l G cy L F34 o qm 0 Pp.1 Xx.1 oc hmo hFo_34 Sl.1 hm6 hFqm6_34 j_lg hj_lg (nI q_i) ((hVS j_lg hj_lg).1)) (cwV 2 hts gX9_read_X9_logCause rfl rfl rfl (by decide +kernel) ⟨Nat.le_of_ble_eq_true rfl, Nat.le_of_ble_eq_true rfl⟩) (preV_of okP (⟨hP, hK, hD.top⟩) (pl_recv hK hP (ci := 8) rfl hmo hFo_34)) rfl rfl hl.1 rfl (lv_room (Nat.le_of_ble_eq_true rfl)) dX9_read_27 ⟨Nat.le_of_ble_eq_true rfl, Nat.le_of_ble_eq_true rfl⟩) (fun r39 hr39 => ?_)
        rw [hp_i] at hr39
        have hzr39 : r39 = 0 := hr39
        clear hr39
        subst hzr39
        refine pg_put (ci := 8) (v := .int 0) (ty := .int) (C := RX9) (T := TX9) (N := 20) hx hb hts hinX9 tyX9 tyX9_ok nmX9 hown hK hP hD hS hmo hFo_34 rfl 17 (by decide) (hts (.fieldLink RX9 65 "RopeDrumsModel" "failed" "I") (by decide +kernel)) (fun _ h9 => h9) rfl (by decide +kernel) (rfl) (rfl) (Nat.le_of_ble_eq_true rfl) dX9_read_30 (fun H locs F40 eF40 hP hS => ?_)
        have eF40 : F40 = va_up F34 o (.inr (8, [.int 0, .ref (qm 0), .ref (qm 1), .ref (qm 2), .ref (qm 3), .ref (qm 4), .ref (qm 5), .ref (qm 6), .ref (qm 7), .int Pp.1, .ref (qm 8), .ref (qm 9), .ref (qm 10), .ref (qm 11), .ref (qm 12), .ref (qm 13), .ref (qm 14), .int 0, .ref (qm 15), .long oc])) := eF40
        have hFo_40 : F40 o = .inr (8, [.int 0, .ref (qm 0), .ref (qm 1), .ref (qm 2), .ref (qm 3), .ref (qm 4), .ref (qm 5), .ref (qm 6), .ref (qm 7), .int Pp.1, .ref (qm 8), .ref (qm 9), .ref (qm 10), .ref (qm 11), .ref (qm 12), .ref (qm 13), .ref (qm 14), .int 0, .ref (qm 15), .long oc]) := by rw [eF40]; exact va_up_self _ _ _
        have hFqm0_40 : F40 (qm 0) = cI (cy 1) 10 Mm.1 := by rw [eF40, va_up_ne _ _ (pl_ne hFqm0_34 hFo_34 rfl)]; exact hFqm0_34
        have hFqm1_40 : F40 (qm 1) = cJ (cy 2) 10 Mm.2 := by rw [eF40, va_up_ne _ _ (pl_ne hFqm1_34 hFo_34 rfl)]; exact hFqm1_34
        have hFqm2_40 : F40 (qm 2) = cD (cy 0) 6 Dd.1 := by rw [eF40, va_up_ne _ _ (pl_ne hFqm2_34 hFo_34 rfl)]; exact hFqm2_34
        have hFqm3_40 : F40 (qm 3) = cD (cy 0) 6 Dd.2.1 := by rw [eF40, va_up_ne _ _ (pl_ne hFqm3_34 hFo_34 rfl)]; exact hFqm3_34
        have hFqm4_40 : F40 (qm 4) = cD (cy 0) 6 Dd.2.2.1 := by rw [eF40, va_up_ne _ _ (pl_ne hFqm4_34 hFo_34 rfl)]; exact hFqm4_34
        have hFqm5_40 : F40 (qm 5) = cJ (cy 2) 6 Dd.2.2.2 := by rw [eF40, va_up_ne _ _ (pl_ne hFqm5_34 hFo_34 rfl)]; exact hFqm5_34
        have hFqm6_40 : F40 (qm 6) = cI (cy 1) 8 Sl.1 := by rw [eF40, va_up_ne _ _ (pl_ne hFqm6_34 hFo_34 rfl)]; exact hFqm6_34
        have hFqm7_40 : F40 (qm 7) = cJ (cy 2) 128 Sl.2 := by rw [eF40, va_up_ne _ _ (pl_ne hFqm7_34 hFo_34 rfl)]; exact hFqm7_34
        have hFqm8_40 : F40 (qm 8) = cI (cy 1) 30 Pp.2.1 := by rw [eF40, va_up_ne _ _ (pl_ne hFqm8_34 hFo_34 rfl)]; exact hFqm8_34
        have hFqm9_40 : F40 (qm 9) = cI (cy 3) 30 Pp.2.2 := by rw [eF40, va_up_ne _ _ (pl_ne hFqm9_34 hFo_34 rfl)]; exact hFqm9_34
        have hFqm10_40 : F40 (qm 10) = cI (cy 1) 5 Kr.1 := by rw [eF40, va_up_ne _ _ (pl_ne hFqm10_34 hFo_34 rfl)]; exact hFqm10_34
        have hFqm11_40 : F40 (qm 11) = cI (cy 3) 5 Kr.2.1 := by rw [eF40, va_up_ne _ _ (pl_ne hFqm11_34 hFo_34 rfl)]; exact hFqm11_34
        have hFqm12_40 : F40 (qm 12) = cI (cy 1) 60 Kr.2.2 := by rw [eF40, va_up_ne _ _ (pl_ne hFqm12_34 hFo_34 rfl)]; exact hFqm12_34
        have hFqm13_40 : F40 (qm 13) = cI (cy 1) 4 Bk.1 := by rw [eF40, va_up_ne _ _ (pl_ne hFqm13_34 hFo_34 rfl)]; exact hFqm13_34
        have hFqm14_40 : F40 (qm 14) = cD (cy 0) 4 Bk.2 := by rw [eF40, va_up_ne _ _ (pl_ne hFqm14_34 hFo_34 rfl)]; exact hFqm14_34
        have hFqm15_40 : F40 (qm 15) = cI (cy 1) 6 Xx.2 := by rw [eF40, va_up_ne _ _ (pl_ne hFqm15_34 hFo_34 rfl)]; exact hFqm15_34
        refine lv_aload_n hx hb dX9_read_33 rfl (lv_at hl 0 rfl) ?_
        refine pg_get (ci := 8) (C := RX9) (T := TX9) (N := 20) hx hb hts hinX9 hown hK hP hmo hFo_40 rfl 17 (by decide) (hts (.fieldLink RX9 65 "RopeDrumsModel" "failed" "I") (by decide +kernel)) (fun _ h9 => h9) rfl dX9_read_34 ?_
        refine lv_if_ne (tgt := 67) hx hb dX9_read_37 (by decide) (fun c41 => absurd (by decide) c41) (fun c41 => ?_)
        refine lv_aload_n hx hb dX9_read_40 rfl (lv_at hl 0 rfl) ?_
        refine pg_get (ci := 8) (C := RX9) (T := TX9) (N := 20) hx hb hts hinX9 hown hK hP hmo hFo_40 rfl 1 (by decide) (hts (.fieldLink RX9 7 "RopeDrumsModel" "laneOf" "[I") (by decide +kernel)) (fun _ h9 => h9) rfl dX9_read_41 ?_
        refine lv_iload_n hx hb dX9_read_44 rfl (lv_at hl 3 rfl) ?_
        refine lv_iload_n hx hb dX9_read_45 rfl (lv_at hl 1 rfl) ?_
        refine vp_callSi (W.runS (As := [.int (nI j_lg)]) (rest := [.int (nI j_me), .ref (qm 0)]) ⟨hx, hb, hml, hown, hts⟩ (c9_laneOfLog l j_lg hj_lg) (va_cwS 1 hts gX9_read_X9_laneOfLog rfl rfl rfl (by decide +kernel) ⟨Nat.le_of_ble_eq_true rfl, Nat.le_of_ble_eq_true rfl⟩) (preS_of okT (trivial)) rfl rfl hl.1 rfl (lv_room (Nat.le_of_ble_eq_true rfl)) dX9_read_46 ⟨Nat.le_of_ble_eq_true rfl, Nat.le_of_ble_eq_true rfl⟩) (fun r42 hr42 => ?_)
        subst hr42
        refine pg_iast hx hb hK hP hD hS 1 hm0 hFqm0_40 rfl (vp_in_nI (by omega) (by decide)) dX9_read_49 (fun H locs F43 eF43 hP hS => ?_)
        rw [nI_clamp (by omega)] at eF43
        have hFo_43 : F43 o = .inr (8, [.int 0, .ref (qm 0), .ref (qm 1), .ref (qm 2), .ref (qm 3), .ref (qm 4), .ref (qm 5), .ref (qm 6), .ref (qm 7), .int Pp.1, .ref (qm 8), .ref (qm 9), .ref (qm 10), .ref (qm 11), .ref (qm 12), .ref (qm 13), .ref (qm 14), .int 0, .ref (qm 15), .long oc]) := by rw [eF43, va_up_ne _ _ (pl_ne hFo_40 hFqm0_40 rfl)]; exact hFo_40
        have hFqm0_43 : F43 (qm 0) = cI (cy 1) 10 (upd Mm.1 j_me (lw j_lg)) := by rw [eF43]; exact va_up_self _ _ _
        have hFqm1_43 : F43 (qm 1) = cJ (cy 2) 10 Mm.2 := by rw [eF43, va_up_ne _ _ (pl_ne hFqm1_40 hFqm0_40 rfl)]; exact hFqm1_40
        have hFqm2_43 : F43 (qm 2) = cD (cy 0) 6 Dd.1 := by rw [eF43, va_up_ne _ _ (pl_ne hFqm2_40 hFqm0_40 rfl)]; exact hFqm2_40
        have hFqm3_43 : F43 (qm 3) = cD (cy 0) 6 Dd.2.1 := by rw [eF43, va_up_ne _ _ (pl_ne hFqm3_40 hFqm0_40 rfl)]; exact hFqm3_40
        have hFqm4_43 : F43 (qm 4) = cD (cy 0) 6 Dd.2.2.1 := by rw [eF43, va_up_ne _ _ (pl_ne hFqm4_40 hFqm0_40 rfl)]; exact hFqm4_40
        have hFqm5_43 : F43 (qm 5) = cJ (cy 2) 6 Dd.2.2.2 := by rw [eF43, va_up_ne _ _ (pl_ne hFqm5_40 hFqm0_40 rfl)]; exact hFqm5_40
        have hFqm6_43 : F43 (qm 6) = cI (cy 1) 8 Sl.1 := by rw [eF43, va_up_ne _ _ (pl_ne hFqm6_40 hFqm0_40 rfl)]; exact hFqm6_40
        have hFqm7_43 : F43 (qm 7) = cJ (cy 2) 128 Sl.2 := by rw [eF43, va_up_ne _ _ (pl_ne hFqm7_40 hFqm0_40 rfl)]; exact hFqm7_40
        have hFqm8_43 : F43 (qm 8) = cI (cy 1) 30 Pp.2.1 := by rw [eF43, va_up_ne _ _ (pl_ne hFqm8_40 hFqm0_40 rfl)]; exact hFqm8_40
        have hFqm9_43 : F43 (qm 9) = cI (cy 3) 30 Pp.2.2 := by rw [eF43, va_up_ne _ _ (pl_ne hFqm9_40 hFqm0_40 rfl)]; exact hFqm9_40
        have hFqm10_43 : F43 (qm 10) = cI (cy 1) 5 Kr.1 := by rw [eF43, va_up_ne _ _ (pl_ne hFqm10_40 hFqm0_40 rfl)]; exact hFqm10_40
        have hFqm11_43 : F43 (qm 11) = cI (cy 3) 5 Kr.2.1 := by rw [eF43, va_up_ne _ _ (pl_ne hFqm11_40 hFqm0_40 rfl)]; exact hFqm11_40
        have hFqm12_43 : F43 (qm 12) = cI (cy 1) 60 Kr.2.2 := by rw [eF43, va_up_ne _ _ (pl_ne hFqm12_40 hFqm0_40 rfl)]; exact hFqm12_40
        have hFqm13_43 : F43 (qm 13) = cI (cy 1) 4 Bk.1 := by rw [eF43, va_up_ne _ _ (pl_ne hFqm13_40 hFqm0_40 rfl)]; exact hFqm13_40
        have hFqm14_43 : F43 (qm 14) = cD (cy 0) 4 Bk.2 := by rw [eF43, va_up_ne _ _ (pl_ne hFqm14_40 hFqm0_40 rfl)]; exact hFqm14_40
        have hFqm15_43 : F43 (qm 15) = cI (cy 1) 6 Xx.2 := by rw [eF43, va_up_ne _ _ (pl_ne hFqm15_40 hFqm0_40 rfl)]; exact hFqm15_40
        refine lv_aload_n hx hb dX9_read_50 rfl (lv_at hl 0 rfl) ?_
        refine pg_get (ci := 8) (C := RX9) (T := TX9) (N := 20) hx hb hts hinX9 hown hK hP hmo hFo_43 rfl 2 (by decide) (hts (.fieldLink RX9 13 "RopeDrumsModel" "held" "[J") (by decide +kernel)) (fun _ h9 => h9) rfl dX9_read_51 ?_
        refine lv_iload_n hx hb dX9_read_54 rfl (lv_at hl 3 rfl) ?_
        refine lv_aload_n hx hb dX9_read_55 rfl (lv_at hl 0 rfl) ?_
        refine pg_get (ci := 8) (C := RX9) (T := TX9) (N := 20) hx hb hts hinX9 hown hK hP hmo hFo_43 rfl 8 (by decide) (hts (.fieldLink RX9 33 "RopeDrumsModel" "logBits" "[J") (by decide +kernel)) (fun _ h9 => h9) rfl dX9_read_56 ?_
        refine lv_bipush (v := 16) hx hb dX9_read_59 (by decide) ?_
        refine lv_iload_n hx hb dX9_read_61 rfl (lv_at hl 1 rfl) ?_
        refine lv_imul hx hb dX9_read_62 ?_
        refine lv_topi (fun v44 ev44 => ?_)
        refine lv_iload_n hx hb dX9_read_63 rfl (lv_at hl 2 rfl) ?_
        refine lv_iadd hx hb dX9_read_64 ?_
        refine lv_topi (fun v45 ev45 => ?_)
        rw [ev44, nI16] at ev45
        subst ev45
        refine pg_lald hx hb hK hP 2 hm7 hFqm7_43 rfl (vp_in_nI (by omega) (by decide)) dX9_read_65 ?_
        refine lv_topl (fun v46 ev46 => ?_)
        rw [nI_clamp (by omega)] at ev46
        refine pg_last hx hb hK hP hD hS 2 hm1 hFqm1_43 rfl (vp_in_nI (by omega) (by decide)) dX9_read_66 (fun H locs F47 eF47 hP hS => ?_)
        rw [nI_clamp (by omega)] at eF47
        have hFo_47 : F47 o = .inr (8, [.int 0, .ref (qm 0), .ref (qm 1), .ref (qm 2), .ref (qm 3), .ref (qm 4), .ref (qm 5), .ref (qm 6), .ref (qm 7), .int Pp.1, .ref (qm 8), .ref (qm 9), .ref (qm 10), .ref (qm 11), .ref (qm 12), .ref (qm 13), .ref (qm 14), .int 0, .ref (qm 15), .long oc]) := by rw [eF47, va_up_ne _ _ (pl_ne hFo_43 hFqm1_43 rfl)]; exact hFo_43
        have hFqm0_47 : F47 (qm 0) = cI (cy 1) 10 (upd Mm.1 j_me (lw j_lg)) := by rw [eF47, va_up_ne _ _ (pl_ne hFqm0_43 hFqm1_43 rfl)]; exact hFqm0_43
        have hFqm1_47 : F47 (qm 1) = cJ (cy 2) 10 (vp_updL Mm.2 j_me v46) := by rw [eF47]; exact va_up_self _ _ _
        have hFqm2_47 : F47 (qm 2) = cD (cy 0) 6 Dd.1 := by rw [eF47, va_up_ne _ _ (pl_ne hFqm2_43 hFqm1_43 rfl)]; exact hFqm2_43
        have hFqm3_47 : F47 (qm 3) = cD (cy 0) 6 Dd.2.1 := by rw [eF47, va_up_ne _ _ (pl_ne hFqm3_43 hFqm1_43 rfl)]; exact hFqm3_43
        have hFqm4_47 : F47 (qm 4) = cD (cy 0) 6 Dd.2.2.1 := by rw [eF47, va_up_ne _ _ (pl_ne hFqm4_43 hFqm1_43 rfl)]; exact hFqm4_43
        have hFqm5_47 : F47 (qm 5) = cJ (cy 2) 6 Dd.2.2.2 := by rw [eF47, va_up_ne _ _ (pl_ne hFqm5_43 hFqm1_43 rfl)]; exact hFqm5_43
        have hFqm6_47 : F47 (qm 6) = cI (cy 1) 8 Sl.1 := by rw [eF47, va_up_ne _ _ (pl_ne hFqm6_43 hFqm1_43 rfl)]; exact hFqm6_43
        have hFqm7_47 : F47 (qm 7) = cJ (cy 2) 128 Sl.2 := by rw [eF47, va_up_ne _ _ (pl_ne hFqm7_43 hFqm1_43 rfl)]; exact hFqm7_43
        have hFqm8_47 : F47 (qm 8) = cI (cy 1) 30 Pp.2.1 := by rw [eF47, va_up_ne _ _ (pl_ne hFqm8_43 hFqm1_43 rfl)]; exact hFqm8_43
        have hFqm9_47 : F47 (qm 9) = cI (cy 3) 30 Pp.2.2 := by rw [eF47, va_up_ne _ _ (pl_ne hFqm9_43 hFqm1_43 rfl)]; exact hFqm9_43
        have hFqm10_47 : F47 (qm 10) = cI (cy 1) 5 Kr.1 := by rw [eF47, va_up_ne _ _ (pl_ne hFqm10_43 hFqm1_43 rfl)]; exact hFqm10_43
        have hFqm11_47 : F47 (qm 11) = cI (cy 3) 5 Kr.2.1 := by rw [eF47, va_up_ne _ _ (pl_ne hFqm11_43 hFqm1_43 rfl)]; exact hFqm11_43
        have hFqm12_47 : F47 (qm 12) = cI (cy 1) 60 Kr.2.2 := by rw [eF47, va_up_ne _ _ (pl_ne hFqm12_43 hFqm1_43 rfl)]; exact hFqm12_43
        have hFqm13_47 : F47 (qm 13) = cI (cy 1) 4 Bk.1 := by rw [eF47, va_up_ne _ _ (pl_ne hFqm13_43 hFqm1_43 rfl)]; exact hFqm13_43
        have hFqm14_47 : F47 (qm 14) = cD (cy 0) 4 Bk.2 := by rw [eF47, va_up_ne _ _ (pl_ne hFqm14_43 hFqm1_43 rfl)]; exact hFqm14_43
        have hFqm15_47 : F47 (qm 15) = cI (cy 1) 6 Xx.2 := by rw [eF47, va_up_ne _ _ (pl_ne hFqm15_43 hFqm1_43 rfl)]; exact hFqm15_43
        refine lv_aload_n hx hb dX9_read_67 rfl (lv_at hl 0 rfl) ?_
        refine lv_iload_n hx hb dX9_read_68 rfl (lv_at hl 1 rfl) ?_
        refine vp_callSi (W.runS (As := [.int (nI j_lg)]) (rest := [.ref o]) ⟨hx, hb, hml, hown, hts⟩ (c9_laneOfLog l j_lg hj_lg) (va_cwS 1 hts gX9_read_X9_laneOfLog rfl rfl rfl (by decide +kernel) ⟨Nat.le_of_ble_eq_true rfl, Nat.le_of_ble_eq_true rfl⟩) (preS_of okT (trivial)) rfl rfl hl.1 rfl (lv_room (Nat.le_of_ble_eq_true rfl)) dX9_read_69 ⟨Nat.le_of_ble_eq_true rfl, Nat.le_of_ble_eq_true rfl⟩) (fun r48 hr48 => ?_)
        subst hr48
        refine va_calli (va_runV (As := [.int (lw j_lg)]) (rest := []) ⟨hx, hb, hml, hown, hts⟩ (c9_answers_0 l G cy L F47 H.size o qm 0 Pp.1 oc hmo hFo_47 Xx.2 hm15 hFqm15_47 (lw j_lg)) (cwV 1 hts gX9_read_X9_answers rfl rfl rfl (by decide +kernel) ⟨Nat.le_of_ble_eq_true rfl, Nat.le_of_ble_eq_true rfl⟩) (preV_of okQ (⟨rfl, hP, hK, hD.top⟩) (pl_recv hK hP (ci := 8) rfl hmo hFo_47)) rfl rfl hl.1 rfl (lv_room (Nat.le_of_ble_eq_true rfl)) dX9_read_72 ⟨Nat.le_of_ble_eq_true rfl, Nat.le_of_ble_eq_true rfl⟩) hS (fun q _ h => pl_free hD hS hA q h) (pl_free hD hS hA) (fun r50 F49 t H1 locs ht hvm hw hP1 hz1 hk1 hS => ?_)
        have hP1 : va_P G vwCl (va_pl L F49) t.heap := hP1
        rw [ht] at hP1
        have hP := hP1
        generalize H1 = H at hP hS ⊢
        obtain ⟨hqr50, eF49⟩ := hw
        have hFo_F49 : F49 o = .inr (8, [.int 0, .ref (qm 0), .ref (qm 1), .ref (qm 2), .ref (qm 3), .ref (qm 4), .ref (qm 5), .ref (qm 6), .ref (qm 7), .int Pp.1, .ref (qm 8), .ref (qm 9), .ref (qm 10), .ref (qm 11), .ref (qm 12), .ref (qm 13), .ref (qm 14), .int 0, .ref (qm 15), .long oc]) := by rw [eF49]; exact hFo_47
        have hFqm0_F49 : F49 (qm 0) = cI (cy 1) 10 (upd Mm.1 j_me (lw j_lg)) := by rw [eF49]; exact hFqm0_47
        have hFqm1_F49 : F49 (qm 1) = cJ (cy 2) 10 (vp_updL Mm.2 j_me v46) := by rw [eF49]; exact hFqm1_47
        have hFqm2_F49 : F49 (qm 2) = cD (cy 0) 6 Dd.1 := by rw [eF49]; exact hFqm2_47
        have hFqm3_F49 : F49 (qm 3) = cD (cy 0) 6 Dd.2.1 := by rw [eF49]; exact hFqm3_47
        have hFqm4_F49 : F49 (qm 4) = cD (cy 0) 6 Dd.2.2.1 := by rw [eF49]; exact hFqm4_47
        have hFqm5_F49 : F49 (qm 5) = cJ (cy 2) 6 Dd.2.2.2 := by rw [eF49]; exact hFqm5_47
        have hFqm6_F49 : F49 (qm 6) = cI (cy 1) 8 Sl.1 := by rw [eF49]; exact hFqm6_47
        have hFqm7_F49 : F49 (qm 7) = cJ (cy 2) 128 Sl.2 := by rw [eF49]; exact hFqm7_47
        have hFqm8_F49 : F49 (qm 8) = cI (cy 1) 30 Pp.2.1 := by rw [eF49]; exact hFqm8_47
        have hFqm9_F49 : F49 (qm 9) = cI (cy 3) 30 Pp.2.2 := by rw [eF49]; exact hFqm9_47
        have hFqm10_F49 : F49 (qm 10) = cI (cy 1) 5 Kr.1 := by rw [eF49]; exact hFqm10_47
        have hFqm11_F49 : F49 (qm 11) = cI (cy 3) 5 Kr.2.1 := by rw [eF49]; exact hFqm11_47
        have hFqm12_F49 : F49 (qm 12) = cI (cy 1) 60 Kr.2.2 := by rw [eF49]; exact hFqm12_47
        have hFqm13_F49 : F49 (qm 13) = cI (cy 1) 4 Bk.1 := by rw [eF49]; exact hFqm13_47
        have hFqm14_F49 : F49 (qm 14) = cD (cy 0) 4 Bk.2 := by rw [eF49]; exact hFqm14_47
        have hFqm15_F49 : F49 (qm 15) = cI (cy 1) 6 Xx.2 := by rw [eF49]; exact hFqm15_47
        have hr50 := hqr50
        exact W.iret (v := r50) hx hb hr (fun t ht hW => ⟨⟨r50, F49, rfl, (by subst hr50 ev46 ev44; have hsp : sp_read Mm Sl Xx (nI j_lg) (nI q_i) (nI j_me) = (lw j_lg, setM Mm j_me (lw j_lg) (Sl.2 (16 * j_lg + q_i)), goodX Xx) := (by unfold sp_read; rw [hi_lg, hi_me]; exact (if_pos hp_i).trans (by rw [nI_tn (by omega)])); rw [hsp]; exact ⟨rfl, (by exact ⟨⟨_, _, hmo, hFo_F49⟩, ⟨hm0, hFqm0_F49⟩, ⟨hm1, hFqm1_F49⟩, ⟨hm2, hFqm2_F49⟩, ⟨hm3, hFqm3_F49⟩, ⟨hm4, hFqm4_F49⟩, ⟨hm5, hFqm5_F49⟩, ⟨hm6, hFqm6_F49⟩, ⟨hm7, hFqm7_F49⟩, ⟨hm8, hFqm8_F49⟩, ⟨hm9, hFqm9_F49⟩, ⟨hm10, hFqm10_F49⟩, ⟨hm11, hFqm11_F49⟩, ⟨hm12, hFqm12_F49⟩, ⟨hm13, hFqm13_F49⟩, ⟨hm14, hFqm14_F49⟩, ⟨hm15, hFqm15_F49⟩, hne⟩)⟩), (by show va_P _ _ _ t.heap; rw [ht]; exact hP)⟩, hS.F ht⟩) hS.2.2 dX9_read_75

set_option maxHeartbeats 8000000 in
set_option maxRecDepth 100000 in
theorem n_rest (l : Launch) (G : va_G) (cy : Nat → ClassId) (L : List Nat) (F : Nat → va_E) (sz : Nat) (o : Nat) (qm : Nat → Nat) (Mm : SM) (Dd : SD) (Sl : SL) (Pp : SP) (Kr : SR) (Bk : SB) (Xx : SX) (hR : RepM cy L o qm Mm Dd Sl Pp Kr Bk Xx F) (hV : Val Mm Dd Sl Pp Kr Bk) (lg i k : Int32)  : Met l yX9_rest wsX9_rest ({ frames := 3, cells := 0, slots := 0, locals := 73 }) (va_Pc [.ref o, .int lg, .int i, .int k] (fun U => bQ G cy L F sz U U.heap)) (va_Qi (fun (r : Int32) (F' : Nat → va_E) => r = (sp_rest Sl Xx lg i k).1 ∧ RepM cy L o qm Mm Dd (sp_rest Sl Xx lg i k).2.1 Pp Kr Bk (sp_rest Sl Xx lg i k).2.2 F') (fun F' t => va_P G vwCl (va_pl L F') t.heap) (va_A (va_pl L F) sz)) 0 0 (va_A (va_pl L F) sz) := by
  refine Met.ofW (cc := cX9_rest) (maxL := 8) (ret := (some .int)) (by decide) rfl ?_
  intro p e s m args below meth c s₁ B hml hv
  obtain ⟨rfl, hsz, hP, hK, hD0⟩ := hv
  have hx := B.exec
  have hb := B.bytes
  have hr := B.returns
  have hts := atoms_spec (ws := wsX9_rest) B.pre
  have hown : s.vm.findClass RX9 = some m.cls := findClass_of_methodNamed B.named
  have hlocks := B.notSynchronized
  have hinX9 : ∀ w ∈ wsX90, w ∈ wsX9_rest := by decide +kernel
  subst hsz
  have hD := hD0.self F s.heap.size
  generalize hAe : va_A (va_pl L F) s.heap.size = A at hD ⊢
  have hA : ∀ q : Nat, s.heap.size ≤ q → A q := fun q h => by rw [← hAe]; exact Or.inr h
  have hS : va_S A s.heap s.heap [] := va_S.rf
  obtain ⟨⟨th, oc, hmo, hFo⟩, ⟨hm0, hF0⟩, ⟨hm1, hF1⟩, ⟨hm2, hF2⟩, ⟨hm3, hF3⟩, ⟨hm4, hF4⟩, ⟨hm5, hF5⟩, ⟨hm6, hF6⟩, ⟨hm7, hF7⟩, ⟨hm8, hF8⟩, ⟨hm9, hF9⟩, ⟨hm10, hF10⟩, ⟨hm11, hF11⟩, ⟨hm12, hF12⟩, ⟨hm13, hF13⟩, ⟨hm14, hF14⟩, ⟨hm15, hF15⟩, hne⟩ := id hR
  obtain ⟨hVM, hVD, hVS, hVP, hVK, hVB⟩ := hV
  have hl := lv_entry ([.ref o, .int lg, .int i, .int k]) (n := 8) (Nat.le_of_ble_eq_true rfl)
  rw [lg_entry_eq]
  generalize (lg_sl ([.ref o, .int lg, .int i, .int k]) ++ List.replicate (8 - (lg_sl ([.ref o, .int lg, .int i, .int k])).length) Slot.unset).toArray = ls at hl ⊢
  have hl : lv_has ls 8 [(0, .ref o), (1, .int lg), (2, .int i), (3, .int k)] := hl
  rcases ixc 8 lg with hi_lg | ⟨j_lg, hj_lg, hi_lg, ei_lg⟩
  · refine lv_aload_n hx hb dX9_rest_0 rfl (lv_at hl 0 rfl) ?_
    refine lv_iconst (v := 0) hx hb dX9_rest_1 (by decide) ?_
    refine pg_put (ci := 8) (v := .int 0) (ty := .int) (C := RX9) (T := TX9) (N := 20) hx hb hts hinX9 tyX9 tyX9_ok nmX9 hown hK hP hD hS hmo hFo rfl 0 (by decide) (hts (.fieldLink RX9 61 "RopeDrumsModel" "thrown" "I") (by decide +kernel)) (fun _ h9 => h9) rfl (by decide +kernel) (rfl) (rfl) (Nat.le_of_ble_eq_true rfl) dX9_rest_2 (fun H locs F1 eF1 hP hS => ?_)
    have eF1 : F1 = va_up F o (.inr (8, [.int 0, .ref (qm 0), .ref (qm 1), .ref (qm 2), .ref (qm 3), .ref (qm 4), .ref (qm 5), .ref (qm 6), .ref (qm 7), .int Pp.1, .ref (qm 8), .ref (qm 9), .ref (qm 10), .ref (qm 11), .ref (qm 12), .ref (qm 13), .ref (qm 14), .int Xx.1, .ref (qm 15), .long oc])) := eF1
    have hFo_1 : F1 o = .inr (8, [.int 0, .ref (qm 0), .ref (qm 1), .ref (qm 2), .ref (qm 3), .ref (qm 4), .ref (qm 5), .ref (qm 6), .ref (qm 7), .int Pp.1, .ref (qm 8), .ref (qm 9), .ref (qm 10), .ref (qm 11), .ref (qm 12), .ref (qm 13), .ref (qm 14), .int Xx.1, .ref (qm 15), .long oc]) := by rw [eF1]; exact va_up_self _ _ _
    have hFqm0_1 : F1 (qm 0) = cI (cy 1) 10 Mm.1 := by rw [eF1, va_up_ne _ _ (pl_ne hF0 hFo rfl)]; exact hF0
    have hFqm1_1 : F1 (qm 1) = cJ (cy 2) 10 Mm.2 := by rw [eF1, va_up_ne _ _ (pl_ne hF1 hFo rfl)]; exact hF1
    have hFqm2_1 : F1 (qm 2) = cD (cy 0) 6 Dd.1 := by rw [eF1, va_up_ne _ _ (pl_ne hF2 hFo rfl)]; exact hF2
    have hFqm3_1 : F1 (qm 3) = cD (cy 0) 6 Dd.2.1 := by rw [eF1, va_up_ne _ _ (pl_ne hF3 hFo rfl)]; exact hF3
    have hFqm4_1 : F1 (qm 4) = cD (cy 0) 6 Dd.2.2.1 := by rw [eF1, va_up_ne _ _ (pl_ne hF4 hFo rfl)]; exact hF4
    have hFqm5_1 : F1 (qm 5) = cJ (cy 2) 6 Dd.2.2.2 := by rw [eF1, va_up_ne _ _ (pl_ne hF5 hFo rfl)]; exact hF5
    have hFqm6_1 : F1 (qm 6) = cI (cy 1) 8 Sl.1 := by rw [eF1, va_up_ne _ _ (pl_ne hF6 hFo rfl)]; exact hF6
    have hFqm7_1 : F1 (qm 7) = cJ (cy 2) 128 Sl.2 := by rw [eF1, va_up_ne _ _ (pl_ne hF7 hFo rfl)]; exact hF7
    have hFqm8_1 : F1 (qm 8) = cI (cy 1) 30 Pp.2.1 := by rw [eF1, va_up_ne _ _ (pl_ne hF8 hFo rfl)]; exact hF8
    have hFqm9_1 : F1 (qm 9) = cI (cy 3) 30 Pp.2.2 := by rw [eF1, va_up_ne _ _ (pl_ne hF9 hFo rfl)]; exact hF9
    have hFqm10_1 : F1 (qm 10) = cI (cy 1) 5 Kr.1 := by rw [eF1, va_up_ne _ _ (pl_ne hF10 hFo rfl)]; exact hF10
    have hFqm11_1 : F1 (qm 11) = cI (cy 3) 5 Kr.2.1 := by rw [eF1, va_up_ne _ _ (pl_ne hF11 hFo rfl)]; exact hF11
    have hFqm12_1 : F1 (qm 12) = cI (cy 1) 60 Kr.2.2 := by rw [eF1, va_up_ne _ _ (pl_ne hF12 hFo rfl)]; exact hF12
    have hFqm13_1 : F1 (qm 13) = cI (cy 1) 4 Bk.1 := by rw [eF1, va_up_ne _ _ (pl_ne hF13 hFo rfl)]; exact hF13
    have hFqm14_1 : F1 (qm 14) = cD (cy 0) 4 Bk.2 := by rw [eF1, va_up_ne _ _ (pl_ne hF14 hFo rfl)]; exact hF14
    have hFqm15_1 : F1 (qm 15) = cI (cy 1) 6 Xx.2 := by rw [eF1, va_up_ne _ _ (pl_ne hF15 hFo rfl)]; exact hF15
    refine lv_iload_n hx hb dX9_rest_5 rfl (lv_at hl 1 rfl) ?_
    refine vp_callSi (W.runS (As := [.int lg]) (rest := []) ⟨hx, hb, hml, hown, hts⟩ (c9_isLog l lg) (va_cwS 1 hts gX9_rest_X9_isLog rfl rfl rfl (by decide +kernel) ⟨Nat.le_of_ble_eq_true rfl, Nat.le_of_ble_eq_true rfl⟩) (preS_of okT (trivial)) rfl rfl hl.1 rfl (lv_room (Nat.le_of_ble_eq_true rfl)) dX9_rest_6 ⟨Nat.le_of_ble_eq_true rfl, Nat.le_of_ble_eq_true rfl⟩) (fun r2 hr2 => ?_)
    rw [isx0 hi_lg] at hr2
    subst hr2
    refine lv_if_ne (tgt := 16) hx hb dX9_rest_9 (by decide) (fun c3 => absurd (by decide) c3) (fun c3 => ?_)
    refine lv_sipush (v := -1001) hx hb dX9_rest_12 (by decide) ?_
    exact W.iret (v := -1001) hx hb hr (fun t ht hW => ⟨⟨-1001, F1, rfl, (by have hsp : sp_rest Sl Xx lg i k = (-1001, Sl, Xx) := (by unfold sp_rest; rw [hi_lg]); rw [hsp]; exact ⟨rfl, (by exact ⟨⟨_, _, hmo, hFo_1⟩, ⟨hm0, hFqm0_1⟩, ⟨hm1, hFqm1_1⟩, ⟨hm2, hFqm2_1⟩, ⟨hm3, hFqm3_1⟩, ⟨hm4, hFqm4_1⟩, ⟨hm5, hFqm5_1⟩, ⟨hm6, hFqm6_1⟩, ⟨hm7, hFqm7_1⟩, ⟨hm8, hFqm8_1⟩, ⟨hm9, hFqm9_1⟩, ⟨hm10, hFqm10_1⟩, ⟨hm11, hFqm11_1⟩, ⟨hm12, hFqm12_1⟩, ⟨hm13, hFqm13_1⟩, ⟨hm14, hFqm14_1⟩, ⟨hm15, hFqm15_1⟩, hne⟩)⟩), (by show va_P _ _ _ t.heap; rw [ht]; exact hP)⟩, hS.F ht⟩) hS.2.2 dX9_rest_15
  · subst ei_lg
    rcases lackc (i := i) (by decide) ((hVS j_lg hj_lg).1) with ⟨hp_i, hk_i⟩ | ⟨hp_i, hk_i⟩ | ⟨q_i, hq_i, hs_i, hp_i, hk_i, ei_i⟩
    · have hp0_i : ¬ pl0 (Sl.1 j_lg) i = 0 := by rw [hp_i]; decide
      refine lv_aload_n hx hb dX9_rest_0 rfl (lv_at hl 0 rfl) ?_
      refine lv_iconst (v := 0) hx hb dX9_rest_1 (by decide) ?_
      refine pg_put (ci := 8) (v := .int 0) (ty := .int) (C := RX9) (T := TX9) (N := 20) hx hb hts hinX9 tyX9 tyX9_ok nmX9 hown hK hP hD hS hmo hFo rfl 0 (by decide) (hts (.fieldLink RX9 61 "RopeDrumsModel" "thrown" "I") (by decide +kernel)) (fun _ h9 => h9) rfl (by decide +kernel) (rfl) (rfl) (Nat.le_of_ble_eq_true rfl) dX9_rest_2 (fun H locs F4 eF4 hP hS => ?_)
      have eF4 : F4 = va_up F o (.inr (8, [.int 0, .ref (qm 0), .ref (qm 1), .ref (qm 2), .ref (qm 3), .ref (qm 4), .ref (qm 5), .ref (qm 6), .ref (qm 7), .int Pp.1, .ref (qm 8), .ref (qm 9), .ref (qm 10), .ref (qm 11), .ref (qm 12), .ref (qm 13), .ref (qm 14), .int Xx.1, .ref (qm 15), .long oc])) := eF4
      have hFo_4 : F4 o = .inr (8, [.int 0, .ref (qm 0), .ref (qm 1), .ref (qm 2), .ref (qm 3), .ref (qm 4), .ref (qm 5), .ref (qm 6), .ref (qm 7), .int Pp.1, .ref (qm 8), .ref (qm 9), .ref (qm 10), .ref (qm 11), .ref (qm 12), .ref (qm 13), .ref (qm 14), .int Xx.1, .ref (qm 15), .long oc]) := by rw [eF4]; exact va_up_self _ _ _
      have hFqm0_4 : F4 (qm 0) = cI (cy 1) 10 Mm.1 := by rw [eF4, va_up_ne _ _ (pl_ne hF0 hFo rfl)]; exact hF0
      have hFqm1_4 : F4 (qm 1) = cJ (cy 2) 10 Mm.2 := by rw [eF4, va_up_ne _ _ (pl_ne hF1 hFo rfl)]; exact hF1
      have hFqm2_4 : F4 (qm 2) = cD (cy 0) 6 Dd.1 := by rw [eF4, va_up_ne _ _ (pl_ne hF2 hFo rfl)]; exact hF2
      have hFqm3_4 : F4 (qm 3) = cD (cy 0) 6 Dd.2.1 := by rw [eF4, va_up_ne _ _ (pl_ne hF3 hFo rfl)]; exact hF3
      have hFqm4_4 : F4 (qm 4) = cD (cy 0) 6 Dd.2.2.1 := by rw [eF4, va_up_ne _ _ (pl_ne hF4 hFo rfl)]; exact hF4
      have hFqm5_4 : F4 (qm 5) = cJ (cy 2) 6 Dd.2.2.2 := by rw [eF4, va_up_ne _ _ (pl_ne hF5 hFo rfl)]; exact hF5
      have hFqm6_4 : F4 (qm 6) = cI (cy 1) 8 Sl.1 := by rw [eF4, va_up_ne _ _ (pl_ne hF6 hFo rfl)]; exact hF6
      have hFqm7_4 : F4 (qm 7) = cJ (cy 2) 128 Sl.2 := by rw [eF4, va_up_ne _ _ (pl_ne hF7 hFo rfl)]; exact hF7
      have hFqm8_4 : F4 (qm 8) = cI (cy 1) 30 Pp.2.1 := by rw [eF4, va_up_ne _ _ (pl_ne hF8 hFo rfl)]; exact hF8
      have hFqm9_4 : F4 (qm 9) = cI (cy 3) 30 Pp.2.2 := by rw [eF4, va_up_ne _ _ (pl_ne hF9 hFo rfl)]; exact hF9
      have hFqm10_4 : F4 (qm 10) = cI (cy 1) 5 Kr.1 := by rw [eF4, va_up_ne _ _ (pl_ne hF10 hFo rfl)]; exact hF10
      have hFqm11_4 : F4 (qm 11) = cI (cy 3) 5 Kr.2.1 := by rw [eF4, va_up_ne _ _ (pl_ne hF11 hFo rfl)]; exact hF11
      have hFqm12_4 : F4 (qm 12) = cI (cy 1) 60 Kr.2.2 := by rw [eF4, va_up_ne _ _ (pl_ne hF12 hFo rfl)]; exact hF12
      have hFqm13_4 : F4 (qm 13) = cI (cy 1) 4 Bk.1 := by rw [eF4, va_up_ne _ _ (pl_ne hF13 hFo rfl)]; exact hF13
      have hFqm14_4 : F4 (qm 14) = cD (cy 0) 4 Bk.2 := by rw [eF4, va_up_ne _ _ (pl_ne hF14 hFo rfl)]; exact hF14
      have hFqm15_4 : F4 (qm 15) = cI (cy 1) 6 Xx.2 := by rw [eF4, va_up_ne _ _ (pl_ne hF15 hFo rfl)]; exact hF15
      refine lv_iload_n hx hb dX9_rest_5 rfl (lv_at hl 1 rfl) ?_
      refine vp_callSi (W.runS (As := [.int (nI j_lg)]) (rest := []) ⟨hx, hb, hml, hown, hts⟩ (c9_isLog l (nI j_lg)) (va_cwS 1 hts gX9_rest_X9_isLog rfl rfl rfl (by decide +kernel) ⟨Nat.le_of_ble_eq_true rfl, Nat.le_of_ble_eq_true rfl⟩) (preS_of okT (trivial)) rfl rfl hl.1 rfl (lv_room (Nat.le_of_ble_eq_true rfl)) dX9_rest_6 ⟨Nat.le_of_ble_eq_true rfl, Nat.le_of_ble_eq_true rfl⟩) (fun r5 hr5 => ?_)
      rw [isx1 hi_lg] at hr5
      subst hr5
      refine lv_if_ne (tgt := 16) hx hb dX9_rest_9 (by decide) (fun c6 => ?_) (fun c6 => absurd c6 (by decide))
      refine lv_aload_n hx hb dX9_rest_16 rfl (lv_at hl 0 rfl) ?_
      refine lv_aload_n hx hb dX9_rest_17 rfl (lv_at hl 0 rfl) ?_
      refine lv_iload_n hx hb dX9_rest_18 rfl (lv_at hl 1 rfl) ?_
      refine lv_iload_n hx hb dX9_rest_19 rfl (lv_at hl 2 rfl) ?_
      refine vp_callSi (W.runV (As := [.int (nI j_lg), .int i]) (rest := [.ref o]) ⟨hx, hb, hml, hown, hts⟩ (c9_logCause l G cy L F4 o qm 0 Pp.1 Xx.1 oc hmo hFo_4 Sl.1 hm6 hFqm6_4 j_lg hj_lg i ((hVS j_lg hj_lg).1)) (cwV 2 hts gX9_rest_X9_logCause rfl rfl rfl (by decide +kernel) ⟨Nat.le_of_ble_eq_true rfl, Nat.le_of_ble_eq_true rfl⟩) (preV_of okP (⟨hP, hK, hD.top⟩) (pl_recv hK hP (ci := 8) rfl hmo hFo_4)) rfl rfl hl.1 rfl (lv_room (Nat.le_of_ble_eq_true rfl)) dX9_rest_20 ⟨Nat.le_of_ble_eq_true rfl, Nat.le_of_ble_eq_true rfl⟩) (fun r7 hr7 => ?_)
      rw [hp_i] at hr7
      have hzr7 : r7 = 1 := hr7
      clear hr7
      subst hzr7
      refine pg_put (ci := 8) (v := .int 1) (ty := .int) (C := RX9) (T := TX9) (N := 20) hx hb hts hinX9 tyX9 tyX9_ok nmX9 hown hK hP hD hS hmo hFo_4 rfl 17 (by decide) (hts (.fieldLink RX9 65 "RopeDrumsModel" "failed" "I") (by decide +kernel)) (fun _ h9 => h9) rfl (by decide +kernel) (rfl) (rfl) (Nat.le_of_ble_eq_true rfl) dX9_rest_23 (fun H locs F8 eF8 hP hS => ?_)
      have eF8 : F8 = va_up F4 o (.inr (8, [.int 0, .ref (qm 0), .ref (qm 1), .ref (qm 2), .ref (qm 3), .ref (qm 4), .ref (qm 5), .ref (qm 6), .ref (qm 7), .int Pp.1, .ref (qm 8), .ref (qm 9), .ref (qm 10), .ref (qm 11), .ref (qm 12), .ref (qm 13), .ref (qm 14), .int 1, .ref (qm 15), .long oc])) := eF8
      have hFo_8 : F8 o = .inr (8, [.int 0, .ref (qm 0), .ref (qm 1), .ref (qm 2), .ref (qm 3), .ref (qm 4), .ref (qm 5), .ref (qm 6), .ref (qm 7), .int Pp.1, .ref (qm 8), .ref (qm 9), .ref (qm 10), .ref (qm 11), .ref (qm 12), .ref (qm 13), .ref (qm 14), .int 1, .ref (qm 15), .long oc]) := by rw [eF8]; exact va_up_self _ _ _
      have hFqm0_8 : F8 (qm 0) = cI (cy 1) 10 Mm.1 := by rw [eF8, va_up_ne _ _ (pl_ne hFqm0_4 hFo_4 rfl)]; exact hFqm0_4
      have hFqm1_8 : F8 (qm 1) = cJ (cy 2) 10 Mm.2 := by rw [eF8, va_up_ne _ _ (pl_ne hFqm1_4 hFo_4 rfl)]; exact hFqm1_4
      have hFqm2_8 : F8 (qm 2) = cD (cy 0) 6 Dd.1 := by rw [eF8, va_up_ne _ _ (pl_ne hFqm2_4 hFo_4 rfl)]; exact hFqm2_4
      have hFqm3_8 : F8 (qm 3) = cD (cy 0) 6 Dd.2.1 := by rw [eF8, va_up_ne _ _ (pl_ne hFqm3_4 hFo_4 rfl)]; exact hFqm3_4
      have hFqm4_8 : F8 (qm 4) = cD (cy 0) 6 Dd.2.2.1 := by rw [eF8, va_up_ne _ _ (pl_ne hFqm4_4 hFo_4 rfl)]; exact hFqm4_4
      have hFqm5_8 : F8 (qm 5) = cJ (cy 2) 6 Dd.2.2.2 := by rw [eF8, va_up_ne _ _ (pl_ne hFqm5_4 hFo_4 rfl)]; exact hFqm5_4
      have hFqm6_8 : F8 (qm 6) = cI (cy 1) 8 Sl.1 := by rw [eF8, va_up_ne _ _ (pl_ne hFqm6_4 hFo_4 rfl)]; exact hFqm6_4
      have hFqm7_8 : F8 (qm 7) = cJ (cy 2) 128 Sl.2 := by rw [eF8, va_up_ne _ _ (pl_ne hFqm7_4 hFo_4 rfl)]; exact hFqm7_4
      have hFqm8_8 : F8 (qm 8) = cI (cy 1) 30 Pp.2.1 := by rw [eF8, va_up_ne _ _ (pl_ne hFqm8_4 hFo_4 rfl)]; exact hFqm8_4
      have hFqm9_8 : F8 (qm 9) = cI (cy 3) 30 Pp.2.2 := by rw [eF8, va_up_ne _ _ (pl_ne hFqm9_4 hFo_4 rfl)]; exact hFqm9_4
      have hFqm10_8 : F8 (qm 10) = cI (cy 1) 5 Kr.1 := by rw [eF8, va_up_ne _ _ (pl_ne hFqm10_4 hFo_4 rfl)]; exact hFqm10_4
      have hFqm11_8 : F8 (qm 11) = cI (cy 3) 5 Kr.2.1 := by rw [eF8, va_up_ne _ _ (pl_ne hFqm11_4 hFo_4 rfl)]; exact hFqm11_4
      have hFqm12_8 : F8 (qm 12) = cI (cy 1) 60 Kr.2.2 := by rw [eF8, va_up_ne _ _ (pl_ne hFqm12_4 hFo_4 rfl)]; exact hFqm12_4
      have hFqm13_8 : F8 (qm 13) = cI (cy 1) 4 Bk.1 := by rw [eF8, va_up_ne _ _ (pl_ne hFqm13_4 hFo_4 rfl)]; exact hFqm13_4
      have hFqm14_8 : F8 (qm 14) = cD (cy 0) 4 Bk.2 := by rw [eF8, va_up_ne _ _ (pl_ne hFqm14_4 hFo_4 rfl)]; exact hFqm14_4
      have hFqm15_8 : F8 (qm 15) = cI (cy 1) 6 Xx.2 := by rw [eF8, va_up_ne _ _ (pl_ne hFqm15_4 hFo_4 rfl)]; exact hFqm15_4
      refine lv_aload_n hx hb dX9_rest_26 rfl (lv_at hl 0 rfl) ?_
      refine lv_aload_n hx hb dX9_rest_27 rfl (lv_at hl 0 rfl) ?_
      refine pg_get (ci := 8) (C := RX9) (T := TX9) (N := 20) hx hb hts hinX9 hown hK hP hmo hFo_8 rfl 17 (by decide) (hts (.fieldLink RX9 65 "RopeDrumsModel" "failed" "I") (by decide +kernel)) (fun _ h9 => h9) rfl dX9_rest_28 ?_
      refine lv_if_ne (tgt := 43) hx hb dX9_rest_31 (by decide) (fun c9 => ?_) (fun c9 => absurd c9 (by decide))
      refine lv_aload_n hx hb dX9_rest_43 rfl (lv_at hl 0 rfl) ?_
      refine pg_get (ci := 8) (C := RX9) (T := TX9) (N := 20) hx hb hts hinX9 hown hK hP hmo hFo_8 rfl 17 (by decide) (hts (.fieldLink RX9 65 "RopeDrumsModel" "failed" "I") (by decide +kernel)) (fun _ h9 => h9) rfl dX9_rest_44 ?_
      refine pg_put (ci := 8) (v := .int 1) (ty := .int) (C := RX9) (T := TX9) (N := 20) hx hb hts hinX9 tyX9 tyX9_ok nmX9 hown hK hP hD hS hmo hFo_8 rfl 17 (by decide) (hts (.fieldLink RX9 65 "RopeDrumsModel" "failed" "I") (by decide +kernel)) (fun _ h9 => h9) rfl (by decide +kernel) (rfl) (rfl) (Nat.le_of_ble_eq_true rfl) dX9_rest_47 (fun H locs F10 eF10 hP hS => ?_)
      have eF10 : F10 = va_up F8 o (.inr (8, [.int 0, .ref (qm 0), .ref (qm 1), .ref (qm 2), .ref (qm 3), .ref (qm 4), .ref (qm 5), .ref (qm 6), .ref (qm 7), .int Pp.1, .ref (qm 8), .ref (qm 9), .ref (qm 10), .ref (qm 11), .ref (qm 12), .ref (qm 13), .ref (qm 14), .int 1, .ref (qm 15), .long oc])) := eF10
      have hFo_10 : F10 o = .inr (8, [.int 0, .ref (qm 0), .ref (qm 1), .ref (qm 2), .ref (qm 3), .ref (qm 4), .ref (qm 5), .ref (qm 6), .ref (qm 7), .int Pp.1, .ref (qm 8), .ref (qm 9), .ref (qm 10), .ref (qm 11), .ref (qm 12), .ref (qm 13), .ref (qm 14), .int 1, .ref (qm 15), .long oc]) := by rw [eF10]; exact va_up_self _ _ _
      have hFqm0_10 : F10 (qm 0) = cI (cy 1) 10 Mm.1 := by rw [eF10, va_up_ne _ _ (pl_ne hFqm0_8 hFo_8 rfl)]; exact hFqm0_8
      have hFqm1_10 : F10 (qm 1) = cJ (cy 2) 10 Mm.2 := by rw [eF10, va_up_ne _ _ (pl_ne hFqm1_8 hFo_8 rfl)]; exact hFqm1_8
      have hFqm2_10 : F10 (qm 2) = cD (cy 0) 6 Dd.1 := by rw [eF10, va_up_ne _ _ (pl_ne hFqm2_8 hFo_8 rfl)]; exact hFqm2_8
      have hFqm3_10 : F10 (qm 3) = cD (cy 0) 6 Dd.2.1 := by rw [eF10, va_up_ne _ _ (pl_ne hFqm3_8 hFo_8 rfl)]; exact hFqm3_8
      have hFqm4_10 : F10 (qm 4) = cD (cy 0) 6 Dd.2.2.1 := by rw [eF10, va_up_ne _ _ (pl_ne hFqm4_8 hFo_8 rfl)]; exact hFqm4_8
      have hFqm5_10 : F10 (qm 5) = cJ (cy 2) 6 Dd.2.2.2 := by rw [eF10, va_up_ne _ _ (pl_ne hFqm5_8 hFo_8 rfl)]; exact hFqm5_8
      have hFqm6_10 : F10 (qm 6) = cI (cy 1) 8 Sl.1 := by rw [eF10, va_up_ne _ _ (pl_ne hFqm6_8 hFo_8 rfl)]; exact hFqm6_8
      have hFqm7_10 : F10 (qm 7) = cJ (cy 2) 128 Sl.2 := by rw [eF10, va_up_ne _ _ (pl_ne hFqm7_8 hFo_8 rfl)]; exact hFqm7_8
      have hFqm8_10 : F10 (qm 8) = cI (cy 1) 30 Pp.2.1 := by rw [eF10, va_up_ne _ _ (pl_ne hFqm8_8 hFo_8 rfl)]; exact hFqm8_8
      have hFqm9_10 : F10 (qm 9) = cI (cy 3) 30 Pp.2.2 := by rw [eF10, va_up_ne _ _ (pl_ne hFqm9_8 hFo_8 rfl)]; exact hFqm9_8
      have hFqm10_10 : F10 (qm 10) = cI (cy 1) 5 Kr.1 := by rw [eF10, va_up_ne _ _ (pl_ne hFqm10_8 hFo_8 rfl)]; exact hFqm10_8
      have hFqm11_10 : F10 (qm 11) = cI (cy 3) 5 Kr.2.1 := by rw [eF10, va_up_ne _ _ (pl_ne hFqm11_8 hFo_8 rfl)]; exact hFqm11_8
      have hFqm12_10 : F10 (qm 12) = cI (cy 1) 60 Kr.2.2 := by rw [eF10, va_up_ne _ _ (pl_ne hFqm12_8 hFo_8 rfl)]; exact hFqm12_8
      have hFqm13_10 : F10 (qm 13) = cI (cy 1) 4 Bk.1 := by rw [eF10, va_up_ne _ _ (pl_ne hFqm13_8 hFo_8 rfl)]; exact hFqm13_8
      have hFqm14_10 : F10 (qm 14) = cD (cy 0) 4 Bk.2 := by rw [eF10, va_up_ne _ _ (pl_ne hFqm14_8 hFo_8 rfl)]; exact hFqm14_8
      have hFqm15_10 : F10 (qm 15) = cI (cy 1) 6 Xx.2 := by rw [eF10, va_up_ne _ _ (pl_ne hFqm15_8 hFo_8 rfl)]; exact hFqm15_8
      refine lv_aload_n hx hb dX9_rest_50 rfl (lv_at hl 0 rfl) ?_
      refine pg_get (ci := 8) (C := RX9) (T := TX9) (N := 20) hx hb hts hinX9 hown hK hP hmo hFo_10 rfl 17 (by decide) (hts (.fieldLink RX9 65 "RopeDrumsModel" "failed" "I") (by decide +kernel)) (fun _ h9 => h9) rfl dX9_rest_51 ?_
      refine lv_if_ne (tgt := 124) hx hb dX9_rest_54 (by decide) (fun c11 => ?_) (fun c11 => absurd c11 (by decide))
      refine lv_aload_n hx hb dX9_rest_124 rfl (lv_at hl 0 rfl) ?_
      refine pg_get (ci := 8) (C := RX9) (T := TX9) (N := 20) hx hb hts hinX9 hown hK hP hmo hFo_10 rfl 17 (by decide) (hts (.fieldLink RX9 65 "RopeDrumsModel" "failed" "I") (by decide +kernel)) (fun _ h9 => h9) rfl dX9_rest_125 ?_
      refine lv_if_ne (tgt := 146) hx hb dX9_rest_128 (by decide) (fun c12 => ?_) (fun c12 => absurd c12 (by decide))
      refine lv_aload_n hx hb dX9_rest_146 rfl (lv_at hl 0 rfl) ?_
      refine lv_iconst (v := 1) hx hb dX9_rest_147 (by decide) ?_
      refine va_calli (va_runV (As := [.int 1]) (rest := []) ⟨hx, hb, hml, hown, hts⟩ (c9_answers_1 l G cy L F10 H.size o qm 0 Pp.1 oc hmo hFo_10 Xx.2 hm15 hFqm15_10 1) (cwV 1 hts gX9_rest_X9_answers rfl rfl rfl (by decide +kernel) ⟨Nat.le_of_ble_eq_true rfl, Nat.le_of_ble_eq_true rfl⟩) (preV_of okQ (⟨rfl, hP, hK, hD.top⟩) (pl_recv hK hP (ci := 8) rfl hmo hFo_10)) rfl rfl hl.1 rfl (lv_room (Nat.le_of_ble_eq_true rfl)) dX9_rest_148 ⟨Nat.le_of_ble_eq_true rfl, Nat.le_of_ble_eq_true rfl⟩) hS (fun q _ h => pl_free hD hS hA q h) (pl_free hD hS hA) (fun r14 F13 t H1 locs ht hvm hw hP1 hz1 hk1 hS => ?_)
      have hP1 : va_P G vwCl (va_pl L F13) t.heap := hP1
      rw [ht] at hP1
      have hP := hP1
      generalize H1 = H at hP hS ⊢
      obtain ⟨hqr14, eF13⟩ := hw
      have eF13 : F13 = va_up F10 (qm 15) (cI (cy 1) 6 (upd Xx.2 1 (Xx.2 1 + 1))) := eF13
      have hFo_14 : F13 o = .inr (8, [.int 0, .ref (qm 0), .ref (qm 1), .ref (qm 2), .ref (qm 3), .ref (qm 4), .ref (qm 5), .ref (qm 6), .ref (qm 7), .int Pp.1, .ref (qm 8), .ref (qm 9), .ref (qm 10), .ref (qm 11), .ref (qm 12), .ref (qm 13), .ref (qm 14), .int 1, .ref (qm 15), .long oc]) := by rw [eF13, va_up_ne _ _ (pl_ne hFo_10 hFqm15_10 rfl)]; exact hFo_10
      have hFqm0_14 : F13 (qm 0) = cI (cy 1) 10 Mm.1 := by rw [eF13, va_up_ne _ _ (pl_ne hFqm0_10 hFqm15_10 rfl)]; exact hFqm0_10
      have hFqm1_14 : F13 (qm 1) = cJ (cy 2) 10 Mm.2 := by rw [eF13, va_up_ne _ _ (pl_ne hFqm1_10 hFqm15_10 rfl)]; exact hFqm1_10
      have hFqm2_14 : F13 (qm 2) = cD (cy 0) 6 Dd.1 := by rw [eF13, va_up_ne _ _ (pl_ne hFqm2_10 hFqm15_10 rfl)]; exact hFqm2_10
      have hFqm3_14 : F13 (qm 3) = cD (cy 0) 6 Dd.2.1 := by rw [eF13, va_up_ne _ _ (pl_ne hFqm3_10 hFqm15_10 rfl)]; exact hFqm3_10
      have hFqm4_14 : F13 (qm 4) = cD (cy 0) 6 Dd.2.2.1 := by rw [eF13, va_up_ne _ _ (pl_ne hFqm4_10 hFqm15_10 rfl)]; exact hFqm4_10
      have hFqm5_14 : F13 (qm 5) = cJ (cy 2) 6 Dd.2.2.2 := by rw [eF13, va_up_ne _ _ (pl_ne hFqm5_10 hFqm15_10 rfl)]; exact hFqm5_10
      have hFqm6_14 : F13 (qm 6) = cI (cy 1) 8 Sl.1 := by rw [eF13, va_up_ne _ _ (pl_ne hFqm6_10 hFqm15_10 rfl)]; exact hFqm6_10
      have hFqm7_14 : F13 (qm 7) = cJ (cy 2) 128 Sl.2 := by rw [eF13, va_up_ne _ _ (pl_ne hFqm7_10 hFqm15_10 rfl)]; exact hFqm7_10
      have hFqm8_14 : F13 (qm 8) = cI (cy 1) 30 Pp.2.1 := by rw [eF13, va_up_ne _ _ (pl_ne hFqm8_10 hFqm15_10 rfl)]; exact hFqm8_10
      have hFqm9_14 : F13 (qm 9) = cI (cy 3) 30 Pp.2.2 := by rw [eF13, va_up_ne _ _ (pl_ne hFqm9_10 hFqm15_10 rfl)]; exact hFqm9_10
      have hFqm10_14 : F13 (qm 10) = cI (cy 1) 5 Kr.1 := by rw [eF13, va_up_ne _ _ (pl_ne hFqm10_10 hFqm15_10 rfl)]; exact hFqm10_10
      have hFqm11_14 : F13 (qm 11) = cI (cy 3) 5 Kr.2.1 := by rw [eF13, va_up_ne _ _ (pl_ne hFqm11_10 hFqm15_10 rfl)]; exact hFqm11_10
      have hFqm12_14 : F13 (qm 12) = cI (cy 1) 60 Kr.2.2 := by rw [eF13, va_up_ne _ _ (pl_ne hFqm12_10 hFqm15_10 rfl)]; exact hFqm12_10
      have hFqm13_14 : F13 (qm 13) = cI (cy 1) 4 Bk.1 := by rw [eF13, va_up_ne _ _ (pl_ne hFqm13_10 hFqm15_10 rfl)]; exact hFqm13_10
      have hFqm14_14 : F13 (qm 14) = cD (cy 0) 4 Bk.2 := by rw [eF13, va_up_ne _ _ (pl_ne hFqm14_10 hFqm15_10 rfl)]; exact hFqm14_10
      have hFqm15_14 : F13 (qm 15) = cI (cy 1) 6 (upd Xx.2 1 (Xx.2 1 + 1)) := by rw [eF13]; exact va_up_self _ _ _
      have hr14 := hqr14
      exact W.iret (v := r14) hx hb hr (fun t ht hW => ⟨⟨r14, F13, rfl, (by subst hr14; have hsp : sp_rest Sl Xx (nI j_lg) i k = (-10 - 1, Sl, failX Xx 1) := (by unfold sp_rest; rw [hi_lg]; exact (if_neg hp0_i).trans (by rw [hp_i]; rfl)); rw [hsp]; exact ⟨rfl, (by exact ⟨⟨_, _, hmo, hFo_14⟩, ⟨hm0, hFqm0_14⟩, ⟨hm1, hFqm1_14⟩, ⟨hm2, hFqm2_14⟩, ⟨hm3, hFqm3_14⟩, ⟨hm4, hFqm4_14⟩, ⟨hm5, hFqm5_14⟩, ⟨hm6, hFqm6_14⟩, ⟨hm7, hFqm7_14⟩, ⟨hm8, hFqm8_14⟩, ⟨hm9, hFqm9_14⟩, ⟨hm10, hFqm10_14⟩, ⟨hm11, hFqm11_14⟩, ⟨hm12, hFqm12_14⟩, ⟨hm13, hFqm13_14⟩, ⟨hm14, hFqm14_14⟩, ⟨hm15, hFqm15_14⟩, hne⟩)⟩), (by show va_P _ _ _ t.heap; rw [ht]; exact hP)⟩, hS.F ht⟩) hS.2.2 dX9_rest_151
    · have hp0_i : ¬ pl0 (Sl.1 j_lg) i = 0 := by rw [hp_i]; decide
      refine lv_aload_n hx hb dX9_rest_0 rfl (lv_at hl 0 rfl) ?_
      refine lv_iconst (v := 0) hx hb dX9_rest_1 (by decide) ?_
      refine pg_put (ci := 8) (v := .int 0) (ty := .int) (C := RX9) (T := TX9) (N := 20) hx hb hts hinX9 tyX9 tyX9_ok nmX9 hown hK hP hD hS hmo hFo rfl 0 (by decide) (hts (.fieldLink RX9 61 "RopeDrumsModel" "thrown" "I") (by decide +kernel)) (fun _ h9 => h9) rfl (by decide +kernel) (rfl) (rfl) (Nat.le_of_ble_eq_true rfl) dX9_rest_2 (fun H locs F15 eF15 hP hS => ?_)
      have eF15 : F15 = va_up F o (.inr (8, [.int 0, .ref (qm 0), .ref (qm 1), .ref (qm 2), .ref (qm 3), .ref (qm 4), .ref (qm 5), .ref (qm 6), .ref (qm 7), .int Pp.1, .ref (qm 8), .ref (qm 9), .ref (qm 10), .ref (qm 11), .ref (qm 12), .ref (qm 13), .ref (qm 14), .int Xx.1, .ref (qm 15), .long oc])) := eF15
      have hFo_15 : F15 o = .inr (8, [.int 0, .ref (qm 0), .ref (qm 1), .ref (qm 2), .ref (qm 3), .ref (qm 4), .ref (qm 5), .ref (qm 6), .ref (qm 7), .int Pp.1, .ref (qm 8), .ref (qm 9), .ref (qm 10), .ref (qm 11), .ref (qm 12), .ref (qm 13), .ref (qm 14), .int Xx.1, .ref (qm 15), .long oc]) := by rw [eF15]; exact va_up_self _ _ _
      have hFqm0_15 : F15 (qm 0) = cI (cy 1) 10 Mm.1 := by rw [eF15, va_up_ne _ _ (pl_ne hF0 hFo rfl)]; exact hF0
      have hFqm1_15 : F15 (qm 1) = cJ (cy 2) 10 Mm.2 := by rw [eF15, va_up_ne _ _ (pl_ne hF1 hFo rfl)]; exact hF1
      have hFqm2_15 : F15 (qm 2) = cD (cy 0) 6 Dd.1 := by rw [eF15, va_up_ne _ _ (pl_ne hF2 hFo rfl)]; exact hF2
      have hFqm3_15 : F15 (qm 3) = cD (cy 0) 6 Dd.2.1 := by rw [eF15, va_up_ne _ _ (pl_ne hF3 hFo rfl)]; exact hF3
      have hFqm4_15 : F15 (qm 4) = cD (cy 0) 6 Dd.2.2.1 := by rw [eF15, va_up_ne _ _ (pl_ne hF4 hFo rfl)]; exact hF4
      have hFqm5_15 : F15 (qm 5) = cJ (cy 2) 6 Dd.2.2.2 := by rw [eF15, va_up_ne _ _ (pl_ne hF5 hFo rfl)]; exact hF5
      have hFqm6_15 : F15 (qm 6) = cI (cy 1) 8 Sl.1 := by rw [eF15, va_up_ne _ _ (pl_ne hF6 hFo rfl)]; exact hF6
      have hFqm7_15 : F15 (qm 7) = cJ (cy 2) 128 Sl.2 := by rw [eF15, va_up_ne _ _ (pl_ne hF7 hFo rfl)]; exact hF7
      have hFqm8_15 : F15 (qm 8) = cI (cy 1) 30 Pp.2.1 := by rw [eF15, va_up_ne _ _ (pl_ne hF8 hFo rfl)]; exact hF8
      have hFqm9_15 : F15 (qm 9) = cI (cy 3) 30 Pp.2.2 := by rw [eF15, va_up_ne _ _ (pl_ne hF9 hFo rfl)]; exact hF9
      have hFqm10_15 : F15 (qm 10) = cI (cy 1) 5 Kr.1 := by rw [eF15, va_up_ne _ _ (pl_ne hF10 hFo rfl)]; exact hF10
      have hFqm11_15 : F15 (qm 11) = cI (cy 3) 5 Kr.2.1 := by rw [eF15, va_up_ne _ _ (pl_ne hF11 hFo rfl)]; exact hF11
      have hFqm12_15 : F15 (qm 12) = cI (cy 1) 60 Kr.2.2 := by rw [eF15, va_up_ne _ _ (pl_ne hF12 hFo rfl)]; exact hF12
      have hFqm13_15 : F15 (qm 13) = cI (cy 1) 4 Bk.1 := by rw [eF15, va_up_ne _ _ (pl_ne hF13 hFo rfl)]; exact hF13
      have hFqm14_15 : F15 (qm 14) = cD (cy 0) 4 Bk.2 := by rw [eF15, va_up_ne _ _ (pl_ne hF14 hFo rfl)]; exact hF14
      have hFqm15_15 : F15 (qm 15) = cI (cy 1) 6 Xx.2 := by rw [eF15, va_up_ne _ _ (pl_ne hF15 hFo rfl)]; exact hF15
      refine lv_iload_n hx hb dX9_rest_5 rfl (lv_at hl 1 rfl) ?_
      refine vp_callSi (W.runS (As := [.int (nI j_lg)]) (rest := []) ⟨hx, hb, hml, hown, hts⟩ (c9_isLog l (nI j_lg)) (va_cwS 1 hts gX9_rest_X9_isLog rfl rfl rfl (by decide +kernel) ⟨Nat.le_of_ble_eq_true rfl, Nat.le_of_ble_eq_true rfl⟩) (preS_of okT (trivial)) rfl rfl hl.1 rfl (lv_room (Nat.le_of_ble_eq_true rfl)) dX9_rest_6 ⟨Nat.le_of_ble_eq_true rfl, Nat.le_of_ble_eq_true rfl⟩) (fun r16 hr16 => ?_)
      rw [isx1 hi_lg] at hr16
      subst hr16
      refine lv_if_ne (tgt := 16) hx hb dX9_rest_9 (by decide) (fun c17 => ?_) (fun c17 => absurd c17 (by decide))
      refine lv_aload_n hx hb dX9_rest_16 rfl (lv_at hl 0 rfl) ?_
      refine lv_aload_n hx hb dX9_rest_17 rfl (lv_at hl 0 rfl) ?_
      refine lv_iload_n hx hb dX9_rest_18 rfl (lv_at hl 1 rfl) ?_
      refine lv_iload_n hx hb dX9_rest_19 rfl (lv_at hl 2 rfl) ?_
      refine vp_callSi (W.runV (As := [.int (nI j_lg), .int i]) (rest := [.ref o]) ⟨hx, hb, hml, hown, hts⟩ (c9_logCause l G cy L F15 o qm 0 Pp.1 Xx.1 oc hmo hFo_15 Sl.1 hm6 hFqm6_15 j_lg hj_lg i ((hVS j_lg hj_lg).1)) (cwV 2 hts gX9_rest_X9_logCause rfl rfl rfl (by decide +kernel) ⟨Nat.le_of_ble_eq_true rfl, Nat.le_of_ble_eq_true rfl⟩) (preV_of okP (⟨hP, hK, hD.top⟩) (pl_recv hK hP (ci := 8) rfl hmo hFo_15)) rfl rfl hl.1 rfl (lv_room (Nat.le_of_ble_eq_true rfl)) dX9_rest_20 ⟨Nat.le_of_ble_eq_true rfl, Nat.le_of_ble_eq_true rfl⟩) (fun r18 hr18 => ?_)
      rw [hp_i] at hr18
      have hzr18 : r18 = 2 := hr18
      clear hr18
      subst hzr18
      refine pg_put (ci := 8) (v := .int 2) (ty := .int) (C := RX9) (T := TX9) (N := 20) hx hb hts hinX9 tyX9 tyX9_ok nmX9 hown hK hP hD hS hmo hFo_15 rfl 17 (by decide) (hts (.fieldLink RX9 65 "RopeDrumsModel" "failed" "I") (by decide +kernel)) (fun _ h9 => h9) rfl (by decide +kernel) (rfl) (rfl) (Nat.le_of_ble_eq_true rfl) dX9_rest_23 (fun H locs F19 eF19 hP hS => ?_)
      have eF19 : F19 = va_up F15 o (.inr (8, [.int 0, .ref (qm 0), .ref (qm 1), .ref (qm 2), .ref (qm 3), .ref (qm 4), .ref (qm 5), .ref (qm 6), .ref (qm 7), .int Pp.1, .ref (qm 8), .ref (qm 9), .ref (qm 10), .ref (qm 11), .ref (qm 12), .ref (qm 13), .ref (qm 14), .int 2, .ref (qm 15), .long oc])) := eF19
      have hFo_19 : F19 o = .inr (8, [.int 0, .ref (qm 0), .ref (qm 1), .ref (qm 2), .ref (qm 3), .ref (qm 4), .ref (qm 5), .ref (qm 6), .ref (qm 7), .int Pp.1, .ref (qm 8), .ref (qm 9), .ref (qm 10), .ref (qm 11), .ref (qm 12), .ref (qm 13), .ref (qm 14), .int 2, .ref (qm 15), .long oc]) := by rw [eF19]; exact va_up_self _ _ _
      have hFqm0_19 : F19 (qm 0) = cI (cy 1) 10 Mm.1 := by rw [eF19, va_up_ne _ _ (pl_ne hFqm0_15 hFo_15 rfl)]; exact hFqm0_15
      have hFqm1_19 : F19 (qm 1) = cJ (cy 2) 10 Mm.2 := by rw [eF19, va_up_ne _ _ (pl_ne hFqm1_15 hFo_15 rfl)]; exact hFqm1_15
      have hFqm2_19 : F19 (qm 2) = cD (cy 0) 6 Dd.1 := by rw [eF19, va_up_ne _ _ (pl_ne hFqm2_15 hFo_15 rfl)]; exact hFqm2_15
      have hFqm3_19 : F19 (qm 3) = cD (cy 0) 6 Dd.2.1 := by rw [eF19, va_up_ne _ _ (pl_ne hFqm3_15 hFo_15 rfl)]; exact hFqm3_15
      have hFqm4_19 : F19 (qm 4) = cD (cy 0) 6 Dd.2.2.1 := by rw [eF19, va_up_ne _ _ (pl_ne hFqm4_15 hFo_15 rfl)]; exact hFqm4_15
      have hFqm5_19 : F19 (qm 5) = cJ (cy 2) 6 Dd.2.2.2 := by rw [eF19, va_up_ne _ _ (pl_ne hFqm5_15 hFo_15 rfl)]; exact hFqm5_15
      have hFqm6_19 : F19 (qm 6) = cI (cy 1) 8 Sl.1 := by rw [eF19, va_up_ne _ _ (pl_ne hFqm6_15 hFo_15 rfl)]; exact hFqm6_15
      have hFqm7_19 : F19 (qm 7) = cJ (cy 2) 128 Sl.2 := by rw [eF19, va_up_ne _ _ (pl_ne hFqm7_15 hFo_15 rfl)]; exact hFqm7_15
      have hFqm8_19 : F19 (qm 8) = cI (cy 1) 30 Pp.2.1 := by rw [eF19, va_up_ne _ _ (pl_ne hFqm8_15 hFo_15 rfl)]; exact hFqm8_15
      have hFqm9_19 : F19 (qm 9) = cI (cy 3) 30 Pp.2.2 := by rw [eF19, va_up_ne _ _ (pl_ne hFqm9_15 hFo_15 rfl)]; exact hFqm9_15
      have hFqm10_19 : F19 (qm 10) = cI (cy 1) 5 Kr.1 := by rw [eF19, va_up_ne _ _ (pl_ne hFqm10_15 hFo_15 rfl)]; exact hFqm10_15
      have hFqm11_19 : F19 (qm 11) = cI (cy 3) 5 Kr.2.1 := by rw [eF19, va_up_ne _ _ (pl_ne hFqm11_15 hFo_15 rfl)]; exact hFqm11_15
      have hFqm12_19 : F19 (qm 12) = cI (cy 1) 60 Kr.2.2 := by rw [eF19, va_up_ne _ _ (pl_ne hFqm12_15 hFo_15 rfl)]; exact hFqm12_15
      have hFqm13_19 : F19 (qm 13) = cI (cy 1) 4 Bk.1 := by rw [eF19, va_up_ne _ _ (pl_ne hFqm13_15 hFo_15 rfl)]; exact hFqm13_15
      have hFqm14_19 : F19 (qm 14) = cD (cy 0) 4 Bk.2 := by rw [eF19, va_up_ne _ _ (pl_ne hFqm14_15 hFo_15 rfl)]; exact hFqm14_15
      have hFqm15_19 : F19 (qm 15) = cI (cy 1) 6 Xx.2 := by rw [eF19, va_up_ne _ _ (pl_ne hFqm15_15 hFo_15 rfl)]; exact hFqm15_15
      refine lv_aload_n hx hb dX9_rest_26 rfl (lv_at hl 0 rfl) ?_
      refine lv_aload_n hx hb dX9_rest_27 rfl (lv_at hl 0 rfl) ?_
      refine pg_get (ci := 8) (C := RX9) (T := TX9) (N := 20) hx hb hts hinX9 hown hK hP hmo hFo_19 rfl 17 (by decide) (hts (.fieldLink RX9 65 "RopeDrumsModel" "failed" "I") (by decide +kernel)) (fun _ h9 => h9) rfl dX9_rest_28 ?_
      refine lv_if_ne (tgt := 43) hx hb dX9_rest_31 (by decide) (fun c20 => ?_) (fun c20 => absurd c20 (by decide))
      refine lv_aload_n hx hb dX9_rest_43 rfl (lv_at hl 0 rfl) ?_
      refine pg_get (ci := 8) (C := RX9) (T := TX9) (N := 20) hx hb hts hinX9 hown hK hP hmo hFo_19 rfl 17 (by decide) (hts (.fieldLink RX9 65 "RopeDrumsModel" "failed" "I") (by decide +kernel)) (fun _ h9 => h9) rfl dX9_rest_44 ?_
      refine pg_put (ci := 8) (v := .int 2) (ty := .int) (C := RX9) (T := TX9) (N := 20) hx hb hts hinX9 tyX9 tyX9_ok nmX9 hown hK hP hD hS hmo hFo_19 rfl 17 (by decide) (hts (.fieldLink RX9 65 "RopeDrumsModel" "failed" "I") (by decide +kernel)) (fun _ h9 => h9) rfl (by decide +kernel) (rfl) (rfl) (Nat.le_of_ble_eq_true rfl) dX9_rest_47 (fun H locs F21 eF21 hP hS => ?_)
      have eF21 : F21 = va_up F19 o (.inr (8, [.int 0, .ref (qm 0), .ref (qm 1), .ref (qm 2), .ref (qm 3), .ref (qm 4), .ref (qm 5), .ref (qm 6), .ref (qm 7), .int Pp.1, .ref (qm 8), .ref (qm 9), .ref (qm 10), .ref (qm 11), .ref (qm 12), .ref (qm 13), .ref (qm 14), .int 2, .ref (qm 15), .long oc])) := eF21
      have hFo_21 : F21 o = .inr (8, [.int 0, .ref (qm 0), .ref (qm 1), .ref (qm 2), .ref (qm 3), .ref (qm 4), .ref (qm 5), .ref (qm 6), .ref (qm 7), .int Pp.1, .ref (qm 8), .ref (qm 9), .ref (qm 10), .ref (qm 11), .ref (qm 12), .ref (qm 13), .ref (qm 14), .int 2, .ref (qm 15), .long oc]) := by rw [eF21]; exact va_up_self _ _ _
      have hFqm0_21 : F21 (qm 0) = cI (cy 1) 10 Mm.1 := by rw [eF21, va_up_ne _ _ (pl_ne hFqm0_19 hFo_19 rfl)]; exact hFqm0_19
      have hFqm1_21 : F21 (qm 1) = cJ (cy 2) 10 Mm.2 := by rw [eF21, va_up_ne _ _ (pl_ne hFqm1_19 hFo_19 rfl)]; exact hFqm1_19
      have hFqm2_21 : F21 (qm 2) = cD (cy 0) 6 Dd.1 := by rw [eF21, va_up_ne _ _ (pl_ne hFqm2_19 hFo_19 rfl)]; exact hFqm2_19
      have hFqm3_21 : F21 (qm 3) = cD (cy 0) 6 Dd.2.1 := by rw [eF21, va_up_ne _ _ (pl_ne hFqm3_19 hFo_19 rfl)]; exact hFqm3_19
      have hFqm4_21 : F21 (qm 4) = cD (cy 0) 6 Dd.2.2.1 := by rw [eF21, va_up_ne _ _ (pl_ne hFqm4_19 hFo_19 rfl)]; exact hFqm4_19
      have hFqm5_21 : F21 (qm 5) = cJ (cy 2) 6 Dd.2.2.2 := by rw [eF21, va_up_ne _ _ (pl_ne hFqm5_19 hFo_19 rfl)]; exact hFqm5_19
      have hFqm6_21 : F21 (qm 6) = cI (cy 1) 8 Sl.1 := by rw [eF21, va_up_ne _ _ (pl_ne hFqm6_19 hFo_19 rfl)]; exact hFqm6_19
      have hFqm7_21 : F21 (qm 7) = cJ (cy 2) 128 Sl.2 := by rw [eF21, va_up_ne _ _ (pl_ne hFqm7_19 hFo_19 rfl)]; exact hFqm7_19
      have hFqm8_21 : F21 (qm 8) = cI (cy 1) 30 Pp.2.1 := by rw [eF21, va_up_ne _ _ (pl_ne hFqm8_19 hFo_19 rfl)]; exact hFqm8_19
      have hFqm9_21 : F21 (qm 9) = cI (cy 3) 30 Pp.2.2 := by rw [eF21, va_up_ne _ _ (pl_ne hFqm9_19 hFo_19 rfl)]; exact hFqm9_19
      have hFqm10_21 : F21 (qm 10) = cI (cy 1) 5 Kr.1 := by rw [eF21, va_up_ne _ _ (pl_ne hFqm10_19 hFo_19 rfl)]; exact hFqm10_19
      have hFqm11_21 : F21 (qm 11) = cI (cy 3) 5 Kr.2.1 := by rw [eF21, va_up_ne _ _ (pl_ne hFqm11_19 hFo_19 rfl)]; exact hFqm11_19
      have hFqm12_21 : F21 (qm 12) = cI (cy 1) 60 Kr.2.2 := by rw [eF21, va_up_ne _ _ (pl_ne hFqm12_19 hFo_19 rfl)]; exact hFqm12_19
      have hFqm13_21 : F21 (qm 13) = cI (cy 1) 4 Bk.1 := by rw [eF21, va_up_ne _ _ (pl_ne hFqm13_19 hFo_19 rfl)]; exact hFqm13_19
      have hFqm14_21 : F21 (qm 14) = cD (cy 0) 4 Bk.2 := by rw [eF21, va_up_ne _ _ (pl_ne hFqm14_19 hFo_19 rfl)]; exact hFqm14_19
      have hFqm15_21 : F21 (qm 15) = cI (cy 1) 6 Xx.2 := by rw [eF21, va_up_ne _ _ (pl_ne hFqm15_19 hFo_19 rfl)]; exact hFqm15_19
      refine lv_aload_n hx hb dX9_rest_50 rfl (lv_at hl 0 rfl) ?_
      refine pg_get (ci := 8) (C := RX9) (T := TX9) (N := 20) hx hb hts hinX9 hown hK hP hmo hFo_21 rfl 17 (by decide) (hts (.fieldLink RX9 65 "RopeDrumsModel" "failed" "I") (by decide +kernel)) (fun _ h9 => h9) rfl dX9_rest_51 ?_
      refine lv_if_ne (tgt := 124) hx hb dX9_rest_54 (by decide) (fun c22 => ?_) (fun c22 => absurd c22 (by decide))
      refine lv_aload_n hx hb dX9_rest_124 rfl (lv_at hl 0 rfl) ?_
      refine pg_get (ci := 8) (C := RX9) (T := TX9) (N := 20) hx hb hts hinX9 hown hK hP hmo hFo_21 rfl 17 (by decide) (hts (.fieldLink RX9 65 "RopeDrumsModel" "failed" "I") (by decide +kernel)) (fun _ h9 => h9) rfl dX9_rest_125 ?_
      refine lv_if_ne (tgt := 146) hx hb dX9_rest_128 (by decide) (fun c23 => ?_) (fun c23 => absurd c23 (by decide))
      refine lv_aload_n hx hb dX9_rest_146 rfl (lv_at hl 0 rfl) ?_
      refine lv_iconst (v := 1) hx hb dX9_rest_147 (by decide) ?_
      refine va_calli (va_runV (As := [.int 1]) (rest := []) ⟨hx, hb, hml, hown, hts⟩ (c9_answers_2 l G cy L F21 H.size o qm 0 Pp.1 oc hmo hFo_21 Xx.2 hm15 hFqm15_21 1) (cwV 1 hts gX9_rest_X9_answers rfl rfl rfl (by decide +kernel) ⟨Nat.le_of_ble_eq_true rfl, Nat.le_of_ble_eq_true rfl⟩) (preV_of okQ (⟨rfl, hP, hK, hD.top⟩) (pl_recv hK hP (ci := 8) rfl hmo hFo_21)) rfl rfl hl.1 rfl (lv_room (Nat.le_of_ble_eq_true rfl)) dX9_rest_148 ⟨Nat.le_of_ble_eq_true rfl, Nat.le_of_ble_eq_true rfl⟩) hS (fun q _ h => pl_free hD hS hA q h) (pl_free hD hS hA) (fun r25 F24 t H1 locs ht hvm hw hP1 hz1 hk1 hS => ?_)
      have hP1 : va_P G vwCl (va_pl L F24) t.heap := hP1
      rw [ht] at hP1
      have hP := hP1
      generalize H1 = H at hP hS ⊢
      obtain ⟨hqr25, eF24⟩ := hw
      have eF24 : F24 = va_up F21 (qm 15) (cI (cy 1) 6 (upd Xx.2 2 (Xx.2 2 + 1))) := eF24
      have hFo_25 : F24 o = .inr (8, [.int 0, .ref (qm 0), .ref (qm 1), .ref (qm 2), .ref (qm 3), .ref (qm 4), .ref (qm 5), .ref (qm 6), .ref (qm 7), .int Pp.1, .ref (qm 8), .ref (qm 9), .ref (qm 10), .ref (qm 11), .ref (qm 12), .ref (qm 13), .ref (qm 14), .int 2, .ref (qm 15), .long oc]) := by rw [eF24, va_up_ne _ _ (pl_ne hFo_21 hFqm15_21 rfl)]; exact hFo_21
      have hFqm0_25 : F24 (qm 0) = cI (cy 1) 10 Mm.1 := by rw [eF24, va_up_ne _ _ (pl_ne hFqm0_21 hFqm15_21 rfl)]; exact hFqm0_21
      have hFqm1_25 : F24 (qm 1) = cJ (cy 2) 10 Mm.2 := by rw [eF24, va_up_ne _ _ (pl_ne hFqm1_21 hFqm15_21 rfl)]; exact hFqm1_21
      have hFqm2_25 : F24 (qm 2) = cD (cy 0) 6 Dd.1 := by rw [eF24, va_up_ne _ _ (pl_ne hFqm2_21 hFqm15_21 rfl)]; exact hFqm2_21
      have hFqm3_25 : F24 (qm 3) = cD (cy 0) 6 Dd.2.1 := by rw [eF24, va_up_ne _ _ (pl_ne hFqm3_21 hFqm15_21 rfl)]; exact hFqm3_21
      have hFqm4_25 : F24 (qm 4) = cD (cy 0) 6 Dd.2.2.1 := by rw [eF24, va_up_ne _ _ (pl_ne hFqm4_21 hFqm15_21 rfl)]; exact hFqm4_21
      have hFqm5_25 : F24 (qm 5) = cJ (cy 2) 6 Dd.2.2.2 := by rw [eF24, va_up_ne _ _ (pl_ne hFqm5_21 hFqm15_21 rfl)]; exact hFqm5_21
      have hFqm6_25 : F24 (qm 6) = cI (cy 1) 8 Sl.1 := by rw [eF24, va_up_ne _ _ (pl_ne hFqm6_21 hFqm15_21 rfl)]; exact hFqm6_21
      have hFqm7_25 : F24 (qm 7) = cJ (cy 2) 128 Sl.2 := by rw [eF24, va_up_ne _ _ (pl_ne hFqm7_21 hFqm15_21 rfl)]; exact hFqm7_21
      have hFqm8_25 : F24 (qm 8) = cI (cy 1) 30 Pp.2.1 := by rw [eF24, va_up_ne _ _ (pl_ne hFqm8_21 hFqm15_21 rfl)]; exact hFqm8_21
      have hFqm9_25 : F24 (qm 9) = cI (cy 3) 30 Pp.2.2 := by rw [eF24, va_up_ne _ _ (pl_ne hFqm9_21 hFqm15_21 rfl)]; exact hFqm9_21
      have hFqm10_25 : F24 (qm 10) = cI (cy 1) 5 Kr.1 := by rw [eF24, va_up_ne _ _ (pl_ne hFqm10_21 hFqm15_21 rfl)]; exact hFqm10_21
      have hFqm11_25 : F24 (qm 11) = cI (cy 3) 5 Kr.2.1 := by rw [eF24, va_up_ne _ _ (pl_ne hFqm11_21 hFqm15_21 rfl)]; exact hFqm11_21
      have hFqm12_25 : F24 (qm 12) = cI (cy 1) 60 Kr.2.2 := by rw [eF24, va_up_ne _ _ (pl_ne hFqm12_21 hFqm15_21 rfl)]; exact hFqm12_21
      have hFqm13_25 : F24 (qm 13) = cI (cy 1) 4 Bk.1 := by rw [eF24, va_up_ne _ _ (pl_ne hFqm13_21 hFqm15_21 rfl)]; exact hFqm13_21
      have hFqm14_25 : F24 (qm 14) = cD (cy 0) 4 Bk.2 := by rw [eF24, va_up_ne _ _ (pl_ne hFqm14_21 hFqm15_21 rfl)]; exact hFqm14_21
      have hFqm15_25 : F24 (qm 15) = cI (cy 1) 6 (upd Xx.2 2 (Xx.2 2 + 1)) := by rw [eF24]; exact va_up_self _ _ _
      have hr25 := hqr25
      exact W.iret (v := r25) hx hb hr (fun t ht hW => ⟨⟨r25, F24, rfl, (by subst hr25; have hsp : sp_rest Sl Xx (nI j_lg) i k = (-10 - 2, Sl, failX Xx 2) := (by unfold sp_rest; rw [hi_lg]; exact (if_neg hp0_i).trans (by rw [hp_i]; rfl)); rw [hsp]; exact ⟨rfl, (by exact ⟨⟨_, _, hmo, hFo_25⟩, ⟨hm0, hFqm0_25⟩, ⟨hm1, hFqm1_25⟩, ⟨hm2, hFqm2_25⟩, ⟨hm3, hFqm3_25⟩, ⟨hm4, hFqm4_25⟩, ⟨hm5, hFqm5_25⟩, ⟨hm6, hFqm6_25⟩, ⟨hm7, hFqm7_25⟩, ⟨hm8, hFqm8_25⟩, ⟨hm9, hFqm9_25⟩, ⟨hm10, hFqm10_25⟩, ⟨hm11, hFqm11_25⟩, ⟨hm12, hFqm12_25⟩, ⟨hm13, hFqm13_25⟩, ⟨hm14, hFqm14_25⟩, ⟨hm15, hFqm15_25⟩, hne⟩)⟩), (by show va_P _ _ _ t.heap; rw [ht]; exact hP)⟩, hS.F ht⟩) hS.2.2 dX9_rest_151
    · subst ei_i
      rcases lackc (i := k) (by decide) ((hVS j_lg hj_lg).1) with ⟨hp_k, hk_k⟩ | ⟨hp_k, hk_k⟩ | ⟨q_k, hq_k, hs_k, hp_k, hk_k, ei_k⟩
      · have hp0_k : ¬ pl0 (Sl.1 j_lg) k = 0 := by rw [hp_k]; decide
        refine lv_aload_n hx hb dX9_rest_0 rfl (lv_at hl 0 rfl) ?_
        refine lv_iconst (v := 0) hx hb dX9_rest_1 (by decide) ?_
        refine pg_put (ci := 8) (v := .int 0) (ty := .int) (C := RX9) (T := TX9) (N := 20) hx hb hts hinX9 tyX9 tyX9_ok nmX9 hown hK hP hD hS hmo hFo rfl 0 (by decide) (hts (.fieldLink RX9 61 "RopeDrumsModel" "thrown" "I") (by decide +kernel)) (fun _ h9 => h9) rfl (by decide +kernel) (rfl) (rfl) (Nat.le_of_ble_eq_true rfl) dX9_rest_2 (fun H locs F26 eF26 hP hS => ?_)
        have eF26 : F26 = va_up F o (.inr (8, [.int 0, .ref (qm 0), .ref (qm 1), .ref (qm 2), .ref (qm 3), .ref (qm 4), .ref (qm 5), .ref (qm 6), .ref (qm 7), .int Pp.1, .ref (qm 8), .ref (qm 9), .ref (qm 10), .ref (qm 11), .ref (qm 12), .ref (qm 13), .ref (qm 14), .int Xx.1, .ref (qm 15), .long oc])) := eF26
        have hFo_26 : F26 o = .inr (8, [.int 0, .ref (qm 0), .ref (qm 1), .ref (qm 2), .ref (qm 3), .ref (qm 4), .ref (qm 5), .ref (qm 6), .ref (qm 7), .int Pp.1, .ref (qm 8), .ref (qm 9), .ref (qm 10), .ref (qm 11), .ref (qm 12), .ref (qm 13), .ref (qm 14), .int Xx.1, .ref (qm 15), .long oc]) := by rw [eF26]; exact va_up_self _ _ _
        have hFqm0_26 : F26 (qm 0) = cI (cy 1) 10 Mm.1 := by rw [eF26, va_up_ne _ _ (pl_ne hF0 hFo rfl)]; exact hF0
        have hFqm1_26 : F26 (qm 1) = cJ (cy 2) 10 Mm.2 := by rw [eF26, va_up_ne _ _ (pl_ne hF1 hFo rfl)]; exact hF1
        have hFqm2_26 : F26 (qm 2) = cD (cy 0) 6 Dd.1 := by rw [eF26, va_up_ne _ _ (pl_ne hF2 hFo rfl)]; exact hF2
        have hFqm3_26 : F26 (qm 3) = cD (cy 0) 6 Dd.2.1 := by rw [eF26, va_up_ne _ _ (pl_ne hF3 hFo rfl)]; exact hF3
        have hFqm4_26 : F26 (qm 4) = cD (cy 0) 6 Dd.2.2.1 := by rw [eF26, va_up_ne _ _ (pl_ne hF4 hFo rfl)]; exact hF4
        have hFqm5_26 : F26 (qm 5) = cJ (cy 2) 6 Dd.2.2.2 := by rw [eF26, va_up_ne _ _ (pl_ne hF5 hFo rfl)]; exact hF5
        have hFqm6_26 : F26 (qm 6) = cI (cy 1) 8 Sl.1 := by rw [eF26, va_up_ne _ _ (pl_ne hF6 hFo rfl)]; exact hF6
        have hFqm7_26 : F26 (qm 7) = cJ (cy 2) 128 Sl.2 := by rw [eF26, va_up_ne _ _ (pl_ne hF7 hFo rfl)]; exact hF7
        have hFqm8_26 : F26 (qm 8) = cI (cy 1) 30 Pp.2.1 := by rw [eF26, va_up_ne _ _ (pl_ne hF8 hFo rfl)]; exact hF8
        have hFqm9_26 : F26 (qm 9) = cI (cy 3) 30 Pp.2.2 := by rw [eF26, va_up_ne _ _ (pl_ne hF9 hFo rfl)]; exact hF9
        have hFqm10_26 : F26 (qm 10) = cI (cy 1) 5 Kr.1 := by rw [eF26, va_up_ne _ _ (pl_ne hF10 hFo rfl)]; exact hF10
        have hFqm11_26 : F26 (qm 11) = cI (cy 3) 5 Kr.2.1 := by rw [eF26, va_up_ne _ _ (pl_ne hF11 hFo rfl)]; exact hF11
        have hFqm12_26 : F26 (qm 12) = cI (cy 1) 60 Kr.2.2 := by rw [eF26, va_up_ne _ _ (pl_ne hF12 hFo rfl)]; exact hF12
        have hFqm13_26 : F26 (qm 13) = cI (cy 1) 4 Bk.1 := by rw [eF26, va_up_ne _ _ (pl_ne hF13 hFo rfl)]; exact hF13
        have hFqm14_26 : F26 (qm 14) = cD (cy 0) 4 Bk.2 := by rw [eF26, va_up_ne _ _ (pl_ne hF14 hFo rfl)]; exact hF14
        have hFqm15_26 : F26 (qm 15) = cI (cy 1) 6 Xx.2 := by rw [eF26, va_up_ne _ _ (pl_ne hF15 hFo rfl)]; exact hF15
        refine lv_iload_n hx hb dX9_rest_5 rfl (lv_at hl 1 rfl) ?_
        refine vp_callSi (W.runS (As := [.int (nI j_lg)]) (rest := []) ⟨hx, hb, hml, hown, hts⟩ (c9_isLog l (nI j_lg)) (va_cwS 1 hts gX9_rest_X9_isLog rfl rfl rfl (by decide +kernel) ⟨Nat.le_of_ble_eq_true rfl, Nat.le_of_ble_eq_true rfl⟩) (preS_of okT (trivial)) rfl rfl hl.1 rfl (lv_room (Nat.le_of_ble_eq_true rfl)) dX9_rest_6 ⟨Nat.le_of_ble_eq_true rfl, Nat.le_of_ble_eq_true rfl⟩) (fun r27 hr27 => ?_)
        rw [isx1 hi_lg] at hr27
        subst hr27
        refine lv_if_ne (tgt := 16) hx hb dX9_rest_9 (by decide) (fun c28 => ?_) (fun c28 => absurd c28 (by decide))
        refine lv_aload_n hx hb dX9_rest_16 rfl (lv_at hl 0 rfl) ?_
        refine lv_aload_n hx hb dX9_rest_17 rfl (lv_at hl 0 rfl) ?_
        refine lv_iload_n hx hb dX9_rest_18 rfl (lv_at hl 1 rfl) ?_
        refine lv_iload_n hx hb dX9_rest_19 rfl (lv_at hl 2 rfl) ?_
        refine vp_callSi (W.runV (As := [.int (nI j_lg), .int (nI q_i)]) (rest := [.ref o]) ⟨hx, hb, hml, hown, hts⟩ (c9_logCause l G cy L F26 o qm 0 Pp.1 Xx.1 oc hmo hFo_26 Sl.1 hm6 hFqm6_26 j_lg hj_lg (nI q_i) ((hVS j_lg hj_lg).1)) (cwV 2 hts gX9_rest_X9_logCause rfl rfl rfl (by decide +kernel) ⟨Nat.le_of_ble_eq_true rfl, Nat.le_of_ble_eq_true rfl⟩) (preV_of okP (⟨hP, hK, hD.top⟩) (pl_recv hK hP (ci := 8) rfl hmo hFo_26)) rfl rfl hl.1 rfl (lv_room (Nat.le_of_ble_eq_true rfl)) dX9_rest_20 ⟨Nat.le_of_ble_eq_true rfl, Nat.le_of_ble_eq_true rfl⟩) (fun r29 hr29 => ?_)
        rw [hp_i] at hr29
        have hzr29 : r29 = 0 := hr29
        clear hr29
        subst hzr29
        refine pg_put (ci := 8) (v := .int 0) (ty := .int) (C := RX9) (T := TX9) (N := 20) hx hb hts hinX9 tyX9 tyX9_ok nmX9 hown hK hP hD hS hmo hFo_26 rfl 17 (by decide) (hts (.fieldLink RX9 65 "RopeDrumsModel" "failed" "I") (by decide +kernel)) (fun _ h9 => h9) rfl (by decide +kernel) (rfl) (rfl) (Nat.le_of_ble_eq_true rfl) dX9_rest_23 (fun H locs F30 eF30 hP hS => ?_)
        have eF30 : F30 = va_up F26 o (.inr (8, [.int 0, .ref (qm 0), .ref (qm 1), .ref (qm 2), .ref (qm 3), .ref (qm 4), .ref (qm 5), .ref (qm 6), .ref (qm 7), .int Pp.1, .ref (qm 8), .ref (qm 9), .ref (qm 10), .ref (qm 11), .ref (qm 12), .ref (qm 13), .ref (qm 14), .int 0, .ref (qm 15), .long oc])) := eF30
        have hFo_30 : F30 o = .inr (8, [.int 0, .ref (qm 0), .ref (qm 1), .ref (qm 2), .ref (qm 3), .ref (qm 4), .ref (qm 5), .ref (qm 6), .ref (qm 7), .int Pp.1, .ref (qm 8), .ref (qm 9), .ref (qm 10), .ref (qm 11), .ref (qm 12), .ref (qm 13), .ref (qm 14), .int 0, .ref (qm 15), .long oc]) := by rw [eF30]; exact va_up_self _ _ _
        have hFqm0_30 : F30 (qm 0) = cI (cy 1) 10 Mm.1 := by rw [eF30, va_up_ne _ _ (pl_ne hFqm0_26 hFo_26 rfl)]; exact hFqm0_26
        have hFqm1_30 : F30 (qm 1) = cJ (cy 2) 10 Mm.2 := by rw [eF30, va_up_ne _ _ (pl_ne hFqm1_26 hFo_26 rfl)]; exact hFqm1_26
        have hFqm2_30 : F30 (qm 2) = cD (cy 0) 6 Dd.1 := by rw [eF30, va_up_ne _ _ (pl_ne hFqm2_26 hFo_26 rfl)]; exact hFqm2_26
        have hFqm3_30 : F30 (qm 3) = cD (cy 0) 6 Dd.2.1 := by rw [eF30, va_up_ne _ _ (pl_ne hFqm3_26 hFo_26 rfl)]; exact hFqm3_26
        have hFqm4_30 : F30 (qm 4) = cD (cy 0) 6 Dd.2.2.1 := by rw [eF30, va_up_ne _ _ (pl_ne hFqm4_26 hFo_26 rfl)]; exact hFqm4_26
        have hFqm5_30 : F30 (qm 5) = cJ (cy 2) 6 Dd.2.2.2 := by rw [eF30, va_up_ne _ _ (pl_ne hFqm5_26 hFo_26 rfl)]; exact hFqm5_26
        have hFqm6_30 : F30 (qm 6) = cI (cy 1) 8 Sl.1 := by rw [eF30, va_up_ne _ _ (pl_ne hFqm6_26 hFo_26 rfl)]; exact hFqm6_26
        have hFqm7_30 : F30 (qm 7) = cJ (cy 2) 128 Sl.2 := by rw [eF30, va_up_ne _ _ (pl_ne hFqm7_26 hFo_26 rfl)]; exact hFqm7_26
        have hFqm8_30 : F30 (qm 8) = cI (cy 1) 30 Pp.2.1 := by rw [eF30, va_up_ne _ _ (pl_ne hFqm8_26 hFo_26 rfl)]; exact hFqm8_26
        have hFqm9_30 : F30 (qm 9) = cI (cy 3) 30 Pp.2.2 := by rw [eF30, va_up_ne _ _ (pl_ne hFqm9_26 hFo_26 rfl)]; exact hFqm9_26
        have hFqm10_30 : F30 (qm 10) = cI (cy 1) 5 Kr.1 := by rw [eF30, va_up_ne _ _ (pl_ne hFqm10_26 hFo_26 rfl)]; exact hFqm10_26
        have hFqm11_30 : F30 (qm 11) = cI (cy 3) 5 Kr.2.1 := by rw [eF30, va_up_ne _ _ (pl_ne hFqm11_26 hFo_26 rfl)]; exact hFqm11_26
        have hFqm12_30 : F30 (qm 12) = cI (cy 1) 60 Kr.2.2 := by rw [eF30, va_up_ne _ _ (pl_ne hFqm12_26 hFo_26 rfl)]; exact hFqm12_26
        have hFqm13_30 : F30 (qm 13) = cI (cy 1) 4 Bk.1 := by rw [eF30, va_up_ne _ _ (pl_ne hFqm13_26 hFo_26 rfl)]; exact hFqm13_26
        have hFqm14_30 : F30 (qm 14) = cD (cy 0) 4 Bk.2 := by rw [eF30, va_up_ne _ _ (pl_ne hFqm14_26 hFo_26 rfl)]; exact hFqm14_26
        have hFqm15_30 : F30 (qm 15) = cI (cy 1) 6 Xx.2 := by rw [eF30, va_up_ne _ _ (pl_ne hFqm15_26 hFo_26 rfl)]; exact hFqm15_26
        refine lv_aload_n hx hb dX9_rest_26 rfl (lv_at hl 0 rfl) ?_
        refine lv_aload_n hx hb dX9_rest_27 rfl (lv_at hl 0 rfl) ?_
        refine pg_get (ci := 8) (C := RX9) (T := TX9) (N := 20) hx hb hts hinX9 hown hK hP hmo hFo_30 rfl 17 (by decide) (hts (.fieldLink RX9 65 "RopeDrumsModel" "failed" "I") (by decide +kernel)) (fun _ h9 => h9) rfl dX9_rest_28 ?_
        refine lv_if_ne (tgt := 43) hx hb dX9_rest_31 (by decide) (fun c31 => absurd (by decide) c31) (fun c31 => ?_)
        refine lv_aload_n hx hb dX9_rest_34 rfl (lv_at hl 0 rfl) ?_
        refine lv_iload_n hx hb dX9_rest_35 rfl (lv_at hl 1 rfl) ?_
        refine lv_iload_n hx hb dX9_rest_36 rfl (lv_at hl 3 rfl) ?_
        refine vp_callSi (W.runV (As := [.int (nI j_lg), .int k]) (rest := [.ref o]) ⟨hx, hb, hml, hown, hts⟩ (c9_logCause l G cy L F30 o qm 0 Pp.1 0 oc hmo hFo_30 Sl.1 hm6 hFqm6_30 j_lg hj_lg k ((hVS j_lg hj_lg).1)) (cwV 2 hts gX9_rest_X9_logCause rfl rfl rfl (by decide +kernel) ⟨Nat.le_of_ble_eq_true rfl, Nat.le_of_ble_eq_true rfl⟩) (preV_of okP (⟨hP, hK, hD.top⟩) (pl_recv hK hP (ci := 8) rfl hmo hFo_30)) rfl rfl hl.1 rfl (lv_room (Nat.le_of_ble_eq_true rfl)) dX9_rest_37 ⟨Nat.le_of_ble_eq_true rfl, Nat.le_of_ble_eq_true rfl⟩) (fun r32 hr32 => ?_)
        rw [hp_k] at hr32
        have hzr32 : r32 = 1 := hr32
        clear hr32
        subst hzr32
        refine lv_goto (tgt := 47) hx hb dX9_rest_40 (by decide) ?_
        refine pg_put (ci := 8) (v := .int 1) (ty := .int) (C := RX9) (T := TX9) (N := 20) hx hb hts hinX9 tyX9 tyX9_ok nmX9 hown hK hP hD hS hmo hFo_30 rfl 17 (by decide) (hts (.fieldLink RX9 65 "RopeDrumsModel" "failed" "I") (by decide +kernel)) (fun _ h9 => h9) rfl (by decide +kernel) (rfl) (rfl) (Nat.le_of_ble_eq_true rfl) dX9_rest_47 (fun H locs F33 eF33 hP hS => ?_)
        have eF33 : F33 = va_up F30 o (.inr (8, [.int 0, .ref (qm 0), .ref (qm 1), .ref (qm 2), .ref (qm 3), .ref (qm 4), .ref (qm 5), .ref (qm 6), .ref (qm 7), .int Pp.1, .ref (qm 8), .ref (qm 9), .ref (qm 10), .ref (qm 11), .ref (qm 12), .ref (qm 13), .ref (qm 14), .int 1, .ref (qm 15), .long oc])) := eF33
        have hFo_33 : F33 o = .inr (8, [.int 0, .ref (qm 0), .ref (qm 1), .ref (qm 2), .ref (qm 3), .ref (qm 4), .ref (qm 5), .ref (qm 6), .ref (qm 7), .int Pp.1, .ref (qm 8), .ref (qm 9), .ref (qm 10), .ref (qm 11), .ref (qm 12), .ref (qm 13), .ref (qm 14), .int 1, .ref (qm 15), .long oc]) := by rw [eF33]; exact va_up_self _ _ _
        have hFqm0_33 : F33 (qm 0) = cI (cy 1) 10 Mm.1 := by rw [eF33, va_up_ne _ _ (pl_ne hFqm0_30 hFo_30 rfl)]; exact hFqm0_30
        have hFqm1_33 : F33 (qm 1) = cJ (cy 2) 10 Mm.2 := by rw [eF33, va_up_ne _ _ (pl_ne hFqm1_30 hFo_30 rfl)]; exact hFqm1_30
        have hFqm2_33 : F33 (qm 2) = cD (cy 0) 6 Dd.1 := by rw [eF33, va_up_ne _ _ (pl_ne hFqm2_30 hFo_30 rfl)]; exact hFqm2_30
        have hFqm3_33 : F33 (qm 3) = cD (cy 0) 6 Dd.2.1 := by rw [eF33, va_up_ne _ _ (pl_ne hFqm3_30 hFo_30 rfl)]; exact hFqm3_30
        have hFqm4_33 : F33 (qm 4) = cD (cy 0) 6 Dd.2.2.1 := by rw [eF33, va_up_ne _ _ (pl_ne hFqm4_30 hFo_30 rfl)]; exact hFqm4_30
        have hFqm5_33 : F33 (qm 5) = cJ (cy 2) 6 Dd.2.2.2 := by rw [eF33, va_up_ne _ _ (pl_ne hFqm5_30 hFo_30 rfl)]; exact hFqm5_30
        have hFqm6_33 : F33 (qm 6) = cI (cy 1) 8 Sl.1 := by rw [eF33, va_up_ne _ _ (pl_ne hFqm6_30 hFo_30 rfl)]; exact hFqm6_30
        have hFqm7_33 : F33 (qm 7) = cJ (cy 2) 128 Sl.2 := by rw [eF33, va_up_ne _ _ (pl_ne hFqm7_30 hFo_30 rfl)]; exact hFqm7_30
        have hFqm8_33 : F33 (qm 8) = cI (cy 1) 30 Pp.2.1 := by rw [eF33, va_up_ne _ _ (pl_ne hFqm8_30 hFo_30 rfl)]; exact hFqm8_30
        have hFqm9_33 : F33 (qm 9) = cI (cy 3) 30 Pp.2.2 := by rw [eF33, va_up_ne _ _ (pl_ne hFqm9_30 hFo_30 rfl)]; exact hFqm9_30
        have hFqm10_33 : F33 (qm 10) = cI (cy 1) 5 Kr.1 := by rw [eF33, va_up_ne _ _ (pl_ne hFqm10_30 hFo_30 rfl)]; exact hFqm10_30
        have hFqm11_33 : F33 (qm 11) = cI (cy 3) 5 Kr.2.1 := by rw [eF33, va_up_ne _ _ (pl_ne hFqm11_30 hFo_30 rfl)]; exact hFqm11_30
        have hFqm12_33 : F33 (qm 12) = cI (cy 1) 60 Kr.2.2 := by rw [eF33, va_up_ne _ _ (pl_ne hFqm12_30 hFo_30 rfl)]; exact hFqm12_30
        have hFqm13_33 : F33 (qm 13) = cI (cy 1) 4 Bk.1 := by rw [eF33, va_up_ne _ _ (pl_ne hFqm13_30 hFo_30 rfl)]; exact hFqm13_30
        have hFqm14_33 : F33 (qm 14) = cD (cy 0) 4 Bk.2 := by rw [eF33, va_up_ne _ _ (pl_ne hFqm14_30 hFo_30 rfl)]; exact hFqm14_30
        have hFqm15_33 : F33 (qm 15) = cI (cy 1) 6 Xx.2 := by rw [eF33, va_up_ne _ _ (pl_ne hFqm15_30 hFo_30 rfl)]; exact hFqm15_30
        refine lv_aload_n hx hb dX9_rest_50 rfl (lv_at hl 0 rfl) ?_
        refine pg_get (ci := 8) (C := RX9) (T := TX9) (N := 20) hx hb hts hinX9 hown hK hP hmo hFo_33 rfl 17 (by decide) (hts (.fieldLink RX9 65 "RopeDrumsModel" "failed" "I") (by decide +kernel)) (fun _ h9 => h9) rfl dX9_rest_51 ?_
        refine lv_if_ne (tgt := 124) hx hb dX9_rest_54 (by decide) (fun c34 => ?_) (fun c34 => absurd c34 (by decide))
        refine lv_aload_n hx hb dX9_rest_124 rfl (lv_at hl 0 rfl) ?_
        refine pg_get (ci := 8) (C := RX9) (T := TX9) (N := 20) hx hb hts hinX9 hown hK hP hmo hFo_33 rfl 17 (by decide) (hts (.fieldLink RX9 65 "RopeDrumsModel" "failed" "I") (by decide +kernel)) (fun _ h9 => h9) rfl dX9_rest_125 ?_
        refine lv_if_ne (tgt := 146) hx hb dX9_rest_128 (by decide) (fun c35 => ?_) (fun c35 => absurd c35 (by decide))
        refine lv_aload_n hx hb dX9_rest_146 rfl (lv_at hl 0 rfl) ?_
        refine lv_iconst (v := 1) hx hb dX9_rest_147 (by decide) ?_
        refine va_calli (va_runV (As := [.int 1]) (rest := []) ⟨hx, hb, hml, hown, hts⟩ (c9_answers_1 l G cy L F33 H.size o qm 0 Pp.1 oc hmo hFo_33 Xx.2 hm15 hFqm15_33 1) (cwV 1 hts gX9_rest_X9_answers rfl rfl rfl (by decide +kernel) ⟨Nat.le_of_ble_eq_true rfl, Nat.le_of_ble_eq_true rfl⟩) (preV_of okQ (⟨rfl, hP, hK, hD.top⟩) (pl_recv hK hP (ci := 8) rfl hmo hFo_33)) rfl rfl hl.1 rfl (lv_room (Nat.le_of_ble_eq_true rfl)) dX9_rest_148 ⟨Nat.le_of_ble_eq_true rfl, Nat.le_of_ble_eq_true rfl⟩) hS (fun q _ h => pl_free hD hS hA q h) (pl_free hD hS hA) (fun r37 F36 t H1 locs ht hvm hw hP1 hz1 hk1 hS => ?_)
        have hP1 : va_P G vwCl (va_pl L F36) t.heap := hP1
        rw [ht] at hP1
        have hP := hP1
        generalize H1 = H at hP hS ⊢
        obtain ⟨hqr37, eF36⟩ := hw
        have eF36 : F36 = va_up F33 (qm 15) (cI (cy 1) 6 (upd Xx.2 1 (Xx.2 1 + 1))) := eF36
        have hFo_37 : F36 o = .inr (8, [.int 0, .ref (qm 0), .ref (qm 1), .ref (qm 2), .ref (qm 3), .ref (qm 4), .ref (qm 5), .ref (qm 6), .ref (qm 7), .int Pp.1, .ref (qm 8), .ref (qm 9), .ref (qm 10), .ref (qm 11), .ref (qm 12), .ref (qm 13), .ref (qm 14), .int 1, .ref (qm 15), .long oc]) := by rw [eF36, va_up_ne _ _ (pl_ne hFo_33 hFqm15_33 rfl)]; exact hFo_33
        have hFqm0_37 : F36 (qm 0) = cI (cy 1) 10 Mm.1 := by rw [eF36, va_up_ne _ _ (pl_ne hFqm0_33 hFqm15_33 rfl)]; exact hFqm0_33
        have hFqm1_37 : F36 (qm 1) = cJ (cy 2) 10 Mm.2 := by rw [eF36, va_up_ne _ _ (pl_ne hFqm1_33 hFqm15_33 rfl)]; exact hFqm1_33
        have hFqm2_37 : F36 (qm 2) = cD (cy 0) 6 Dd.1 := by rw [eF36, va_up_ne _ _ (pl_ne hFqm2_33 hFqm15_33 rfl)]; exact hFqm2_33
        have hFqm3_37 : F36 (qm 3) = cD (cy 0) 6 Dd.2.1 := by rw [eF36, va_up_ne _ _ (pl_ne hFqm3_33 hFqm15_33 rfl)]; exact hFqm3_33
        have hFqm4_37 : F36 (qm 4) = cD (cy 0) 6 Dd.2.2.1 := by rw [eF36, va_up_ne _ _ (pl_ne hFqm4_33 hFqm15_33 rfl)]; exact hFqm4_33
        have hFqm5_37 : F36 (qm 5) = cJ (cy 2) 6 Dd.2.2.2 := by rw [eF36, va_up_ne _ _ (pl_ne hFqm5_33 hFqm15_33 rfl)]; exact hFqm5_33
        have hFqm6_37 : F36 (qm 6) = cI (cy 1) 8 Sl.1 := by rw [eF36, va_up_ne _ _ (pl_ne hFqm6_33 hFqm15_33 rfl)]; exact hFqm6_33
        have hFqm7_37 : F36 (qm 7) = cJ (cy 2) 128 Sl.2 := by rw [eF36, va_up_ne _ _ (pl_ne hFqm7_33 hFqm15_33 rfl)]; exact hFqm7_33
        have hFqm8_37 : F36 (qm 8) = cI (cy 1) 30 Pp.2.1 := by rw [eF36, va_up_ne _ _ (pl_ne hFqm8_33 hFqm15_33 rfl)]; exact hFqm8_33
        have hFqm9_37 : F36 (qm 9) = cI (cy 3) 30 Pp.2.2 := by rw [eF36, va_up_ne _ _ (pl_ne hFqm9_33 hFqm15_33 rfl)]; exact hFqm9_33
        have hFqm10_37 : F36 (qm 10) = cI (cy 1) 5 Kr.1 := by rw [eF36, va_up_ne _ _ (pl_ne hFqm10_33 hFqm15_33 rfl)]; exact hFqm10_33
        have hFqm11_37 : F36 (qm 11) = cI (cy 3) 5 Kr.2.1 := by rw [eF36, va_up_ne _ _ (pl_ne hFqm11_33 hFqm15_33 rfl)]; exact hFqm11_33
        have hFqm12_37 : F36 (qm 12) = cI (cy 1) 60 Kr.2.2 := by rw [eF36, va_up_ne _ _ (pl_ne hFqm12_33 hFqm15_33 rfl)]; exact hFqm12_33
        have hFqm13_37 : F36 (qm 13) = cI (cy 1) 4 Bk.1 := by rw [eF36, va_up_ne _ _ (pl_ne hFqm13_33 hFqm15_33 rfl)]; exact hFqm13_33
        have hFqm14_37 : F36 (qm 14) = cD (cy 0) 4 Bk.2 := by rw [eF36, va_up_ne _ _ (pl_ne hFqm14_33 hFqm15_33 rfl)]; exact hFqm14_33
        have hFqm15_37 : F36 (qm 15) = cI (cy 1) 6 (upd Xx.2 1 (Xx.2 1 + 1)) := by rw [eF36]; exact va_up_self _ _ _
        have hr37 := hqr37
        exact W.iret (v := r37) hx hb hr (fun t ht hW => ⟨⟨r37, F36, rfl, (by subst hr37; have hsp : sp_rest Sl Xx (nI j_lg) (nI q_i) k = (-10 - 1, Sl, failX Xx 1) := (by unfold sp_rest; rw [hi_lg]; exact (if_pos hp_i).trans ((if_neg hp0_k).trans (by rw [hp_k]; rfl))); rw [hsp]; exact ⟨rfl, (by exact ⟨⟨_, _, hmo, hFo_37⟩, ⟨hm0, hFqm0_37⟩, ⟨hm1, hFqm1_37⟩, ⟨hm2, hFqm2_37⟩, ⟨hm3, hFqm3_37⟩, ⟨hm4, hFqm4_37⟩, ⟨hm5, hFqm5_37⟩, ⟨hm6, hFqm6_37⟩, ⟨hm7, hFqm7_37⟩, ⟨hm8, hFqm8_37⟩, ⟨hm9, hFqm9_37⟩, ⟨hm10, hFqm10_37⟩, ⟨hm11, hFqm11_37⟩, ⟨hm12, hFqm12_37⟩, ⟨hm13, hFqm13_37⟩, ⟨hm14, hFqm14_37⟩, ⟨hm15, hFqm15_37⟩, hne⟩)⟩), (by show va_P _ _ _ t.heap; rw [ht]; exact hP)⟩, hS.F ht⟩) hS.2.2 dX9_rest_151
      · have hp0_k : ¬ pl0 (Sl.1 j_lg) k = 0 := by rw [hp_k]; decide
        refine lv_aload_n hx hb dX9_rest_0 rfl (lv_at hl 0 rfl) ?_
        refine lv_iconst (v := 0) hx hb dX9_rest_1 (by decide) ?_
        refine pg_put (ci := 8) (v := .int 0) (ty := .int) (C := RX9) (T := TX9) (N := 20) hx hb hts hinX9 tyX9 tyX9_ok nmX9 hown hK hP hD hS hmo hFo rfl 0 (by decide) (hts (.fieldLink RX9 61 "RopeDrumsModel" "thrown" "I") (by decide +kernel)) (fun _ h9 => h9) rfl (by decide +kernel) (rfl) (rfl) (Nat.le_of_ble_eq_true rfl) dX9_rest_2 (fun H locs F38 eF38 hP hS => ?_)
        have eF38 : F38 = va_up F o (.inr (8, [.int 0, .ref (qm 0), .ref (qm 1), .ref (qm 2), .ref (qm 3), .ref (qm 4), .ref (qm 5), .ref (qm 6), .ref (qm 7), .int Pp.1, .ref (qm 8), .ref (qm 9), .ref (qm 10), .ref (qm 11), .ref (qm 12), .ref (qm 13), .ref (qm 14), .int Xx.1, .ref (qm 15), .long oc])) := eF38
        have hFo_38 : F38 o = .inr (8, [.int 0, .ref (qm 0), .ref (qm 1), .ref (qm 2), .ref (qm 3), .ref (qm 4), .ref (qm 5), .ref (qm 6), .ref (qm 7), .int Pp.1, .ref (qm 8), .ref (qm 9), .ref (qm 10), .ref (qm 11), .ref (qm 12), .ref (qm 13), .ref (qm 14), .int Xx.1, .ref (qm 15), .long oc]) := by rw [eF38]; exact va_up_self _ _ _
        have hFqm0_38 : F38 (qm 0) = cI (cy 1) 10 Mm.1 := by rw [eF38, va_up_ne _ _ (pl_ne hF0 hFo rfl)]; exact hF0
        have hFqm1_38 : F38 (qm 1) = cJ (cy 2) 10 Mm.2 := by rw [eF38, va_up_ne _ _ (pl_ne hF1 hFo rfl)]; exact hF1
        have hFqm2_38 : F38 (qm 2) = cD (cy 0) 6 Dd.1 := by rw [eF38, va_up_ne _ _ (pl_ne hF2 hFo rfl)]; exact hF2
        have hFqm3_38 : F38 (qm 3) = cD (cy 0) 6 Dd.2.1 := by rw [eF38, va_up_ne _ _ (pl_ne hF3 hFo rfl)]; exact hF3
        have hFqm4_38 : F38 (qm 4) = cD (cy 0) 6 Dd.2.2.1 := by rw [eF38, va_up_ne _ _ (pl_ne hF4 hFo rfl)]; exact hF4
        have hFqm5_38 : F38 (qm 5) = cJ (cy 2) 6 Dd.2.2.2 := by rw [eF38, va_up_ne _ _ (pl_ne hF5 hFo rfl)]; exact hF5
        have hFqm6_38 : F38 (qm 6) = cI (cy 1) 8 Sl.1 := by rw [eF38, va_up_ne _ _ (pl_ne hF6 hFo rfl)]; exact hF6
        have hFqm7_38 : F38 (qm 7) = cJ (cy 2) 128 Sl.2 := by rw [eF38, va_up_ne _ _ (pl_ne hF7 hFo rfl)]; exact hF7
        have hFqm8_38 : F38 (qm 8) = cI (cy 1) 30 Pp.2.1 := by rw [eF38, va_up_ne _ _ (pl_ne hF8 hFo rfl)]; exact hF8
        have hFqm9_38 : F38 (qm 9) = cI (cy 3) 30 Pp.2.2 := by rw [eF38, va_up_ne _ _ (pl_ne hF9 hFo rfl)]; exact hF9
        have hFqm10_38 : F38 (qm 10) = cI (cy 1) 5 Kr.1 := by rw [eF38, va_up_ne _ _ (pl_ne hF10 hFo rfl)]; exact hF10
        have hFqm11_38 : F38 (qm 11) = cI (cy 3) 5 Kr.2.1 := by rw [eF38, va_up_ne _ _ (pl_ne hF11 hFo rfl)]; exact hF11
        have hFqm12_38 : F38 (qm 12) = cI (cy 1) 60 Kr.2.2 := by rw [eF38, va_up_ne _ _ (pl_ne hF12 hFo rfl)]; exact hF12
        have hFqm13_38 : F38 (qm 13) = cI (cy 1) 4 Bk.1 := by rw [eF38, va_up_ne _ _ (pl_ne hF13 hFo rfl)]; exact hF13
        have hFqm14_38 : F38 (qm 14) = cD (cy 0) 4 Bk.2 := by rw [eF38, va_up_ne _ _ (pl_ne hF14 hFo rfl)]; exact hF14
        have hFqm15_38 : F38 (qm 15) = cI (cy 1) 6 Xx.2 := by rw [eF38, va_up_ne _ _ (pl_ne hF15 hFo rfl)]; exact hF15
        refine lv_iload_n hx hb dX9_rest_5 rfl (lv_at hl 1 rfl) ?_
        refine vp_callSi (W.runS (As := [.int (nI j_lg)]) (rest := []) ⟨hx, hb, hml, hown, hts⟩ (c9_isLog l (nI j_lg)) (va_cwS 1 hts gX9_rest_X9_isLog rfl rfl rfl (by decide +kernel) ⟨Nat.le_of_ble_eq_true rfl, Nat.le_of_ble_eq_true rfl⟩) (preS_of okT (trivial)) rfl rfl hl.1 rfl (lv_room (Nat.le_of_ble_eq_true rfl)) dX9_rest_6 ⟨Nat.le_of_ble_eq_true rfl, Nat.le_of_ble_eq_true rfl⟩) (fun r39 hr39 => ?_)
        rw [isx1 hi_lg] at hr39
        subst hr39
        refine lv_if_ne (tgt := 16) hx hb dX9_rest_9 (by decide) (fun c40 => ?_) (fun c40 => absurd c40 (by decide))
        refine lv_aload_n hx hb dX9_rest_16 rfl (lv_at hl 0 rfl) ?_
        refine lv_aload_n hx hb dX9_rest_17 rfl (lv_at hl 0 rfl) ?_
        refine lv_iload_n hx hb dX9_rest_18 rfl (lv_at hl 1 rfl) ?_
        refine lv_iload_n hx hb dX9_rest_19 rfl (lv_at hl 2 rfl) ?_
        refine vp_callSi (W.runV (As := [.int (nI j_lg), .int (nI q_i)]) (rest := [.ref o]) ⟨hx, hb, hml, hown, hts⟩ (c9_logCause l G cy L F38 o qm 0 Pp.1 Xx.1 oc hmo hFo_38 Sl.1 hm6 hFqm6_38 j_lg hj_lg (nI q_i) ((hVS j_lg hj_lg).1)) (cwV 2 hts gX9_rest_X9_logCause rfl rfl rfl (by decide +kernel) ⟨Nat.le_of_ble_eq_true rfl, Nat.le_of_ble_eq_true rfl⟩) (preV_of okP (⟨hP, hK, hD.top⟩) (pl_recv hK hP (ci := 8) rfl hmo hFo_38)) rfl rfl hl.1 rfl (lv_room (Nat.le_of_ble_eq_true rfl)) dX9_rest_20 ⟨Nat.le_of_ble_eq_true rfl, Nat.le_of_ble_eq_true rfl⟩) (fun r41 hr41 => ?_)
        rw [hp_i] at hr41
        have hzr41 : r41 = 0 := hr41
        clear hr41
        subst hzr41
        refine pg_put (ci := 8) (v := .int 0) (ty := .int) (C := RX9) (T := TX9) (N := 20) hx hb hts hinX9 tyX9 tyX9_ok nmX9 hown hK hP hD hS hmo hFo_38 rfl 17 (by decide) (hts (.fieldLink RX9 65 "RopeDrumsModel" "failed" "I") (by decide +kernel)) (fun _ h9 => h9) rfl (by decide +kernel) (rfl) (rfl) (Nat.le_of_ble_eq_true rfl) dX9_rest_23 (fun H locs F42 eF42 hP hS => ?_)
        have eF42 : F42 = va_up F38 o (.inr (8, [.int 0, .ref (qm 0), .ref (qm 1), .ref (qm 2), .ref (qm 3), .ref (qm 4), .ref (qm 5), .ref (qm 6), .ref (qm 7), .int Pp.1, .ref (qm 8), .ref (qm 9), .ref (qm 10), .ref (qm 11), .ref (qm 12), .ref (qm 13), .ref (qm 14), .int 0, .ref (qm 15), .long oc])) := eF42
        have hFo_42 : F42 o = .inr (8, [.int 0, .ref (qm 0), .ref (qm 1), .ref (qm 2), .ref (qm 3), .ref (qm 4), .ref (qm 5), .ref (qm 6), .ref (qm 7), .int Pp.1, .ref (qm 8), .ref (qm 9), .ref (qm 10), .ref (qm 11), .ref (qm 12), .ref (qm 13), .ref (qm 14), .int 0, .ref (qm 15), .long oc]) := by rw [eF42]; exact va_up_self _ _ _
        have hFqm0_42 : F42 (qm 0) = cI (cy 1) 10 Mm.1 := by rw [eF42, va_up_ne _ _ (pl_ne hFqm0_38 hFo_38 rfl)]; exact hFqm0_38
        have hFqm1_42 : F42 (qm 1) = cJ (cy 2) 10 Mm.2 := by rw [eF42, va_up_ne _ _ (pl_ne hFqm1_38 hFo_38 rfl)]; exact hFqm1_38
        have hFqm2_42 : F42 (qm 2) = cD (cy 0) 6 Dd.1 := by rw [eF42, va_up_ne _ _ (pl_ne hFqm2_38 hFo_38 rfl)]; exact hFqm2_38
        have hFqm3_42 : F42 (qm 3) = cD (cy 0) 6 Dd.2.1 := by rw [eF42, va_up_ne _ _ (pl_ne hFqm3_38 hFo_38 rfl)]; exact hFqm3_38
        have hFqm4_42 : F42 (qm 4) = cD (cy 0) 6 Dd.2.2.1 := by rw [eF42, va_up_ne _ _ (pl_ne hFqm4_38 hFo_38 rfl)]; exact hFqm4_38
        have hFqm5_42 : F42 (qm 5) = cJ (cy 2) 6 Dd.2.2.2 := by rw [eF42, va_up_ne _ _ (pl_ne hFqm5_38 hFo_38 rfl)]; exact hFqm5_38
        have hFqm6_42 : F42 (qm 6) = cI (cy 1) 8 Sl.1 := by rw [eF42, va_up_ne _ _ (pl_ne hFqm6_38 hFo_38 rfl)]; exact hFqm6_38
        have hFqm7_42 : F42 (qm 7) = cJ (cy 2) 128 Sl.2 := by rw [eF42, va_up_ne _ _ (pl_ne hFqm7_38 hFo_38 rfl)]; exact hFqm7_38
        have hFqm8_42 : F42 (qm 8) = cI (cy 1) 30 Pp.2.1 := by rw [eF42, va_up_ne _ _ (pl_ne hFqm8_38 hFo_38 rfl)]; exact hFqm8_38
        have hFqm9_42 : F42 (qm 9) = cI (cy 3) 30 Pp.2.2 := by rw [eF42, va_up_ne _ _ (pl_ne hFqm9_38 hFo_38 rfl)]; exact hFqm9_38
        have hFqm10_42 : F42 (qm 10) = cI (cy 1) 5 Kr.1 := by rw [eF42, va_up_ne _ _ (pl_ne hFqm10_38 hFo_38 rfl)]; exact hFqm10_38
        have hFqm11_42 : F42 (qm 11) = cI (cy 3) 5 Kr.2.1 := by rw [eF42, va_up_ne _ _ (pl_ne hFqm11_38 hFo_38 rfl)]; exact hFqm11_38
        have hFqm12_42 : F42 (qm 12) = cI (cy 1) 60 Kr.2.2 := by rw [eF42, va_up_ne _ _ (pl_ne hFqm12_38 hFo_38 rfl)]; exact hFqm12_38
        have hFqm13_42 : F42 (qm 13) = cI (cy 1) 4 Bk.1 := by rw [eF42, va_up_ne _ _ (pl_ne hFqm13_38 hFo_38 rfl)]; exact hFqm13_38
        have hFqm14_42 : F42 (qm 14) = cD (cy 0) 4 Bk.2 := by rw [eF42, va_up_ne _ _ (pl_ne hFqm14_38 hFo_38 rfl)]; exact hFqm14_38
        have hFqm15_42 : F42 (qm 15) = cI (cy 1) 6 Xx.2 := by rw [eF42, va_up_ne _ _ (pl_ne hFqm15_38 hFo_38 rfl)]; exact hFqm15_38
        refine lv_aload_n hx hb dX9_rest_26 rfl (lv_at hl 0 rfl) ?_
        refine lv_aload_n hx hb dX9_rest_27 rfl (lv_at hl 0 rfl) ?_
        refine pg_get (ci := 8) (C := RX9) (T := TX9) (N := 20) hx hb hts hinX9 hown hK hP hmo hFo_42 rfl 17 (by decide) (hts (.fieldLink RX9 65 "RopeDrumsModel" "failed" "I") (by decide +kernel)) (fun _ h9 => h9) rfl dX9_rest_28 ?_
        refine lv_if_ne (tgt := 43) hx hb dX9_rest_31 (by decide) (fun c43 => absurd (by decide) c43) (fun c43 => ?_)
        refine lv_aload_n hx hb dX9_rest_34 rfl (lv_at hl 0 rfl) ?_
        refine lv_iload_n hx hb dX9_rest_35 rfl (lv_at hl 1 rfl) ?_
        refine lv_iload_n hx hb dX9_rest_36 rfl (lv_at hl 3 rfl) ?_
        refine vp_callSi (W.runV (As := [.int (nI j_lg), .int k]) (rest := [.ref o]) ⟨hx, hb, hml, hown, hts⟩ (c9_logCause l G cy L F42 o qm 0 Pp.1 0 oc hmo hFo_42 Sl.1 hm6 hFqm6_42 j_lg hj_lg k ((hVS j_lg hj_lg).1)) (cwV 2 hts gX9_rest_X9_logCause rfl rfl rfl (by decide +kernel) ⟨Nat.le_of_ble_eq_true rfl, Nat.le_of_ble_eq_true rfl⟩) (preV_of okP (⟨hP, hK, hD.top⟩) (pl_recv hK hP (ci := 8) rfl hmo hFo_42)) rfl rfl hl.1 rfl (lv_room (Nat.le_of_ble_eq_true rfl)) dX9_rest_37 ⟨Nat.le_of_ble_eq_true rfl, Nat.le_of_ble_eq_true rfl⟩) (fun r44 hr44 => ?_)
        rw [hp_k] at hr44
        have hzr44 : r44 = 2 := hr44
        clear hr44
        subst hzr44
        refine lv_goto (tgt := 47) hx hb dX9_rest_40 (by decide) ?_
        refine pg_put (ci := 8) (v := .int 2) (ty := .int) (C := RX9) (T := TX9) (N := 20) hx hb hts hinX9 tyX9 tyX9_ok nmX9 hown hK hP hD hS hmo hFo_42 rfl 17 (by decide) (hts (.fieldLink RX9 65 "RopeDrumsModel" "failed" "I") (by decide +kernel)) (fun _ h9 => h9) rfl (by decide +kernel) (rfl) (rfl) (Nat.le_of_ble_eq_true rfl) dX9_rest_47 (fun H locs F45 eF45 hP hS => ?_)
        have eF45 : F45 = va_up F42 o (.inr (8, [.int 0, .ref (qm 0), .ref (qm 1), .ref (qm 2), .ref (qm 3), .ref (qm 4), .ref (qm 5), .ref (qm 6), .ref (qm 7), .int Pp.1, .ref (qm 8), .ref (qm 9), .ref (qm 10), .ref (qm 11), .ref (qm 12), .ref (qm 13), .ref (qm 14), .int 2, .ref (qm 15), .long oc])) := eF45
        have hFo_45 : F45 o = .inr (8, [.int 0, .ref (qm 0), .ref (qm 1), .ref (qm 2), .ref (qm 3), .ref (qm 4), .ref (qm 5), .ref (qm 6), .ref (qm 7), .int Pp.1, .ref (qm 8), .ref (qm 9), .ref (qm 10), .ref (qm 11), .ref (qm 12), .ref (qm 13), .ref (qm 14), .int 2, .ref (qm 15), .long oc]) := by rw [eF45]; exact va_up_self _ _ _
        have hFqm0_45 : F45 (qm 0) = cI (cy 1) 10 Mm.1 := by rw [eF45, va_up_ne _ _ (pl_ne hFqm0_42 hFo_42 rfl)]; exact hFqm0_42
        have hFqm1_45 : F45 (qm 1) = cJ (cy 2) 10 Mm.2 := by rw [eF45, va_up_ne _ _ (pl_ne hFqm1_42 hFo_42 rfl)]; exact hFqm1_42
        have hFqm2_45 : F45 (qm 2) = cD (cy 0) 6 Dd.1 := by rw [eF45, va_up_ne _ _ (pl_ne hFqm2_42 hFo_42 rfl)]; exact hFqm2_42
        have hFqm3_45 : F45 (qm 3) = cD (cy 0) 6 Dd.2.1 := by rw [eF45, va_up_ne _ _ (pl_ne hFqm3_42 hFo_42 rfl)]; exact hFqm3_42
        have hFqm4_45 : F45 (qm 4) = cD (cy 0) 6 Dd.2.2.1 := by rw [eF45, va_up_ne _ _ (pl_ne hFqm4_42 hFo_42 rfl)]; exact hFqm4_42
        have hFqm5_45 : F45 (qm 5) = cJ (cy 2) 6 Dd.2.2.2 := by rw [eF45, va_up_ne _ _ (pl_ne hFqm5_42 hFo_42 rfl)]; exact hFqm5_42
        have hFqm6_45 : F45 (qm 6) = cI (cy 1) 8 Sl.1 := by rw [eF45, va_up_ne _ _ (pl_ne hFqm6_42 hFo_42 rfl)]; exact hFqm6_42
        have hFqm7_45 : F45 (qm 7) = cJ (cy 2) 128 Sl.2 := by rw [eF45, va_up_ne _ _ (pl_ne hFqm7_42 hFo_42 rfl)]; exact hFqm7_42
        have hFqm8_45 : F45 (qm 8) = cI (cy 1) 30 Pp.2.1 := by rw [eF45, va_up_ne _ _ (pl_ne hFqm8_42 hFo_42 rfl)]; exact hFqm8_42
        have hFqm9_45 : F45 (qm 9) = cI (cy 3) 30 Pp.2.2 := by rw [eF45, va_up_ne _ _ (pl_ne hFqm9_42 hFo_42 rfl)]; exact hFqm9_42
        have hFqm10_45 : F45 (qm 10) = cI (cy 1) 5 Kr.1 := by rw [eF45, va_up_ne _ _ (pl_ne hFqm10_42 hFo_42 rfl)]; exact hFqm10_42
        have hFqm11_45 : F45 (qm 11) = cI (cy 3) 5 Kr.2.1 := by rw [eF45, va_up_ne _ _ (pl_ne hFqm11_42 hFo_42 rfl)]; exact hFqm11_42
        have hFqm12_45 : F45 (qm 12) = cI (cy 1) 60 Kr.2.2 := by rw [eF45, va_up_ne _ _ (pl_ne hFqm12_42 hFo_42 rfl)]; exact hFqm12_42
        have hFqm13_45 : F45 (qm 13) = cI (cy 1) 4 Bk.1 := by rw [eF45, va_up_ne _ _ (pl_ne hFqm13_42 hFo_42 rfl)]; exact hFqm13_42
        have hFqm14_45 : F45 (qm 14) = cD (cy 0) 4 Bk.2 := by rw [eF45, va_up_ne _ _ (pl_ne hFqm14_42 hFo_42 rfl)]; exact hFqm14_42
        have hFqm15_45 : F45 (qm 15) = cI (cy 1) 6 Xx.2 := by rw [eF45, va_up_ne _ _ (pl_ne hFqm15_42 hFo_42 rfl)]; exact hFqm15_42
        refine lv_aload_n hx hb dX9_rest_50 rfl (lv_at hl 0 rfl) ?_
        refine pg_get (ci := 8) (C := RX9) (T := TX9) (N := 20) hx hb hts hinX9 hown hK hP hmo hFo_45 rfl 17 (by decide) (hts (.fieldLink RX9 65 "RopeDrumsModel" "failed" "I") (by decide +kernel)) (fun _ h9 => h9) rfl dX9_rest_51 ?_
        refine lv_if_ne (tgt := 124) hx hb dX9_rest_54 (by decide) (fun c46 => ?_) (fun c46 => absurd c46 (by decide))
        refine lv_aload_n hx hb dX9_rest_124 rfl (lv_at hl 0 rfl) ?_
        refine pg_get (ci := 8) (C := RX9) (T := TX9) (N := 20) hx hb hts hinX9 hown hK hP hmo hFo_45 rfl 17 (by decide) (hts (.fieldLink RX9 65 "RopeDrumsModel" "failed" "I") (by decide +kernel)) (fun _ h9 => h9) rfl dX9_rest_125 ?_
        refine lv_if_ne (tgt := 146) hx hb dX9_rest_128 (by decide) (fun c47 => ?_) (fun c47 => absurd c47 (by decide))
        refine lv_aload_n hx hb dX9_rest_146 rfl (lv_at hl 0 rfl) ?_
        refine lv_iconst (v := 1) hx hb dX9_rest_147 (by decide) ?_
        refine va_calli (va_runV (As := [.int 1]) (rest := []) ⟨hx, hb, hml, hown, hts⟩ (c9_answers_2 l G cy L F45 H.size o qm 0 Pp.1 oc hmo hFo_45 Xx.2 hm15 hFqm15_45 1) (cwV 1 hts gX9_rest_X9_answers rfl rfl rfl (by decide +kernel) ⟨Nat.le_of_ble_eq_true rfl, Nat.le_of_ble_eq_true rfl⟩) (preV_of okQ (⟨rfl, hP, hK, hD.top⟩) (pl_recv hK hP (ci := 8) rfl hmo hFo_45)) rfl rfl hl.1 rfl (lv_room (Nat.le_of_ble_eq_true rfl)) dX9_rest_148 ⟨Nat.le_of_ble_eq_true rfl, Nat.le_of_ble_eq_true rfl⟩) hS (fun q _ h => pl_free hD hS hA q h) (pl_free hD hS hA) (fun r49 F48 t H1 locs ht hvm hw hP1 hz1 hk1 hS => ?_)
        have hP1 : va_P G vwCl (va_pl L F48) t.heap := hP1
        rw [ht] at hP1
        have hP := hP1
        generalize H1 = H at hP hS ⊢
        obtain ⟨hqr49, eF48⟩ := hw
        have eF48 : F48 = va_up F45 (qm 15) (cI (cy 1) 6 (upd Xx.2 2 (Xx.2 2 + 1))) := eF48
        have hFo_49 : F48 o = .inr (8, [.int 0, .ref (qm 0), .ref (qm 1), .ref (qm 2), .ref (qm 3), .ref (qm 4), .ref (qm 5), .ref (qm 6), .ref (qm 7), .int Pp.1, .ref (qm 8), .ref (qm 9), .ref (qm 10), .ref (qm 11), .ref (qm 12), .ref (qm 13), .ref (qm 14), .int 2, .ref (qm 15), .long oc]) := by rw [eF48, va_up_ne _ _ (pl_ne hFo_45 hFqm15_45 rfl)]; exact hFo_45
        have hFqm0_49 : F48 (qm 0) = cI (cy 1) 10 Mm.1 := by rw [eF48, va_up_ne _ _ (pl_ne hFqm0_45 hFqm15_45 rfl)]; exact hFqm0_45
        have hFqm1_49 : F48 (qm 1) = cJ (cy 2) 10 Mm.2 := by rw [eF48, va_up_ne _ _ (pl_ne hFqm1_45 hFqm15_45 rfl)]; exact hFqm1_45
        have hFqm2_49 : F48 (qm 2) = cD (cy 0) 6 Dd.1 := by rw [eF48, va_up_ne _ _ (pl_ne hFqm2_45 hFqm15_45 rfl)]; exact hFqm2_45
        have hFqm3_49 : F48 (qm 3) = cD (cy 0) 6 Dd.2.1 := by rw [eF48, va_up_ne _ _ (pl_ne hFqm3_45 hFqm15_45 rfl)]; exact hFqm3_45
        have hFqm4_49 : F48 (qm 4) = cD (cy 0) 6 Dd.2.2.1 := by rw [eF48, va_up_ne _ _ (pl_ne hFqm4_45 hFqm15_45 rfl)]; exact hFqm4_45
        have hFqm5_49 : F48 (qm 5) = cJ (cy 2) 6 Dd.2.2.2 := by rw [eF48, va_up_ne _ _ (pl_ne hFqm5_45 hFqm15_45 rfl)]; exact hFqm5_45
        have hFqm6_49 : F48 (qm 6) = cI (cy 1) 8 Sl.1 := by rw [eF48, va_up_ne _ _ (pl_ne hFqm6_45 hFqm15_45 rfl)]; exact hFqm6_45
        have hFqm7_49 : F48 (qm 7) = cJ (cy 2) 128 Sl.2 := by rw [eF48, va_up_ne _ _ (pl_ne hFqm7_45 hFqm15_45 rfl)]; exact hFqm7_45
        have hFqm8_49 : F48 (qm 8) = cI (cy 1) 30 Pp.2.1 := by rw [eF48, va_up_ne _ _ (pl_ne hFqm8_45 hFqm15_45 rfl)]; exact hFqm8_45
        have hFqm9_49 : F48 (qm 9) = cI (cy 3) 30 Pp.2.2 := by rw [eF48, va_up_ne _ _ (pl_ne hFqm9_45 hFqm15_45 rfl)]; exact hFqm9_45
        have hFqm10_49 : F48 (qm 10) = cI (cy 1) 5 Kr.1 := by rw [eF48, va_up_ne _ _ (pl_ne hFqm10_45 hFqm15_45 rfl)]; exact hFqm10_45
        have hFqm11_49 : F48 (qm 11) = cI (cy 3) 5 Kr.2.1 := by rw [eF48, va_up_ne _ _ (pl_ne hFqm11_45 hFqm15_45 rfl)]; exact hFqm11_45
        have hFqm12_49 : F48 (qm 12) = cI (cy 1) 60 Kr.2.2 := by rw [eF48, va_up_ne _ _ (pl_ne hFqm12_45 hFqm15_45 rfl)]; exact hFqm12_45
        have hFqm13_49 : F48 (qm 13) = cI (cy 1) 4 Bk.1 := by rw [eF48, va_up_ne _ _ (pl_ne hFqm13_45 hFqm15_45 rfl)]; exact hFqm13_45
        have hFqm14_49 : F48 (qm 14) = cD (cy 0) 4 Bk.2 := by rw [eF48, va_up_ne _ _ (pl_ne hFqm14_45 hFqm15_45 rfl)]; exact hFqm14_45
        have hFqm15_49 : F48 (qm 15) = cI (cy 1) 6 (upd Xx.2 2 (Xx.2 2 + 1)) := by rw [eF48]; exact va_up_self _ _ _
        have hr49 := hqr49
        exact W.iret (v := r49) hx hb hr (fun t ht hW => ⟨⟨r49, F48, rfl, (by subst hr49; have hsp : sp_rest Sl Xx (nI j_lg) (nI q_i) k = (-10 - 2, Sl, failX Xx 2) := (by unfold sp_rest; rw [hi_lg]; exact (if_pos hp_i).trans ((if_neg hp0_k).trans (by rw [hp_k]; rfl))); rw [hsp]; exact ⟨rfl, (by exact ⟨⟨_, _, hmo, hFo_49⟩, ⟨hm0, hFqm0_49⟩, ⟨hm1, hFqm1_49⟩, ⟨hm2, hFqm2_49⟩, ⟨hm3, hFqm3_49⟩, ⟨hm4, hFqm4_49⟩, ⟨hm5, hFqm5_49⟩, ⟨hm6, hFqm6_49⟩, ⟨hm7, hFqm7_49⟩, ⟨hm8, hFqm8_49⟩, ⟨hm9, hFqm9_49⟩, ⟨hm10, hFqm10_49⟩, ⟨hm11, hFqm11_49⟩, ⟨hm12, hFqm12_49⟩, ⟨hm13, hFqm13_49⟩, ⟨hm14, hFqm14_49⟩, ⟨hm15, hFqm15_49⟩, hne⟩)⟩), (by show va_P _ _ _ t.heap; rw [ht]; exact hP)⟩, hS.F ht⟩) hS.2.2 dX9_rest_151
      · subst ei_k
        by_cases hl2 : lw j_lg = 2
        · by_cases hnan0 : FP.Core.fIsNaN (FP.frem (fl (Sl.2 (16 * j_lg + q_i))) (fl (Sl.2 (16 * j_lg + q_k)))) = true
          · have hnan := hnan0
            refine lv_aload_n hx hb dX9_rest_0 rfl (lv_at hl 0 rfl) ?_
            refine lv_iconst (v := 0) hx hb dX9_rest_1 (by decide) ?_
            refine pg_put (ci := 8) (v := .int 0) (ty := .int) (C := RX9) (T := TX9) (N := 20) hx hb hts hinX9 tyX9 tyX9_ok nmX9 hown hK hP hD hS hmo hFo rfl 0 (by decide) (hts (.fieldLink RX9 61 "RopeDrumsModel" "thrown" "I") (by decide +kernel)) (fun _ h9 => h9) rfl (by decide +kernel) (rfl) (rfl) (Nat.le_of_ble_eq_true rfl) dX9_rest_2 (fun H locs F50 eF50 hP hS => ?_)
            have eF50 : F50 = va_up F o (.inr (8, [.int 0, .ref (qm 0), .ref (qm 1), .ref (qm 2), .ref (qm 3), .ref (qm 4), .ref (qm 5), .ref (qm 6), .ref (qm 7), .int Pp.1, .ref (qm 8), .ref (qm 9), .ref (qm 10), .ref (qm 11), .ref (qm 12), .ref (qm 13), .ref (qm 14), .int Xx.1, .ref (qm 15), .long oc])) := eF50
            have hFo_50 : F50 o = .inr (8, [.int 0, .ref (qm 0), .ref (qm 1), .ref (qm 2), .ref (qm 3), .ref (qm 4), .ref (qm 5), .ref (qm 6), .ref (qm 7), .int Pp.1, .ref (qm 8), .ref (qm 9), .ref (qm 10), .ref (qm 11), .ref (qm 12), .ref (qm 13), .ref (qm 14), .int Xx.1, .ref (qm 15), .long oc]) := by rw [eF50]; exact va_up_self _ _ _
            have hFqm0_50 : F50 (qm 0) = cI (cy 1) 10 Mm.1 := by rw [eF50, va_up_ne _ _ (pl_ne hF0 hFo rfl)]; exact hF0
            have hFqm1_50 : F50 (qm 1) = cJ (cy 2) 10 Mm.2 := by rw [eF50, va_up_ne _ _ (pl_ne hF1 hFo rfl)]; exact hF1
            have hFqm2_50 : F50 (qm 2) = cD (cy 0) 6 Dd.1 := by rw [eF50, va_up_ne _ _ (pl_ne hF2 hFo rfl)]; exact hF2
            have hFqm3_50 : F50 (qm 3) = cD (cy 0) 6 Dd.2.1 := by rw [eF50, va_up_ne _ _ (pl_ne hF3 hFo rfl)]; exact hF3
            have hFqm4_50 : F50 (qm 4) = cD (cy 0) 6 Dd.2.2.1 := by rw [eF50, va_up_ne _ _ (pl_ne hF4 hFo rfl)]; exact hF4
            have hFqm5_50 : F50 (qm 5) = cJ (cy 2) 6 Dd.2.2.2 := by rw [eF50, va_up_ne _ _ (pl_ne hF5 hFo rfl)]; exact hF5
            have hFqm6_50 : F50 (qm 6) = cI (cy 1) 8 Sl.1 := by rw [eF50, va_up_ne _ _ (pl_ne hF6 hFo rfl)]; exact hF6
            have hFqm7_50 : F50 (qm 7) = cJ (cy 2) 128 Sl.2 := by rw [eF50, va_up_ne _ _ (pl_ne hF7 hFo rfl)]; exact hF7
            have hFqm8_50 : F50 (qm 8) = cI (cy 1) 30 Pp.2.1 := by rw [eF50, va_up_ne _ _ (pl_ne hF8 hFo rfl)]; exact hF8
            have hFqm9_50 : F50 (qm 9) = cI (cy 3) 30 Pp.2.2 := by rw [eF50, va_up_ne _ _ (pl_ne hF9 hFo rfl)]; exact hF9
            have hFqm10_50 : F50 (qm 10) = cI (cy 1) 5 Kr.1 := by rw [eF50, va_up_ne _ _ (pl_ne hF10 hFo rfl)]; exact hF10
            have hFqm11_50 : F50 (qm 11) = cI (cy 3) 5 Kr.2.1 := by rw [eF50, va_up_ne _ _ (pl_ne hF11 hFo rfl)]; exact hF11
            have hFqm12_50 : F50 (qm 12) = cI (cy 1) 60 Kr.2.2 := by rw [eF50, va_up_ne _ _ (pl_ne hF12 hFo rfl)]; exact hF12
            have hFqm13_50 : F50 (qm 13) = cI (cy 1) 4 Bk.1 := by rw [eF50, va_up_ne _ _ (pl_ne hF13 hFo rfl)]; exact hF13
            have hFqm14_50 : F50 (qm 14) = cD (cy 0) 4 Bk.2 := by rw [eF50, va_up_ne _ _ (pl_ne hF14 hFo rfl)]; exact hF14
            have hFqm15_50 : F50 (qm 15) = cI (cy 1) 6 Xx.2 := by rw [eF50, va_up_ne _ _ (pl_ne hF15 hFo rfl)]; exact hF15
            refine lv_iload_n hx hb dX9_rest_5 rfl (lv_at hl 1 rfl) ?_
            refine vp_callSi (W.runS (As := [.int (nI j_lg)]) (rest := []) ⟨hx, hb, hml, hown, hts⟩ (c9_isLog l (nI j_lg)) (va_cwS 1 hts gX9_rest_X9_isLog rfl rfl rfl (by decide +kernel) ⟨Nat.le_of_ble_eq_true rfl, Nat.le_of_ble_eq_true rfl⟩) (preS_of okT (trivial)) rfl rfl hl.1 rfl (lv_room (Nat.le_of_ble_eq_true rfl)) dX9_rest_6 ⟨Nat.le_of_ble_eq_true rfl, Nat.le_of_ble_eq_true rfl⟩) (fun r51 hr51 => ?_)
            rw [isx1 hi_lg] at hr51
            subst hr51
            refine lv_if_ne (tgt := 16) hx hb dX9_rest_9 (by decide) (fun c52 => ?_) (fun c52 => absurd c52 (by decide))
            refine lv_aload_n hx hb dX9_rest_16 rfl (lv_at hl 0 rfl) ?_
            refine lv_aload_n hx hb dX9_rest_17 rfl (lv_at hl 0 rfl) ?_
            refine lv_iload_n hx hb dX9_rest_18 rfl (lv_at hl 1 rfl) ?_
            refine lv_iload_n hx hb dX9_rest_19 rfl (lv_at hl 2 rfl) ?_
            refine vp_callSi (W.runV (As := [.int (nI j_lg), .int (nI q_i)]) (rest := [.ref o]) ⟨hx, hb, hml, hown, hts⟩ (c9_logCause l G cy L F50 o qm 0 Pp.1 Xx.1 oc hmo hFo_50 Sl.1 hm6 hFqm6_50 j_lg hj_lg (nI q_i) ((hVS j_lg hj_lg).1)) (cwV 2 hts gX9_rest_X9_logCause rfl rfl rfl (by decide +kernel) ⟨Nat.le_of_ble_eq_true rfl, Nat.le_of_ble_eq_true rfl⟩) (preV_of okP (⟨hP, hK, hD.top⟩) (pl_recv hK hP (ci := 8) rfl hmo hFo_50)) rfl rfl hl.1 rfl (lv_room (Nat.le_of_ble_eq_true rfl)) dX9_rest_20 ⟨Nat.le_of_ble_eq_true rfl, Nat.le_of_ble_eq_true rfl⟩) (fun r53 hr53 => ?_)
            rw [hp_i] at hr53
            have hzr53 : r53 = 0 := hr53
            clear hr53
            subst hzr53
            refine pg_put (ci := 8) (v := .int 0) (ty := .int) (C := RX9) (T := TX9) (N := 20) hx hb hts hinX9 tyX9 tyX9_ok nmX9 hown hK hP hD hS hmo hFo_50 rfl 17 (by decide) (hts (.fieldLink RX9 65 "RopeDrumsModel" "failed" "I") (by decide +kernel)) (fun _ h9 => h9) rfl (by decide +kernel) (rfl) (rfl) (Nat.le_of_ble_eq_true rfl) dX9_rest_23 (fun H locs F54 eF54 hP hS => ?_)
            have eF54 : F54 = va_up F50 o (.inr (8, [.int 0, .ref (qm 0), .ref (qm 1), .ref (qm 2), .ref (qm 3), .ref (qm 4), .ref (qm 5), .ref (qm 6), .ref (qm 7), .int Pp.1, .ref (qm 8), .ref (qm 9), .ref (qm 10), .ref (qm 11), .ref (qm 12), .ref (qm 13), .ref (qm 14), .int 0, .ref (qm 15), .long oc])) := eF54
            have hFo_54 : F54 o = .inr (8, [.int 0, .ref (qm 0), .ref (qm 1), .ref (qm 2), .ref (qm 3), .ref (qm 4), .ref (qm 5), .ref (qm 6), .ref (qm 7), .int Pp.1, .ref (qm 8), .ref (qm 9), .ref (qm 10), .ref (qm 11), .ref (qm 12), .ref (qm 13), .ref (qm 14), .int 0, .ref (qm 15), .long oc]) := by rw [eF54]; exact va_up_self _ _ _
            have hFqm0_54 : F54 (qm 0) = cI (cy 1) 10 Mm.1 := by rw [eF54, va_up_ne _ _ (pl_ne hFqm0_50 hFo_50 rfl)]; exact hFqm0_50
            have hFqm1_54 : F54 (qm 1) = cJ (cy 2) 10 Mm.2 := by rw [eF54, va_up_ne _ _ (pl_ne hFqm1_50 hFo_50 rfl)]; exact hFqm1_50
            have hFqm2_54 : F54 (qm 2) = cD (cy 0) 6 Dd.1 := by rw [eF54, va_up_ne _ _ (pl_ne hFqm2_50 hFo_50 rfl)]; exact hFqm2_50
            have hFqm3_54 : F54 (qm 3) = cD (cy 0) 6 Dd.2.1 := by rw [eF54, va_up_ne _ _ (pl_ne hFqm3_50 hFo_50 rfl)]; exact hFqm3_50
            have hFqm4_54 : F54 (qm 4) = cD (cy 0) 6 Dd.2.2.1 := by rw [eF54, va_up_ne _ _ (pl_ne hFqm4_50 hFo_50 rfl)]; exact hFqm4_50
            have hFqm5_54 : F54 (qm 5) = cJ (cy 2) 6 Dd.2.2.2 := by rw [eF54, va_up_ne _ _ (pl_ne hFqm5_50 hFo_50 rfl)]; exact hFqm5_50
            have hFqm6_54 : F54 (qm 6) = cI (cy 1) 8 Sl.1 := by rw [eF54, va_up_ne _ _ (pl_ne hFqm6_50 hFo_50 rfl)]; exact hFqm6_50
            have hFqm7_54 : F54 (qm 7) = cJ (cy 2) 128 Sl.2 := by rw [eF54, va_up_ne _ _ (pl_ne hFqm7_50 hFo_50 rfl)]; exact hFqm7_50
            have hFqm8_54 : F54 (qm 8) = cI (cy 1) 30 Pp.2.1 := by rw [eF54, va_up_ne _ _ (pl_ne hFqm8_50 hFo_50 rfl)]; exact hFqm8_50
            have hFqm9_54 : F54 (qm 9) = cI (cy 3) 30 Pp.2.2 := by rw [eF54, va_up_ne _ _ (pl_ne hFqm9_50 hFo_50 rfl)]; exact hFqm9_50
            have hFqm10_54 : F54 (qm 10) = cI (cy 1) 5 Kr.1 := by rw [eF54, va_up_ne _ _ (pl_ne hFqm10_50 hFo_50 rfl)]; exact hFqm10_50
            have hFqm11_54 : F54 (qm 11) = cI (cy 3) 5 Kr.2.1 := by rw [eF54, va_up_ne _ _ (pl_ne hFqm11_50 hFo_50 rfl)]; exact hFqm11_50
            have hFqm12_54 : F54 (qm 12) = cI (cy 1) 60 Kr.2.2 := by rw [eF54, va_up_ne _ _ (pl_ne hFqm12_50 hFo_50 rfl)]; exact hFqm12_50
            have hFqm13_54 : F54 (qm 13) = cI (cy 1) 4 Bk.1 := by rw [eF54, va_up_ne _ _ (pl_ne hFqm13_50 hFo_50 rfl)]; exact hFqm13_50
            have hFqm14_54 : F54 (qm 14) = cD (cy 0) 4 Bk.2 := by rw [eF54, va_up_ne _ _ (pl_ne hFqm14_50 hFo_50 rfl)]; exact hFqm14_50
            have hFqm15_54 : F54 (qm 15) = cI (cy 1) 6 Xx.2 := by rw [eF54, va_up_ne _ _ (pl_ne hFqm15_50 hFo_50 rfl)]; exact hFqm15_50
            refine lv_aload_n hx hb dX9_rest_26 rfl (lv_at hl 0 rfl) ?_
            refine lv_aload_n hx hb dX9_rest_27 rfl (lv_at hl 0 rfl) ?_
            refine pg_get (ci := 8) (C := RX9) (T := TX9) (N := 20) hx hb hts hinX9 hown hK hP hmo hFo_54 rfl 17 (by decide) (hts (.fieldLink RX9 65 "RopeDrumsModel" "failed" "I") (by decide +kernel)) (fun _ h9 => h9) rfl dX9_rest_28 ?_
            refine lv_if_ne (tgt := 43) hx hb dX9_rest_31 (by decide) (fun c55 => absurd (by decide) c55) (fun c55 => ?_)
            refine lv_aload_n hx hb dX9_rest_34 rfl (lv_at hl 0 rfl) ?_
            refine lv_iload_n hx hb dX9_rest_35 rfl (lv_at hl 1 rfl) ?_
            refine lv_iload_n hx hb dX9_rest_36 rfl (lv_at hl 3 rfl) ?_
            refine vp_callSi (W.runV (As := [.int (nI j_lg), .int (nI q_k)]) (rest := [.ref o]) ⟨hx, hb, hml, hown, hts⟩ (c9_logCause l G cy L F54 o qm 0 Pp.1 0 oc hmo hFo_54 Sl.1 hm6 hFqm6_54 j_lg hj_lg (nI q_k) ((hVS j_lg hj_lg).1)) (cwV 2 hts gX9_rest_X9_logCause rfl rfl rfl (by decide +kernel) ⟨Nat.le_of_ble_eq_true rfl, Nat.le_of_ble_eq_true rfl⟩) (preV_of okP (⟨hP, hK, hD.top⟩) (pl_recv hK hP (ci := 8) rfl hmo hFo_54)) rfl rfl hl.1 rfl (lv_room (Nat.le_of_ble_eq_true rfl)) dX9_rest_37 ⟨Nat.le_of_ble_eq_true rfl, Nat.le_of_ble_eq_true rfl⟩) (fun r56 hr56 => ?_)
            rw [hp_k] at hr56
            have hzr56 : r56 = 0 := hr56
            clear hr56
            subst hzr56
            refine lv_goto (tgt := 47) hx hb dX9_rest_40 (by decide) ?_
            refine pg_put (ci := 8) (v := .int 0) (ty := .int) (C := RX9) (T := TX9) (N := 20) hx hb hts hinX9 tyX9 tyX9_ok nmX9 hown hK hP hD hS hmo hFo_54 rfl 17 (by decide) (hts (.fieldLink RX9 65 "RopeDrumsModel" "failed" "I") (by decide +kernel)) (fun _ h9 => h9) rfl (by decide +kernel) (rfl) (rfl) (Nat.le_of_ble_eq_true rfl) dX9_rest_47 (fun H locs F57 eF57 hP hS => ?_)
            have eF57 : F57 = va_up F54 o (.inr (8, [.int 0, .ref (qm 0), .ref (qm 1), .ref (qm 2), .ref (qm 3), .ref (qm 4), .ref (qm 5), .ref (qm 6), .ref (qm 7), .int Pp.1, .ref (qm 8), .ref (qm 9), .ref (qm 10), .ref (qm 11), .ref (qm 12), .ref (qm 13), .ref (qm 14), .int 0, .ref (qm 15), .long oc])) := eF57
            have hFo_57 : F57 o = .inr (8, [.int 0, .ref (qm 0), .ref (qm 1), .ref (qm 2), .ref (qm 3), .ref (qm 4), .ref (qm 5), .ref (qm 6), .ref (qm 7), .int Pp.1, .ref (qm 8), .ref (qm 9), .ref (qm 10), .ref (qm 11), .ref (qm 12), .ref (qm 13), .ref (qm 14), .int 0, .ref (qm 15), .long oc]) := by rw [eF57]; exact va_up_self _ _ _
            have hFqm0_57 : F57 (qm 0) = cI (cy 1) 10 Mm.1 := by rw [eF57, va_up_ne _ _ (pl_ne hFqm0_54 hFo_54 rfl)]; exact hFqm0_54
            have hFqm1_57 : F57 (qm 1) = cJ (cy 2) 10 Mm.2 := by rw [eF57, va_up_ne _ _ (pl_ne hFqm1_54 hFo_54 rfl)]; exact hFqm1_54
            have hFqm2_57 : F57 (qm 2) = cD (cy 0) 6 Dd.1 := by rw [eF57, va_up_ne _ _ (pl_ne hFqm2_54 hFo_54 rfl)]; exact hFqm2_54
            have hFqm3_57 : F57 (qm 3) = cD (cy 0) 6 Dd.2.1 := by rw [eF57, va_up_ne _ _ (pl_ne hFqm3_54 hFo_54 rfl)]; exact hFqm3_54
            have hFqm4_57 : F57 (qm 4) = cD (cy 0) 6 Dd.2.2.1 := by rw [eF57, va_up_ne _ _ (pl_ne hFqm4_54 hFo_54 rfl)]; exact hFqm4_54
            have hFqm5_57 : F57 (qm 5) = cJ (cy 2) 6 Dd.2.2.2 := by rw [eF57, va_up_ne _ _ (pl_ne hFqm5_54 hFo_54 rfl)]; exact hFqm5_54
            have hFqm6_57 : F57 (qm 6) = cI (cy 1) 8 Sl.1 := by rw [eF57, va_up_ne _ _ (pl_ne hFqm6_54 hFo_54 rfl)]; exact hFqm6_54
            have hFqm7_57 : F57 (qm 7) = cJ (cy 2) 128 Sl.2 := by rw [eF57, va_up_ne _ _ (pl_ne hFqm7_54 hFo_54 rfl)]; exact hFqm7_54
            have hFqm8_57 : F57 (qm 8) = cI (cy 1) 30 Pp.2.1 := by rw [eF57, va_up_ne _ _ (pl_ne hFqm8_54 hFo_54 rfl)]; exact hFqm8_54
            have hFqm9_57 : F57 (qm 9) = cI (cy 3) 30 Pp.2.2 := by rw [eF57, va_up_ne _ _ (pl_ne hFqm9_54 hFo_54 rfl)]; exact hFqm9_54
            have hFqm10_57 : F57 (qm 10) = cI (cy 1) 5 Kr.1 := by rw [eF57, va_up_ne _ _ (pl_ne hFqm10_54 hFo_54 rfl)]; exact hFqm10_54
            have hFqm11_57 : F57 (qm 11) = cI (cy 3) 5 Kr.2.1 := by rw [eF57, va_up_ne _ _ (pl_ne hFqm11_54 hFo_54 rfl)]; exact hFqm11_54
            have hFqm12_57 : F57 (qm 12) = cI (cy 1) 60 Kr.2.2 := by rw [eF57, va_up_ne _ _ (pl_ne hFqm12_54 hFo_54 rfl)]; exact hFqm12_54
            have hFqm13_57 : F57 (qm 13) = cI (cy 1) 4 Bk.1 := by rw [eF57, va_up_ne _ _ (pl_ne hFqm13_54 hFo_54 rfl)]; exact hFqm13_54
            have hFqm14_57 : F57 (qm 14) = cD (cy 0) 4 Bk.2 := by rw [eF57, va_up_ne _ _ (pl_ne hFqm14_54 hFo_54 rfl)]; exact hFqm14_54
            have hFqm15_57 : F57 (qm 15) = cI (cy 1) 6 Xx.2 := by rw [eF57, va_up_ne _ _ (pl_ne hFqm15_54 hFo_54 rfl)]; exact hFqm15_54
            refine lv_aload_n hx hb dX9_rest_50 rfl (lv_at hl 0 rfl) ?_
            refine pg_get (ci := 8) (C := RX9) (T := TX9) (N := 20) hx hb hts hinX9 hown hK hP hmo hFo_57 rfl 17 (by decide) (hts (.fieldLink RX9 65 "RopeDrumsModel" "failed" "I") (by decide +kernel)) (fun _ h9 => h9) rfl dX9_rest_51 ?_
            refine lv_if_ne (tgt := 124) hx hb dX9_rest_54 (by decide) (fun c58 => absurd (by decide) c58) (fun c58 => ?_)
            refine lv_aload_n hx hb dX9_rest_57 rfl (lv_at hl 0 rfl) ?_
            refine pg_get (ci := 8) (C := RX9) (T := TX9) (N := 20) hx hb hts hinX9 hown hK hP hmo hFo_57 rfl 8 (by decide) (hts (.fieldLink RX9 33 "RopeDrumsModel" "logBits" "[J") (by decide +kernel)) (fun _ h9 => h9) rfl dX9_rest_58 ?_
            refine lv_bipush (v := 16) hx hb dX9_rest_61 (by decide) ?_
            refine lv_iload_n hx hb dX9_rest_63 rfl (lv_at hl 1 rfl) ?_
            refine lv_imul hx hb dX9_rest_64 ?_
            refine lv_topi (fun v59 ev59 => ?_)
            refine lv_iload_n hx hb dX9_rest_65 rfl (lv_at hl 2 rfl) ?_
            refine lv_iadd hx hb dX9_rest_66 ?_
            refine lv_topi (fun v60 ev60 => ?_)
            rw [ev59, nI16] at ev60
            subst ev60
            refine pg_lald hx hb hK hP 2 hm7 hFqm7_57 rfl (vp_in_nI (by omega) (by decide)) dX9_rest_67 ?_
            refine lv_topl (fun v61 ev61 => ?_)
            rw [nI_clamp (by omega)] at ev61
            refine lv_lstore (lv' := [(4, .long v61), (0, .ref o), (1, .int (nI j_lg)), (2, .int (nI q_i)), (3, .int (nI q_k))]) hx hb dX9_rest_68 hl (by decide) rfl (fun ls hl => ?_)
            refine lv_aload_n hx hb dX9_rest_70 rfl (lv_at hl 1 rfl) ?_
            refine pg_get (ci := 8) (C := RX9) (T := TX9) (N := 20) hx hb hts hinX9 hown hK hP hmo hFo_57 rfl 8 (by decide) (hts (.fieldLink RX9 33 "RopeDrumsModel" "logBits" "[J") (by decide +kernel)) (fun _ h9 => h9) rfl dX9_rest_71 ?_
            refine lv_bipush (v := 16) hx hb dX9_rest_74 (by decide) ?_
            refine lv_iload_n hx hb dX9_rest_76 rfl (lv_at hl 2 rfl) ?_
            refine lv_imul hx hb dX9_rest_77 ?_
            refine lv_topi (fun v62 ev62 => ?_)
            refine lv_iload_n hx hb dX9_rest_78 rfl (lv_at hl 4 rfl) ?_
            refine lv_iadd hx hb dX9_rest_79 ?_
            refine lv_topi (fun v63 ev63 => ?_)
            rw [ev62, nI16] at ev63
            subst ev63
            refine pg_lald hx hb hK hP 2 hm7 hFqm7_57 rfl (vp_in_nI (by omega) (by decide)) dX9_rest_80 ?_
            refine lv_topl (fun v64 ev64 => ?_)
            rw [nI_clamp (by omega)] at ev64
            refine lv_lstore (lv' := [(6, .long v64), (4, .long v61), (0, .ref o), (1, .int (nI j_lg)), (2, .int (nI q_i)), (3, .int (nI q_k))]) hx hb dX9_rest_81 hl (by decide) rfl (fun ls hl => ?_)
            refine lv_iload_n hx hb dX9_rest_83 rfl (lv_at hl 3 rfl) ?_
            refine vp_callSi (W.runS (As := [.int (nI j_lg)]) (rest := []) ⟨hx, hb, hml, hown, hts⟩ (c9_laneOfLog l j_lg hj_lg) (va_cwS 1 hts gX9_rest_X9_laneOfLog rfl rfl rfl (by decide +kernel) ⟨Nat.le_of_ble_eq_true rfl, Nat.le_of_ble_eq_true rfl⟩) (preS_of okT (trivial)) rfl rfl hl.1 rfl (lv_room (Nat.le_of_ble_eq_true rfl)) dX9_rest_84 ⟨Nat.le_of_ble_eq_true rfl, Nat.le_of_ble_eq_true rfl⟩) (fun r65 hr65 => ?_)
            subst hr65
            refine lv_iconst (v := 2) hx hb dX9_rest_87 (by decide) ?_
            refine lv_icmp_ne (tgt := 109) hx hb dX9_rest_88 (by decide) (fun c66 => absurd (hl2) c66) (fun c66 => ?_)
            refine lv_aload_n hx hb dX9_rest_91 rfl (lv_at hl 2 rfl) ?_
            refine lv_iconst (v := 4) hx hb dX9_rest_92 (by decide) ?_
            refine lv_lload hx hb dX9_rest_93 (lv_at hl 1 rfl) ?_
            refine vp_callSf (W.runS (As := [.long v61]) (rest := [.int 4, .ref o]) ⟨hx, hb, hml, hown, hts⟩ (c9_floatOf l v61 (by rw [ev61]; exact (okV2 ((hVS j_lg hj_lg).2 q_i hs_i) hl2))) (va_cwS 1 hts gX9_rest_X9_floatOf rfl rfl rfl (by decide +kernel) ⟨Nat.le_of_ble_eq_true rfl, Nat.le_of_ble_eq_true rfl⟩) (preS_of okT (trivial)) rfl rfl hl.1 rfl (lv_room (Nat.le_of_ble_eq_true rfl)) dX9_rest_95 ⟨Nat.le_of_ble_eq_true rfl, Nat.le_of_ble_eq_true rfl⟩) (fun r67 hr67 => ?_)
            refine lv_lload hx hb dX9_rest_98 (lv_at hl 0 rfl) ?_
            refine vp_callSf (W.runS (As := [.long v64]) (rest := [.float r67, .int 4, .ref o]) ⟨hx, hb, hml, hown, hts⟩ (c9_floatOf l v64 (by rw [ev64]; exact (okV2 ((hVS j_lg hj_lg).2 q_k hs_k) hl2))) (va_cwS 1 hts gX9_rest_X9_floatOf rfl rfl rfl (by decide +kernel) ⟨Nat.le_of_ble_eq_true rfl, Nat.le_of_ble_eq_true rfl⟩) (preS_of okT (trivial)) rfl rfl hl.1 rfl (lv_room (Nat.le_of_ble_eq_true rfl)) dX9_rest_100 ⟨Nat.le_of_ble_eq_true rfl, Nat.le_of_ble_eq_true rfl⟩) (fun r68 hr68 => ?_)
            refine va_callv (va_runV (As := [.int 4, .float r67, .float r68]) (rest := []) ⟨hx, hb, hml, hown, hts⟩ (c9_rF_4_no l G cy L F57 H.size o qm 0 Pp.1 0 oc hmo hFo_57 r67 r68 (by rw [hr67, ev61]; exact okV2 ((hVS j_lg hj_lg).2 q_i hs_i) hl2) (by rw [hr68, ev64]; exact okV2 ((hVS j_lg hj_lg).2 q_k hs_k) hl2) (by rw [hr67, ev61, hr68, ev64]; exact hnan)) (cwV 3 hts gX9_rest_X9_reckonFloats rfl rfl rfl (by decide +kernel) ⟨Nat.le_of_ble_eq_true rfl, Nat.le_of_ble_eq_true rfl⟩) (preV_of okQ (⟨rfl, hP, hK, hD.top⟩) (pl_recv hK hP (ci := 8) rfl hmo hFo_57)) rfl rfl hl.1 rfl (lv_room (Nat.le_of_ble_eq_true rfl)) dX9_rest_103 ⟨Nat.le_of_ble_eq_true rfl, Nat.le_of_ble_eq_true rfl⟩) hS (fun q _ h => pl_free hD hS hA q h) (pl_free hD hS hA) (fun F69 t H1 locs ht hvm hw hP1 hz1 hk1 hS => ?_)
            have hP1 : va_P G vwCl (va_pl L F69) t.heap := hP1
            rw [ht] at hP1
            have hP := hP1
            generalize H1 = H at hP hS ⊢
            have eF69 : F69 = va_up F57 o (.inr (8, [.int 0, .ref (qm 0), .ref (qm 1), .ref (qm 2), .ref (qm 3), .ref (qm 4), .ref (qm 5), .ref (qm 6), .ref (qm 7), .int Pp.1, .ref (qm 8), .ref (qm 9), .ref (qm 10), .ref (qm 11), .ref (qm 12), .ref (qm 13), .ref (qm 14), .int 5, .ref (qm 15), .long oc])) := hw
            have hFo_69 : F69 o = .inr (8, [.int 0, .ref (qm 0), .ref (qm 1), .ref (qm 2), .ref (qm 3), .ref (qm 4), .ref (qm 5), .ref (qm 6), .ref (qm 7), .int Pp.1, .ref (qm 8), .ref (qm 9), .ref (qm 10), .ref (qm 11), .ref (qm 12), .ref (qm 13), .ref (qm 14), .int 5, .ref (qm 15), .long oc]) := by rw [eF69]; exact va_up_self _ _ _
            have hFqm0_69 : F69 (qm 0) = cI (cy 1) 10 Mm.1 := by rw [eF69, va_up_ne _ _ (pl_ne hFqm0_57 hFo_57 rfl)]; exact hFqm0_57
            have hFqm1_69 : F69 (qm 1) = cJ (cy 2) 10 Mm.2 := by rw [eF69, va_up_ne _ _ (pl_ne hFqm1_57 hFo_57 rfl)]; exact hFqm1_57
            have hFqm2_69 : F69 (qm 2) = cD (cy 0) 6 Dd.1 := by rw [eF69, va_up_ne _ _ (pl_ne hFqm2_57 hFo_57 rfl)]; exact hFqm2_57
            have hFqm3_69 : F69 (qm 3) = cD (cy 0) 6 Dd.2.1 := by rw [eF69, va_up_ne _ _ (pl_ne hFqm3_57 hFo_57 rfl)]; exact hFqm3_57
            have hFqm4_69 : F69 (qm 4) = cD (cy 0) 6 Dd.2.2.1 := by rw [eF69, va_up_ne _ _ (pl_ne hFqm4_57 hFo_57 rfl)]; exact hFqm4_57
            have hFqm5_69 : F69 (qm 5) = cJ (cy 2) 6 Dd.2.2.2 := by rw [eF69, va_up_ne _ _ (pl_ne hFqm5_57 hFo_57 rfl)]; exact hFqm5_57
            have hFqm6_69 : F69 (qm 6) = cI (cy 1) 8 Sl.1 := by rw [eF69, va_up_ne _ _ (pl_ne hFqm6_57 hFo_57 rfl)]; exact hFqm6_57
            have hFqm7_69 : F69 (qm 7) = cJ (cy 2) 128 Sl.2 := by rw [eF69, va_up_ne _ _ (pl_ne hFqm7_57 hFo_57 rfl)]; exact hFqm7_57
            have hFqm8_69 : F69 (qm 8) = cI (cy 1) 30 Pp.2.1 := by rw [eF69, va_up_ne _ _ (pl_ne hFqm8_57 hFo_57 rfl)]; exact hFqm8_57
            have hFqm9_69 : F69 (qm 9) = cI (cy 3) 30 Pp.2.2 := by rw [eF69, va_up_ne _ _ (pl_ne hFqm9_57 hFo_57 rfl)]; exact hFqm9_57
            have hFqm10_69 : F69 (qm 10) = cI (cy 1) 5 Kr.1 := by rw [eF69, va_up_ne _ _ (pl_ne hFqm10_57 hFo_57 rfl)]; exact hFqm10_57
            have hFqm11_69 : F69 (qm 11) = cI (cy 3) 5 Kr.2.1 := by rw [eF69, va_up_ne _ _ (pl_ne hFqm11_57 hFo_57 rfl)]; exact hFqm11_57
            have hFqm12_69 : F69 (qm 12) = cI (cy 1) 60 Kr.2.2 := by rw [eF69, va_up_ne _ _ (pl_ne hFqm12_57 hFo_57 rfl)]; exact hFqm12_57
            have hFqm13_69 : F69 (qm 13) = cI (cy 1) 4 Bk.1 := by rw [eF69, va_up_ne _ _ (pl_ne hFqm13_57 hFo_57 rfl)]; exact hFqm13_57
            have hFqm14_69 : F69 (qm 14) = cD (cy 0) 4 Bk.2 := by rw [eF69, va_up_ne _ _ (pl_ne hFqm14_57 hFo_57 rfl)]; exact hFqm14_57
            have hFqm15_69 : F69 (qm 15) = cI (cy 1) 6 Xx.2 := by rw [eF69, va_up_ne _ _ (pl_ne hFqm15_57 hFo_57 rfl)]; exact hFqm15_57
            refine lv_goto (tgt := 124) hx hb dX9_rest_106 (by decide) ?_
            refine lv_aload_n hx hb dX9_rest_124 rfl (lv_at hl 2 rfl) ?_
            refine pg_get (ci := 8) (C := RX9) (T := TX9) (N := 20) hx hb hts hinX9 hown hK hP hmo hFo_69 rfl 17 (by decide) (hts (.fieldLink RX9 65 "RopeDrumsModel" "failed" "I") (by decide +kernel)) (fun _ h9 => h9) rfl dX9_rest_125 ?_
            refine lv_if_ne (tgt := 146) hx hb dX9_rest_128 (by decide) (fun c70 => ?_) (fun c70 => absurd c70 (by decide))
            refine lv_aload_n hx hb dX9_rest_146 rfl (lv_at hl 2 rfl) ?_
            refine lv_iconst (v := 1) hx hb dX9_rest_147 (by decide) ?_
            refine va_calli (va_runV (As := [.int 1]) (rest := []) ⟨hx, hb, hml, hown, hts⟩ (c9_answers_5 l G cy L F69 H.size o qm 0 Pp.1 oc hmo hFo_69 Xx.2 hm15 hFqm15_69 1) (cwV 1 hts gX9_rest_X9_answers rfl rfl rfl (by decide +kernel) ⟨Nat.le_of_ble_eq_true rfl, Nat.le_of_ble_eq_true rfl⟩) (preV_of okQ (⟨rfl, hP, hK, hD.top⟩) (pl_recv hK hP (ci := 8) rfl hmo hFo_69)) rfl rfl hl.1 rfl (lv_room (Nat.le_of_ble_eq_true rfl)) dX9_rest_148 ⟨Nat.le_of_ble_eq_true rfl, Nat.le_of_ble_eq_true rfl⟩) hS (fun q _ h => pl_free hD hS hA q h) (pl_free hD hS hA) (fun r72 F71 t H1 locs ht hvm hw hP1 hz1 hk1 hS => ?_)
            have hP1 : va_P G vwCl (va_pl L F71) t.heap := hP1
            rw [ht] at hP1
            have hP := hP1
            generalize H1 = H at hP hS ⊢
            obtain ⟨hqr72, eF71⟩ := hw
            have eF71 : F71 = va_up F69 (qm 15) (cI (cy 1) 6 (upd Xx.2 5 (Xx.2 5 + 1))) := eF71
            have hFo_72 : F71 o = .inr (8, [.int 0, .ref (qm 0), .ref (qm 1), .ref (qm 2), .ref (qm 3), .ref (qm 4), .ref (qm 5), .ref (qm 6), .ref (qm 7), .int Pp.1, .ref (qm 8), .ref (qm 9), .ref (qm 10), .ref (qm 11), .ref (qm 12), .ref (qm 13), .ref (qm 14), .int 5, .ref (qm 15), .long oc]) := by rw [eF71, va_up_ne _ _ (pl_ne hFo_69 hFqm15_69 rfl)]; exact hFo_69
            have hFqm0_72 : F71 (qm 0) = cI (cy 1) 10 Mm.1 := by rw [eF71, va_up_ne _ _ (pl_ne hFqm0_69 hFqm15_69 rfl)]; exact hFqm0_69
            have hFqm1_72 : F71 (qm 1) = cJ (cy 2) 10 Mm.2 := by rw [eF71, va_up_ne _ _ (pl_ne hFqm1_69 hFqm15_69 rfl)]; exact hFqm1_69
            have hFqm2_72 : F71 (qm 2) = cD (cy 0) 6 Dd.1 := by rw [eF71, va_up_ne _ _ (pl_ne hFqm2_69 hFqm15_69 rfl)]; exact hFqm2_69
            have hFqm3_72 : F71 (qm 3) = cD (cy 0) 6 Dd.2.1 := by rw [eF71, va_up_ne _ _ (pl_ne hFqm3_69 hFqm15_69 rfl)]; exact hFqm3_69
            have hFqm4_72 : F71 (qm 4) = cD (cy 0) 6 Dd.2.2.1 := by rw [eF71, va_up_ne _ _ (pl_ne hFqm4_69 hFqm15_69 rfl)]; exact hFqm4_69
            have hFqm5_72 : F71 (qm 5) = cJ (cy 2) 6 Dd.2.2.2 := by rw [eF71, va_up_ne _ _ (pl_ne hFqm5_69 hFqm15_69 rfl)]; exact hFqm5_69
            have hFqm6_72 : F71 (qm 6) = cI (cy 1) 8 Sl.1 := by rw [eF71, va_up_ne _ _ (pl_ne hFqm6_69 hFqm15_69 rfl)]; exact hFqm6_69
            have hFqm7_72 : F71 (qm 7) = cJ (cy 2) 128 Sl.2 := by rw [eF71, va_up_ne _ _ (pl_ne hFqm7_69 hFqm15_69 rfl)]; exact hFqm7_69
            have hFqm8_72 : F71 (qm 8) = cI (cy 1) 30 Pp.2.1 := by rw [eF71, va_up_ne _ _ (pl_ne hFqm8_69 hFqm15_69 rfl)]; exact hFqm8_69
            have hFqm9_72 : F71 (qm 9) = cI (cy 3) 30 Pp.2.2 := by rw [eF71, va_up_ne _ _ (pl_ne hFqm9_69 hFqm15_69 rfl)]; exact hFqm9_69
            have hFqm10_72 : F71 (qm 10) = cI (cy 1) 5 Kr.1 := by rw [eF71, va_up_ne _ _ (pl_ne hFqm10_69 hFqm15_69 rfl)]; exact hFqm10_69
            have hFqm11_72 : F71 (qm 11) = cI (cy 3) 5 Kr.2.1 := by rw [eF71, va_up_ne _ _ (pl_ne hFqm11_69 hFqm15_69 rfl)]; exact hFqm11_69
            have hFqm12_72 : F71 (qm 12) = cI (cy 1) 60 Kr.2.2 := by rw [eF71, va_up_ne _ _ (pl_ne hFqm12_69 hFqm15_69 rfl)]; exact hFqm12_69
            have hFqm13_72 : F71 (qm 13) = cI (cy 1) 4 Bk.1 := by rw [eF71, va_up_ne _ _ (pl_ne hFqm13_69 hFqm15_69 rfl)]; exact hFqm13_69
            have hFqm14_72 : F71 (qm 14) = cD (cy 0) 4 Bk.2 := by rw [eF71, va_up_ne _ _ (pl_ne hFqm14_69 hFqm15_69 rfl)]; exact hFqm14_69
            have hFqm15_72 : F71 (qm 15) = cI (cy 1) 6 (upd Xx.2 5 (Xx.2 5 + 1)) := by rw [eF71]; exact va_up_self _ _ _
            have hr72 := hqr72
            exact W.iret (v := r72) hx hb hr (fun t ht hW => ⟨⟨r72, F71, rfl, (by subst hr72 hr68 hr67 ev64 ev62 ev61 ev59; have hsp : sp_rest Sl Xx (nI j_lg) (nI q_i) (nI q_k) = (-15, Sl, failX Xx 5) := (by unfold sp_rest; rw [hi_lg]; exact (if_pos hp_i).trans ((if_pos hp_k).trans ((if_pos hl2).trans (by rw [nI_tn (q := q_i) (by omega), nI_tn (q := q_k) (by omega)]; exact if_pos hnan)))); rw [hsp]; exact ⟨rfl, (by exact ⟨⟨_, _, hmo, hFo_72⟩, ⟨hm0, hFqm0_72⟩, ⟨hm1, hFqm1_72⟩, ⟨hm2, hFqm2_72⟩, ⟨hm3, hFqm3_72⟩, ⟨hm4, hFqm4_72⟩, ⟨hm5, hFqm5_72⟩, ⟨hm6, hFqm6_72⟩, ⟨hm7, hFqm7_72⟩, ⟨hm8, hFqm8_72⟩, ⟨hm9, hFqm9_72⟩, ⟨hm10, hFqm10_72⟩, ⟨hm11, hFqm11_72⟩, ⟨hm12, hFqm12_72⟩, ⟨hm13, hFqm13_72⟩, ⟨hm14, hFqm14_72⟩, ⟨hm15, hFqm15_72⟩, hne⟩)⟩), (by show va_P _ _ _ t.heap; rw [ht]; exact hP)⟩, hS.F ht⟩) hS.2.2 dX9_rest_151
          · have hnan : FP.Core.fIsNaN (FP.frem (fl (Sl.2 (16 * j_lg + q_i))) (fl (Sl.2 (16 * j_lg + q_k)))) = false := Bool.eq_false_iff.mpr hnan0
            refine lv_aload_n hx hb dX9_rest_0 rfl (lv_at hl 0 rfl) ?_
            refine lv_iconst (v := 0) hx hb dX9_rest_1 (by decide) ?_
            refine pg_put (ci := 8) (v := .int 0) (ty := .int) (C := RX9) (T := TX9) (N := 20) hx hb hts hinX9 tyX9 tyX9_ok nmX9 hown hK hP hD hS hmo hFo rfl 0 (by decide) (hts (.fieldLink RX9 61 "RopeDrumsModel" "thrown" "I") (by decide +kernel)) (fun _ h9 => h9) rfl (by decide +kernel) (rfl) (rfl) (Nat.le_of_ble_eq_true rfl) dX9_rest_2 (fun H locs F73 eF73 hP hS => ?_)
            have eF73 : F73 = va_up F o (.inr (8, [.int 0, .ref (qm 0), .ref (qm 1), .ref (qm 2), .ref (qm 3), .ref (qm 4), .ref (qm 5), .ref (qm 6), .ref (qm 7), .int Pp.1, .ref (qm 8), .ref (qm 9), .ref (qm 10), .ref (qm 11), .ref (qm 12), .ref (qm 13), .ref (qm 14), .int Xx.1, .ref (qm 15), .long oc])) := eF73
            have hFo_73 : F73 o = .inr (8, [.int 0, .ref (qm 0), .ref (qm 1), .ref (qm 2), .ref (qm 3), .ref (qm 4), .ref (qm 5), .ref (qm 6), .ref (qm 7), .int Pp.1, .ref (qm 8), .ref (qm 9), .ref (qm 10), .ref (qm 11), .ref (qm 12), .ref (qm 13), .ref (qm 14), .int Xx.1, .ref (qm 15), .long oc]) := by rw [eF73]; exact va_up_self _ _ _
            have hFqm0_73 : F73 (qm 0) = cI (cy 1) 10 Mm.1 := by rw [eF73, va_up_ne _ _ (pl_ne hF0 hFo rfl)]; exact hF0
            have hFqm1_73 : F73 (qm 1) = cJ (cy 2) 10 Mm.2 := by rw [eF73, va_up_ne _ _ (pl_ne hF1 hFo rfl)]; exact hF1
            have hFqm2_73 : F73 (qm 2) = cD (cy 0) 6 Dd.1 := by rw [eF73, va_up_ne _ _ (pl_ne hF2 hFo rfl)]; exact hF2
            have hFqm3_73 : F73 (qm 3) = cD (cy 0) 6 Dd.2.1 := by rw [eF73, va_up_ne _ _ (pl_ne hF3 hFo rfl)]; exact hF3
            have hFqm4_73 : F73 (qm 4) = cD (cy 0) 6 Dd.2.2.1 := by rw [eF73, va_up_ne _ _ (pl_ne hF4 hFo rfl)]; exact hF4
            have hFqm5_73 : F73 (qm 5) = cJ (cy 2) 6 Dd.2.2.2 := by rw [eF73, va_up_ne _ _ (pl_ne hF5 hFo rfl)]; exact hF5
            have hFqm6_73 : F73 (qm 6) = cI (cy 1) 8 Sl.1 := by rw [eF73, va_up_ne _ _ (pl_ne hF6 hFo rfl)]; exact hF6
            have hFqm7_73 : F73 (qm 7) = cJ (cy 2) 128 Sl.2 := by rw [eF73, va_up_ne _ _ (pl_ne hF7 hFo rfl)]; exact hF7
            have hFqm8_73 : F73 (qm 8) = cI (cy 1) 30 Pp.2.1 := by rw [eF73, va_up_ne _ _ (pl_ne hF8 hFo rfl)]; exact hF8
            have hFqm9_73 : F73 (qm 9) = cI (cy 3) 30 Pp.2.2 := by rw [eF73, va_up_ne _ _ (pl_ne hF9 hFo rfl)]; exact hF9
            have hFqm10_73 : F73 (qm 10) = cI (cy 1) 5 Kr.1 := by rw [eF73, va_up_ne _ _ (pl_ne hF10 hFo rfl)]; exact hF10
            have hFqm11_73 : F73 (qm 11) = cI (cy 3) 5 Kr.2.1 := by rw [eF73, va_up_ne _ _ (pl_ne hF11 hFo rfl)]; exact hF11
            have hFqm12_73 : F73 (qm 12) = cI (cy 1) 60 Kr.2.2 := by rw [eF73, va_up_ne _ _ (pl_ne hF12 hFo rfl)]; exact hF12
            have hFqm13_73 : F73 (qm 13) = cI (cy 1) 4 Bk.1 := by rw [eF73, va_up_ne _ _ (pl_ne hF13 hFo rfl)]; exact hF13
            have hFqm14_73 : F73 (qm 14) = cD (cy 0) 4 Bk.2 := by rw [eF73, va_up_ne _ _ (pl_ne hF14 hFo rfl)]; exact hF14
            have hFqm15_73 : F73 (qm 15) = cI (cy 1) 6 Xx.2 := by rw [eF73, va_up_ne _ _ (pl_ne hF15 hFo rfl)]; exact hF15
            refine lv_iload_n hx hb dX9_rest_5 rfl (lv_at hl 1 rfl) ?_
            refine vp_callSi (W.runS (As := [.int (nI j_lg)]) (rest := []) ⟨hx, hb, hml, hown, hts⟩ (c9_isLog l (nI j_lg)) (va_cwS 1 hts gX9_rest_X9_isLog rfl rfl rfl (by decide +kernel) ⟨Nat.le_of_ble_eq_true rfl, Nat.le_of_ble_eq_true rfl⟩) (preS_of okT (trivial)) rfl rfl hl.1 rfl (lv_room (Nat.le_of_ble_eq_true rfl)) dX9_rest_6 ⟨Nat.le_of_ble_eq_true rfl, Nat.le_of_ble_eq_true rfl⟩) (fun r74 hr74 => ?_)
            rw [isx1 hi_lg] at hr74
            subst hr74
            refine lv_if_ne (tgt := 16) hx hb dX9_rest_9 (by decide) (fun c75 => ?_) (fun c75 => absurd c75 (by decide))
            refine lv_aload_n hx hb dX9_rest_16 rfl (lv_at hl 0 rfl) ?_
            refine lv_aload_n hx hb dX9_rest_17 rfl (lv_at hl 0 rfl) ?_
            refine lv_iload_n hx hb dX9_rest_18 rfl (lv_at hl 1 rfl) ?_
            refine lv_iload_n hx hb dX9_rest_19 rfl (lv_at hl 2 rfl) ?_
            refine vp_callSi (W.runV (As := [.int (nI j_lg), .int (nI q_i)]) (rest := [.ref o]) ⟨hx, hb, hml, hown, hts⟩ (c9_logCause l G cy L F73 o qm 0 Pp.1 Xx.1 oc hmo hFo_73 Sl.1 hm6 hFqm6_73 j_lg hj_lg (nI q_i) ((hVS j_lg hj_lg).1)) (cwV 2 hts gX9_rest_X9_logCause rfl rfl rfl (by decide +kernel) ⟨Nat.le_of_ble_eq_true rfl, Nat.le_of_ble_eq_true rfl⟩) (preV_of okP (⟨hP, hK, hD.top⟩) (pl_recv hK hP (ci := 8) rfl hmo hFo_73)) rfl rfl hl.1 rfl (lv_room (Nat.le_of_ble_eq_true rfl)) dX9_rest_20 ⟨Nat.le_of_ble_eq_true rfl, Nat.le_of_ble_eq_true rfl⟩) (fun r76 hr76 => ?_)
            rw [hp_i] at hr76
            have hzr76 : r76 = 0 := hr76
            clear hr76
            subst hzr76
            refine pg_put (ci := 8) (v := .int 0) (ty := .int) (C := RX9) (T := TX9) (N := 20) hx hb hts hinX9 tyX9 tyX9_ok nmX9 hown hK hP hD hS hmo hFo_73 rfl 17 (by decide) (hts (.fieldLink RX9 65 "RopeDrumsModel" "failed" "I") (by decide +kernel)) (fun _ h9 => h9) rfl (by decide +kernel) (rfl) (rfl) (Nat.le_of_ble_eq_true rfl) dX9_rest_23 (fun H locs F77 eF77 hP hS => ?_)
            have eF77 : F77 = va_up F73 o (.inr (8, [.int 0, .ref (qm 0), .ref (qm 1), .ref (qm 2), .ref (qm 3), .ref (qm 4), .ref (qm 5), .ref (qm 6), .ref (qm 7), .int Pp.1, .ref (qm 8), .ref (qm 9), .ref (qm 10), .ref (qm 11), .ref (qm 12), .ref (qm 13), .ref (qm 14), .int 0, .ref (qm 15), .long oc])) := eF77
            have hFo_77 : F77 o = .inr (8, [.int 0, .ref (qm 0), .ref (qm 1), .ref (qm 2), .ref (qm 3), .ref (qm 4), .ref (qm 5), .ref (qm 6), .ref (qm 7), .int Pp.1, .ref (qm 8), .ref (qm 9), .ref (qm 10), .ref (qm 11), .ref (qm 12), .ref (qm 13), .ref (qm 14), .int 0, .ref (qm 15), .long oc]) := by rw [eF77]; exact va_up_self _ _ _
            have hFqm0_77 : F77 (qm 0) = cI (cy 1) 10 Mm.1 := by rw [eF77, va_up_ne _ _ (pl_ne hFqm0_73 hFo_73 rfl)]; exact hFqm0_73
            have hFqm1_77 : F77 (qm 1) = cJ (cy 2) 10 Mm.2 := by rw [eF77, va_up_ne _ _ (pl_ne hFqm1_73 hFo_73 rfl)]; exact hFqm1_73
            have hFqm2_77 : F77 (qm 2) = cD (cy 0) 6 Dd.1 := by rw [eF77, va_up_ne _ _ (pl_ne hFqm2_73 hFo_73 rfl)]; exact hFqm2_73
            have hFqm3_77 : F77 (qm 3) = cD (cy 0) 6 Dd.2.1 := by rw [eF77, va_up_ne _ _ (pl_ne hFqm3_73 hFo_73 rfl)]; exact hFqm3_73
            have hFqm4_77 : F77 (qm 4) = cD (cy 0) 6 Dd.2.2.1 := by rw [eF77, va_up_ne _ _ (pl_ne hFqm4_73 hFo_73 rfl)]; exact hFqm4_73
            have hFqm5_77 : F77 (qm 5) = cJ (cy 2) 6 Dd.2.2.2 := by rw [eF77, va_up_ne _ _ (pl_ne hFqm5_73 hFo_73 rfl)]; exact hFqm5_73
            have hFqm6_77 : F77 (qm 6) = cI (cy 1) 8 Sl.1 := by rw [eF77, va_up_ne _ _ (pl_ne hFqm6_73 hFo_73 rfl)]; exact hFqm6_73
            have hFqm7_77 : F77 (qm 7) = cJ (cy 2) 128 Sl.2 := by rw [eF77, va_up_ne _ _ (pl_ne hFqm7_73 hFo_73 rfl)]; exact hFqm7_73
            have hFqm8_77 : F77 (qm 8) = cI (cy 1) 30 Pp.2.1 := by rw [eF77, va_up_ne _ _ (pl_ne hFqm8_73 hFo_73 rfl)]; exact hFqm8_73
            have hFqm9_77 : F77 (qm 9) = cI (cy 3) 30 Pp.2.2 := by rw [eF77, va_up_ne _ _ (pl_ne hFqm9_73 hFo_73 rfl)]; exact hFqm9_73
            have hFqm10_77 : F77 (qm 10) = cI (cy 1) 5 Kr.1 := by rw [eF77, va_up_ne _ _ (pl_ne hFqm10_73 hFo_73 rfl)]; exact hFqm10_73
            have hFqm11_77 : F77 (qm 11) = cI (cy 3) 5 Kr.2.1 := by rw [eF77, va_up_ne _ _ (pl_ne hFqm11_73 hFo_73 rfl)]; exact hFqm11_73
            have hFqm12_77 : F77 (qm 12) = cI (cy 1) 60 Kr.2.2 := by rw [eF77, va_up_ne _ _ (pl_ne hFqm12_73 hFo_73 rfl)]; exact hFqm12_73
            have hFqm13_77 : F77 (qm 13) = cI (cy 1) 4 Bk.1 := by rw [eF77, va_up_ne _ _ (pl_ne hFqm13_73 hFo_73 rfl)]; exact hFqm13_73
            have hFqm14_77 : F77 (qm 14) = cD (cy 0) 4 Bk.2 := by rw [eF77, va_up_ne _ _ (pl_ne hFqm14_73 hFo_73 rfl)]; exact hFqm14_73
            have hFqm15_77 : F77 (qm 15) = cI (cy 1) 6 Xx.2 := by rw [eF77, va_up_ne _ _ (pl_ne hFqm15_73 hFo_73 rfl)]; exact hFqm15_73
            refine lv_aload_n hx hb dX9_rest_26 rfl (lv_at hl 0 rfl) ?_
            refine lv_aload_n hx hb dX9_rest_27 rfl (lv_at hl 0 rfl) ?_
            refine pg_get (ci := 8) (C := RX9) (T := TX9) (N := 20) hx hb hts hinX9 hown hK hP hmo hFo_77 rfl 17 (by decide) (hts (.fieldLink RX9 65 "RopeDrumsModel" "failed" "I") (by decide +kernel)) (fun _ h9 => h9) rfl dX9_rest_28 ?_
            refine lv_if_ne (tgt := 43) hx hb dX9_rest_31 (by decide) (fun c78 => absurd (by decide) c78) (fun c78 => ?_)
            refine lv_aload_n hx hb dX9_rest_34 rfl (lv_at hl 0 rfl) ?_
            refine lv_iload_n hx hb dX9_rest_35 rfl (lv_at hl 1 rfl) ?_
            refine lv_iload_n hx hb dX9_rest_36 rfl (lv_at hl 3 rfl) ?_
            refine vp_callSi (W.runV (As := [.int (nI j_lg), .int (nI q_k)]) (rest := [.ref o]) ⟨hx, hb, hml, hown, hts⟩ (c9_logCause l G cy L F77 o qm 0 Pp.1 0 oc hmo hFo_77 Sl.1 hm6 hFqm6_77 j_lg hj_lg (nI q_k) ((hVS j_lg hj_lg).1)) (cwV 2 hts gX9_rest_X9_logCause rfl rfl rfl (by decide +kernel) ⟨Nat.le_of_ble_eq_true rfl, Nat.le_of_ble_eq_true rfl⟩) (preV_of okP (⟨hP, hK, hD.top⟩) (pl_recv hK hP (ci := 8) rfl hmo hFo_77)) rfl rfl hl.1 rfl (lv_room (Nat.le_of_ble_eq_true rfl)) dX9_rest_37 ⟨Nat.le_of_ble_eq_true rfl, Nat.le_of_ble_eq_true rfl⟩) (fun r79 hr79 => ?_)
            rw [hp_k] at hr79
            have hzr79 : r79 = 0 := hr79
            clear hr79
            subst hzr79
            refine lv_goto (tgt := 47) hx hb dX9_rest_40 (by decide) ?_
            refine pg_put (ci := 8) (v := .int 0) (ty := .int) (C := RX9) (T := TX9) (N := 20) hx hb hts hinX9 tyX9 tyX9_ok nmX9 hown hK hP hD hS hmo hFo_77 rfl 17 (by decide) (hts (.fieldLink RX9 65 "RopeDrumsModel" "failed" "I") (by decide +kernel)) (fun _ h9 => h9) rfl (by decide +kernel) (rfl) (rfl) (Nat.le_of_ble_eq_true rfl) dX9_rest_47 (fun H locs F80 eF80 hP hS => ?_)
            have eF80 : F80 = va_up F77 o (.inr (8, [.int 0, .ref (qm 0), .ref (qm 1), .ref (qm 2), .ref (qm 3), .ref (qm 4), .ref (qm 5), .ref (qm 6), .ref (qm 7), .int Pp.1, .ref (qm 8), .ref (qm 9), .ref (qm 10), .ref (qm 11), .ref (qm 12), .ref (qm 13), .ref (qm 14), .int 0, .ref (qm 15), .long oc])) := eF80
            have hFo_80 : F80 o = .inr (8, [.int 0, .ref (qm 0), .ref (qm 1), .ref (qm 2), .ref (qm 3), .ref (qm 4), .ref (qm 5), .ref (qm 6), .ref (qm 7), .int Pp.1, .ref (qm 8), .ref (qm 9), .ref (qm 10), .ref (qm 11), .ref (qm 12), .ref (qm 13), .ref (qm 14), .int 0, .ref (qm 15), .long oc]) := by rw [eF80]; exact va_up_self _ _ _
            have hFqm0_80 : F80 (qm 0) = cI (cy 1) 10 Mm.1 := by rw [eF80, va_up_ne _ _ (pl_ne hFqm0_77 hFo_77 rfl)]; exact hFqm0_77
            have hFqm1_80 : F80 (qm 1) = cJ (cy 2) 10 Mm.2 := by rw [eF80, va_up_ne _ _ (pl_ne hFqm1_77 hFo_77 rfl)]; exact hFqm1_77
            have hFqm2_80 : F80 (qm 2) = cD (cy 0) 6 Dd.1 := by rw [eF80, va_up_ne _ _ (pl_ne hFqm2_77 hFo_77 rfl)]; exact hFqm2_77
            have hFqm3_80 : F80 (qm 3) = cD (cy 0) 6 Dd.2.1 := by rw [eF80, va_up_ne _ _ (pl_ne hFqm3_77 hFo_77 rfl)]; exact hFqm3_77
            have hFqm4_80 : F80 (qm 4) = cD (cy 0) 6 Dd.2.2.1 := by rw [eF80, va_up_ne _ _ (pl_ne hFqm4_77 hFo_77 rfl)]; exact hFqm4_77
            have hFqm5_80 : F80 (qm 5) = cJ (cy 2) 6 Dd.2.2.2 := by rw [eF80, va_up_ne _ _ (pl_ne hFqm5_77 hFo_77 rfl)]; exact hFqm5_77
            have hFqm6_80 : F80 (qm 6) = cI (cy 1) 8 Sl.1 := by rw [eF80, va_up_ne _ _ (pl_ne hFqm6_77 hFo_77 rfl)]; exact hFqm6_77
            have hFqm7_80 : F80 (qm 7) = cJ (cy 2) 128 Sl.2 := by rw [eF80, va_up_ne _ _ (pl_ne hFqm7_77 hFo_77 rfl)]; exact hFqm7_77
            have hFqm8_80 : F80 (qm 8) = cI (cy 1) 30 Pp.2.1 := by rw [eF80, va_up_ne _ _ (pl_ne hFqm8_77 hFo_77 rfl)]; exact hFqm8_77
            have hFqm9_80 : F80 (qm 9) = cI (cy 3) 30 Pp.2.2 := by rw [eF80, va_up_ne _ _ (pl_ne hFqm9_77 hFo_77 rfl)]; exact hFqm9_77
            have hFqm10_80 : F80 (qm 10) = cI (cy 1) 5 Kr.1 := by rw [eF80, va_up_ne _ _ (pl_ne hFqm10_77 hFo_77 rfl)]; exact hFqm10_77
            have hFqm11_80 : F80 (qm 11) = cI (cy 3) 5 Kr.2.1 := by rw [eF80, va_up_ne _ _ (pl_ne hFqm11_77 hFo_77 rfl)]; exact hFqm11_77
            have hFqm12_80 : F80 (qm 12) = cI (cy 1) 60 Kr.2.2 := by rw [eF80, va_up_ne _ _ (pl_ne hFqm12_77 hFo_77 rfl)]; exact hFqm12_77
            have hFqm13_80 : F80 (qm 13) = cI (cy 1) 4 Bk.1 := by rw [eF80, va_up_ne _ _ (pl_ne hFqm13_77 hFo_77 rfl)]; exact hFqm13_77
            have hFqm14_80 : F80 (qm 14) = cD (cy 0) 4 Bk.2 := by rw [eF80, va_up_ne _ _ (pl_ne hFqm14_77 hFo_77 rfl)]; exact hFqm14_77
            have hFqm15_80 : F80 (qm 15) = cI (cy 1) 6 Xx.2 := by rw [eF80, va_up_ne _ _ (pl_ne hFqm15_77 hFo_77 rfl)]; exact hFqm15_77
            refine lv_aload_n hx hb dX9_rest_50 rfl (lv_at hl 0 rfl) ?_
            refine pg_get (ci := 8) (C := RX9) (T := TX9) (N := 20) hx hb hts hinX9 hown hK hP hmo hFo_80 rfl 17 (by decide) (hts (.fieldLink RX9 65 "RopeDrumsModel" "failed" "I") (by decide +kernel)) (fun _ h9 => h9) rfl dX9_rest_51 ?_
            refine lv_if_ne (tgt := 124) hx hb dX9_rest_54 (by decide) (fun c81 => absurd (by decide) c81) (fun c81 => ?_)
            refine lv_aload_n hx hb dX9_rest_57 rfl (lv_at hl 0 rfl) ?_
            refine pg_get (ci := 8) (C := RX9) (T := TX9) (N := 20) hx hb hts hinX9 hown hK hP hmo hFo_80 rfl 8 (by decide) (hts (.fieldLink RX9 33 "RopeDrumsModel" "logBits" "[J") (by decide +kernel)) (fun _ h9 => h9) rfl dX9_rest_58 ?_
            refine lv_bipush (v := 16) hx hb dX9_rest_61 (by decide) ?_
            refine lv_iload_n hx hb dX9_rest_63 rfl (lv_at hl 1 rfl) ?_
            refine lv_imul hx hb dX9_rest_64 ?_
            refine lv_topi (fun v82 ev82 => ?_)
            refine lv_iload_n hx hb dX9_rest_65 rfl (lv_at hl 2 rfl) ?_
            refine lv_iadd hx hb dX9_rest_66 ?_
            refine lv_topi (fun v83 ev83 => ?_)
            rw [ev82, nI16] at ev83
            subst ev83
            refine pg_lald hx hb hK hP 2 hm7 hFqm7_80 rfl (vp_in_nI (by omega) (by decide)) dX9_rest_67 ?_
            refine lv_topl (fun v84 ev84 => ?_)
            rw [nI_clamp (by omega)] at ev84
            refine lv_lstore (lv' := [(4, .long v84), (0, .ref o), (1, .int (nI j_lg)), (2, .int (nI q_i)), (3, .int (nI q_k))]) hx hb dX9_rest_68 hl (by decide) rfl (fun ls hl => ?_)
            refine lv_aload_n hx hb dX9_rest_70 rfl (lv_at hl 1 rfl) ?_
            refine pg_get (ci := 8) (C := RX9) (T := TX9) (N := 20) hx hb hts hinX9 hown hK hP hmo hFo_80 rfl 8 (by decide) (hts (.fieldLink RX9 33 "RopeDrumsModel" "logBits" "[J") (by decide +kernel)) (fun _ h9 => h9) rfl dX9_rest_71 ?_
            refine lv_bipush (v := 16) hx hb dX9_rest_74 (by decide) ?_
            refine lv_iload_n hx hb dX9_rest_76 rfl (lv_at hl 2 rfl) ?_
            refine lv_imul hx hb dX9_rest_77 ?_
            refine lv_topi (fun v85 ev85 => ?_)
            refine lv_iload_n hx hb dX9_rest_78 rfl (lv_at hl 4 rfl) ?_
            refine lv_iadd hx hb dX9_rest_79 ?_
            refine lv_topi (fun v86 ev86 => ?_)
            rw [ev85, nI16] at ev86
            subst ev86
            refine pg_lald hx hb hK hP 2 hm7 hFqm7_80 rfl (vp_in_nI (by omega) (by decide)) dX9_rest_80 ?_
            refine lv_topl (fun v87 ev87 => ?_)
            rw [nI_clamp (by omega)] at ev87
            refine lv_lstore (lv' := [(6, .long v87), (4, .long v84), (0, .ref o), (1, .int (nI j_lg)), (2, .int (nI q_i)), (3, .int (nI q_k))]) hx hb dX9_rest_81 hl (by decide) rfl (fun ls hl => ?_)
            refine lv_iload_n hx hb dX9_rest_83 rfl (lv_at hl 3 rfl) ?_
            refine vp_callSi (W.runS (As := [.int (nI j_lg)]) (rest := []) ⟨hx, hb, hml, hown, hts⟩ (c9_laneOfLog l j_lg hj_lg) (va_cwS 1 hts gX9_rest_X9_laneOfLog rfl rfl rfl (by decide +kernel) ⟨Nat.le_of_ble_eq_true rfl, Nat.le_of_ble_eq_true rfl⟩) (preS_of okT (trivial)) rfl rfl hl.1 rfl (lv_room (Nat.le_of_ble_eq_true rfl)) dX9_rest_84 ⟨Nat.le_of_ble_eq_true rfl, Nat.le_of_ble_eq_true rfl⟩) (fun r88 hr88 => ?_)
            subst hr88
            refine lv_iconst (v := 2) hx hb dX9_rest_87 (by decide) ?_
            refine lv_icmp_ne (tgt := 109) hx hb dX9_rest_88 (by decide) (fun c89 => absurd (hl2) c89) (fun c89 => ?_)
            refine lv_aload_n hx hb dX9_rest_91 rfl (lv_at hl 2 rfl) ?_
            refine lv_iconst (v := 4) hx hb dX9_rest_92 (by decide) ?_
            refine lv_lload hx hb dX9_rest_93 (lv_at hl 1 rfl) ?_
            refine vp_callSf (W.runS (As := [.long v84]) (rest := [.int 4, .ref o]) ⟨hx, hb, hml, hown, hts⟩ (c9_floatOf l v84 (by rw [ev84]; exact (okV2 ((hVS j_lg hj_lg).2 q_i hs_i) hl2))) (va_cwS 1 hts gX9_rest_X9_floatOf rfl rfl rfl (by decide +kernel) ⟨Nat.le_of_ble_eq_true rfl, Nat.le_of_ble_eq_true rfl⟩) (preS_of okT (trivial)) rfl rfl hl.1 rfl (lv_room (Nat.le_of_ble_eq_true rfl)) dX9_rest_95 ⟨Nat.le_of_ble_eq_true rfl, Nat.le_of_ble_eq_true rfl⟩) (fun r90 hr90 => ?_)
            refine lv_lload hx hb dX9_rest_98 (lv_at hl 0 rfl) ?_
            refine vp_callSf (W.runS (As := [.long v87]) (rest := [.float r90, .int 4, .ref o]) ⟨hx, hb, hml, hown, hts⟩ (c9_floatOf l v87 (by rw [ev87]; exact (okV2 ((hVS j_lg hj_lg).2 q_k hs_k) hl2))) (va_cwS 1 hts gX9_rest_X9_floatOf rfl rfl rfl (by decide +kernel) ⟨Nat.le_of_ble_eq_true rfl, Nat.le_of_ble_eq_true rfl⟩) (preS_of okT (trivial)) rfl rfl hl.1 rfl (lv_room (Nat.le_of_ble_eq_true rfl)) dX9_rest_100 ⟨Nat.le_of_ble_eq_true rfl, Nat.le_of_ble_eq_true rfl⟩) (fun r91 hr91 => ?_)
            refine va_callv (va_runV (As := [.int 4, .float r90, .float r91]) (rest := []) ⟨hx, hb, hml, hown, hts⟩ (c9_rF_4 l G cy L F80 H.size o qm 0 Pp.1 0 oc hmo hFo_80 r90 r91 (by rw [hr90, ev84]; exact okV2 ((hVS j_lg hj_lg).2 q_i hs_i) hl2) (by rw [hr91, ev87]; exact okV2 ((hVS j_lg hj_lg).2 q_k hs_k) hl2) (by rw [hr90, ev84, hr91, ev87]; exact hnan)) (cwV 3 hts gX9_rest_X9_reckonFloats rfl rfl rfl (by decide +kernel) ⟨Nat.le_of_ble_eq_true rfl, Nat.le_of_ble_eq_true rfl⟩) (preV_of okQ (⟨rfl, hP, hK, hD.top⟩) (pl_recv hK hP (ci := 8) rfl hmo hFo_80)) rfl rfl hl.1 rfl (lv_room (Nat.le_of_ble_eq_true rfl)) dX9_rest_103 ⟨Nat.le_of_ble_eq_true rfl, Nat.le_of_ble_eq_true rfl⟩) hS (fun q _ h => pl_free hD hS hA q h) (pl_free hD hS hA) (fun F92 t H1 locs ht hvm hw hP1 hz1 hk1 hS => ?_)
            have hP1 : va_P G vwCl (va_pl L F92) t.heap := hP1
            rw [ht] at hP1
            have hP := hP1
            generalize H1 = H at hP hS ⊢
            have eF92 : F92 = va_up F80 o (.inr (8, [.int 0, .ref (qm 0), .ref (qm 1), .ref (qm 2), .ref (qm 3), .ref (qm 4), .ref (qm 5), .ref (qm 6), .ref (qm 7), .int Pp.1, .ref (qm 8), .ref (qm 9), .ref (qm 10), .ref (qm 11), .ref (qm 12), .ref (qm 13), .ref (qm 14), .int 0, .ref (qm 15), .long ((FP.frem r90 r91).toInt32.toInt64)])) := hw
            have hFo_92 : F92 o = .inr (8, [.int 0, .ref (qm 0), .ref (qm 1), .ref (qm 2), .ref (qm 3), .ref (qm 4), .ref (qm 5), .ref (qm 6), .ref (qm 7), .int Pp.1, .ref (qm 8), .ref (qm 9), .ref (qm 10), .ref (qm 11), .ref (qm 12), .ref (qm 13), .ref (qm 14), .int 0, .ref (qm 15), .long ((FP.frem r90 r91).toInt32.toInt64)]) := by rw [eF92]; exact va_up_self _ _ _
            have hFqm0_92 : F92 (qm 0) = cI (cy 1) 10 Mm.1 := by rw [eF92, va_up_ne _ _ (pl_ne hFqm0_80 hFo_80 rfl)]; exact hFqm0_80
            have hFqm1_92 : F92 (qm 1) = cJ (cy 2) 10 Mm.2 := by rw [eF92, va_up_ne _ _ (pl_ne hFqm1_80 hFo_80 rfl)]; exact hFqm1_80
            have hFqm2_92 : F92 (qm 2) = cD (cy 0) 6 Dd.1 := by rw [eF92, va_up_ne _ _ (pl_ne hFqm2_80 hFo_80 rfl)]; exact hFqm2_80
            have hFqm3_92 : F92 (qm 3) = cD (cy 0) 6 Dd.2.1 := by rw [eF92, va_up_ne _ _ (pl_ne hFqm3_80 hFo_80 rfl)]; exact hFqm3_80
            have hFqm4_92 : F92 (qm 4) = cD (cy 0) 6 Dd.2.2.1 := by rw [eF92, va_up_ne _ _ (pl_ne hFqm4_80 hFo_80 rfl)]; exact hFqm4_80
            have hFqm5_92 : F92 (qm 5) = cJ (cy 2) 6 Dd.2.2.2 := by rw [eF92, va_up_ne _ _ (pl_ne hFqm5_80 hFo_80 rfl)]; exact hFqm5_80
            have hFqm6_92 : F92 (qm 6) = cI (cy 1) 8 Sl.1 := by rw [eF92, va_up_ne _ _ (pl_ne hFqm6_80 hFo_80 rfl)]; exact hFqm6_80
            have hFqm7_92 : F92 (qm 7) = cJ (cy 2) 128 Sl.2 := by rw [eF92, va_up_ne _ _ (pl_ne hFqm7_80 hFo_80 rfl)]; exact hFqm7_80
            have hFqm8_92 : F92 (qm 8) = cI (cy 1) 30 Pp.2.1 := by rw [eF92, va_up_ne _ _ (pl_ne hFqm8_80 hFo_80 rfl)]; exact hFqm8_80
            have hFqm9_92 : F92 (qm 9) = cI (cy 3) 30 Pp.2.2 := by rw [eF92, va_up_ne _ _ (pl_ne hFqm9_80 hFo_80 rfl)]; exact hFqm9_80
            have hFqm10_92 : F92 (qm 10) = cI (cy 1) 5 Kr.1 := by rw [eF92, va_up_ne _ _ (pl_ne hFqm10_80 hFo_80 rfl)]; exact hFqm10_80
            have hFqm11_92 : F92 (qm 11) = cI (cy 3) 5 Kr.2.1 := by rw [eF92, va_up_ne _ _ (pl_ne hFqm11_80 hFo_80 rfl)]; exact hFqm11_80
            have hFqm12_92 : F92 (qm 12) = cI (cy 1) 60 Kr.2.2 := by rw [eF92, va_up_ne _ _ (pl_ne hFqm12_80 hFo_80 rfl)]; exact hFqm12_80
            have hFqm13_92 : F92 (qm 13) = cI (cy 1) 4 Bk.1 := by rw [eF92, va_up_ne _ _ (pl_ne hFqm13_80 hFo_80 rfl)]; exact hFqm13_80
            have hFqm14_92 : F92 (qm 14) = cD (cy 0) 4 Bk.2 := by rw [eF92, va_up_ne _ _ (pl_ne hFqm14_80 hFo_80 rfl)]; exact hFqm14_80
            have hFqm15_92 : F92 (qm 15) = cI (cy 1) 6 Xx.2 := by rw [eF92, va_up_ne _ _ (pl_ne hFqm15_80 hFo_80 rfl)]; exact hFqm15_80
            refine lv_goto (tgt := 124) hx hb dX9_rest_106 (by decide) ?_
            refine lv_aload_n hx hb dX9_rest_124 rfl (lv_at hl 2 rfl) ?_
            refine pg_get (ci := 8) (C := RX9) (T := TX9) (N := 20) hx hb hts hinX9 hown hK hP hmo hFo_92 rfl 17 (by decide) (hts (.fieldLink RX9 65 "RopeDrumsModel" "failed" "I") (by decide +kernel)) (fun _ h9 => h9) rfl dX9_rest_125 ?_
            refine lv_if_ne (tgt := 146) hx hb dX9_rest_128 (by decide) (fun c93 => absurd (by decide) c93) (fun c93 => ?_)
            refine lv_aload_n hx hb dX9_rest_131 rfl (lv_at hl 2 rfl) ?_
            refine pg_get (ci := 8) (C := RX9) (T := TX9) (N := 20) hx hb hts hinX9 hown hK hP hmo hFo_92 rfl 8 (by decide) (hts (.fieldLink RX9 33 "RopeDrumsModel" "logBits" "[J") (by decide +kernel)) (fun _ h9 => h9) rfl dX9_rest_132 ?_
            refine lv_bipush (v := 16) hx hb dX9_rest_135 (by decide) ?_
            refine lv_iload_n hx hb dX9_rest_137 rfl (lv_at hl 3 rfl) ?_
            refine lv_imul hx hb dX9_rest_138 ?_
            refine lv_topi (fun v94 ev94 => ?_)
            refine lv_iload_n hx hb dX9_rest_139 rfl (lv_at hl 4 rfl) ?_
            refine lv_iadd hx hb dX9_rest_140 ?_
            refine lv_topi (fun v95 ev95 => ?_)
            rw [ev94, nI16] at ev95
            subst ev95
            refine lv_aload_n hx hb dX9_rest_141 rfl (lv_at hl 2 rfl) ?_
            refine pg_get (ci := 8) (C := RX9) (T := TX9) (N := 20) hx hb hts hinX9 hown hK hP hmo hFo_92 rfl 19 (by decide) (hts (.fieldLink RX9 131 "RopeDrumsModel" "outcome" "J") (by decide +kernel)) (fun _ h9 => h9) rfl dX9_rest_142 ?_
            refine pg_last hx hb hK hP hD hS 2 hm7 hFqm7_92 rfl (vp_in_nI (by omega) (by decide)) dX9_rest_145 (fun H locs F96 eF96 hP hS => ?_)
            rw [nI_clamp (by omega)] at eF96
            have hFo_96 : F96 o = .inr (8, [.int 0, .ref (qm 0), .ref (qm 1), .ref (qm 2), .ref (qm 3), .ref (qm 4), .ref (qm 5), .ref (qm 6), .ref (qm 7), .int Pp.1, .ref (qm 8), .ref (qm 9), .ref (qm 10), .ref (qm 11), .ref (qm 12), .ref (qm 13), .ref (qm 14), .int 0, .ref (qm 15), .long ((FP.frem r90 r91).toInt32.toInt64)]) := by rw [eF96, va_up_ne _ _ (pl_ne hFo_92 hFqm7_92 rfl)]; exact hFo_92
            have hFqm0_96 : F96 (qm 0) = cI (cy 1) 10 Mm.1 := by rw [eF96, va_up_ne _ _ (pl_ne hFqm0_92 hFqm7_92 rfl)]; exact hFqm0_92
            have hFqm1_96 : F96 (qm 1) = cJ (cy 2) 10 Mm.2 := by rw [eF96, va_up_ne _ _ (pl_ne hFqm1_92 hFqm7_92 rfl)]; exact hFqm1_92
            have hFqm2_96 : F96 (qm 2) = cD (cy 0) 6 Dd.1 := by rw [eF96, va_up_ne _ _ (pl_ne hFqm2_92 hFqm7_92 rfl)]; exact hFqm2_92
            have hFqm3_96 : F96 (qm 3) = cD (cy 0) 6 Dd.2.1 := by rw [eF96, va_up_ne _ _ (pl_ne hFqm3_92 hFqm7_92 rfl)]; exact hFqm3_92
            have hFqm4_96 : F96 (qm 4) = cD (cy 0) 6 Dd.2.2.1 := by rw [eF96, va_up_ne _ _ (pl_ne hFqm4_92 hFqm7_92 rfl)]; exact hFqm4_92
            have hFqm5_96 : F96 (qm 5) = cJ (cy 2) 6 Dd.2.2.2 := by rw [eF96, va_up_ne _ _ (pl_ne hFqm5_92 hFqm7_92 rfl)]; exact hFqm5_92
            have hFqm6_96 : F96 (qm 6) = cI (cy 1) 8 Sl.1 := by rw [eF96, va_up_ne _ _ (pl_ne hFqm6_92 hFqm7_92 rfl)]; exact hFqm6_92
            have hFqm7_96 : F96 (qm 7) = cJ (cy 2) 128 (vp_updL Sl.2 (16 * j_lg + q_i) ((FP.frem r90 r91).toInt32.toInt64)) := by rw [eF96]; exact va_up_self _ _ _
            have hFqm8_96 : F96 (qm 8) = cI (cy 1) 30 Pp.2.1 := by rw [eF96, va_up_ne _ _ (pl_ne hFqm8_92 hFqm7_92 rfl)]; exact hFqm8_92
            have hFqm9_96 : F96 (qm 9) = cI (cy 3) 30 Pp.2.2 := by rw [eF96, va_up_ne _ _ (pl_ne hFqm9_92 hFqm7_92 rfl)]; exact hFqm9_92
            have hFqm10_96 : F96 (qm 10) = cI (cy 1) 5 Kr.1 := by rw [eF96, va_up_ne _ _ (pl_ne hFqm10_92 hFqm7_92 rfl)]; exact hFqm10_92
            have hFqm11_96 : F96 (qm 11) = cI (cy 3) 5 Kr.2.1 := by rw [eF96, va_up_ne _ _ (pl_ne hFqm11_92 hFqm7_92 rfl)]; exact hFqm11_92
            have hFqm12_96 : F96 (qm 12) = cI (cy 1) 60 Kr.2.2 := by rw [eF96, va_up_ne _ _ (pl_ne hFqm12_92 hFqm7_92 rfl)]; exact hFqm12_92
            have hFqm13_96 : F96 (qm 13) = cI (cy 1) 4 Bk.1 := by rw [eF96, va_up_ne _ _ (pl_ne hFqm13_92 hFqm7_92 rfl)]; exact hFqm13_92
            have hFqm14_96 : F96 (qm 14) = cD (cy 0) 4 Bk.2 := by rw [eF96, va_up_ne _ _ (pl_ne hFqm14_92 hFqm7_92 rfl)]; exact hFqm14_92
            have hFqm15_96 : F96 (qm 15) = cI (cy 1) 6 Xx.2 := by rw [eF96, va_up_ne _ _ (pl_ne hFqm15_92 hFqm7_92 rfl)]; exact hFqm15_92
            refine lv_aload_n hx hb dX9_rest_146 rfl (lv_at hl 2 rfl) ?_
            refine lv_iconst (v := 1) hx hb dX9_rest_147 (by decide) ?_
            refine va_calli (va_runV (As := [.int 1]) (rest := []) ⟨hx, hb, hml, hown, hts⟩ (c9_answers_0 l G cy L F96 H.size o qm 0 Pp.1 ((FP.frem r90 r91).toInt32.toInt64) hmo hFo_96 Xx.2 hm15 hFqm15_96 1) (cwV 1 hts gX9_rest_X9_answers rfl rfl rfl (by decide +kernel) ⟨Nat.le_of_ble_eq_true rfl, Nat.le_of_ble_eq_true rfl⟩) (preV_of okQ (⟨rfl, hP, hK, hD.top⟩) (pl_recv hK hP (ci := 8) rfl hmo hFo_96)) rfl rfl hl.1 rfl (lv_room (Nat.le_of_ble_eq_true rfl)) dX9_rest_148 ⟨Nat.le_of_ble_eq_true rfl, Nat.le_of_ble_eq_true rfl⟩) hS (fun q _ h => pl_free hD hS hA q h) (pl_free hD hS hA) (fun r98 F97 t H1 locs ht hvm hw hP1 hz1 hk1 hS => ?_)
            have hP1 : va_P G vwCl (va_pl L F97) t.heap := hP1
            rw [ht] at hP1
            have hP := hP1
            generalize H1 = H at hP hS ⊢
            obtain ⟨hqr98, eF97⟩ := hw
            have hFo_F97 : F97 o = .inr (8, [.int 0, .ref (qm 0), .ref (qm 1), .ref (qm 2), .ref (qm 3), .ref (qm 4), .ref (qm 5), .ref (qm 6), .ref (qm 7), .int Pp.1, .ref (qm 8), .ref (qm 9), .ref (qm 10), .ref (qm 11), .ref (qm 12), .ref (qm 13), .ref (qm 14), .int 0, .ref (qm 15), .long ((FP.frem r90 r91).toInt32.toInt64)]) := by rw [eF97]; exact hFo_96
            have hFqm0_F97 : F97 (qm 0) = cI (cy 1) 10 Mm.1 := by rw [eF97]; exact hFqm0_96
            have hFqm1_F97 : F97 (qm 1) = cJ (cy 2) 10 Mm.2 := by rw [eF97]; exact hFqm1_96
            have hFqm2_F97 : F97 (qm 2) = cD (cy 0) 6 Dd.1 := by rw [eF97]; exact hFqm2_96
            have hFqm3_F97 : F97 (qm 3) = cD (cy 0) 6 Dd.2.1 := by rw [eF97]; exact hFqm3_96
            have hFqm4_F97 : F97 (qm 4) = cD (cy 0) 6 Dd.2.2.1 := by rw [eF97]; exact hFqm4_96
            have hFqm5_F97 : F97 (qm 5) = cJ (cy 2) 6 Dd.2.2.2 := by rw [eF97]; exact hFqm5_96
            have hFqm6_F97 : F97 (qm 6) = cI (cy 1) 8 Sl.1 := by rw [eF97]; exact hFqm6_96
            have hFqm7_F97 : F97 (qm 7) = cJ (cy 2) 128 (vp_updL Sl.2 (16 * j_lg + q_i) ((FP.frem r90 r91).toInt32.toInt64)) := by rw [eF97]; exact hFqm7_96
            have hFqm8_F97 : F97 (qm 8) = cI (cy 1) 30 Pp.2.1 := by rw [eF97]; exact hFqm8_96
            have hFqm9_F97 : F97 (qm 9) = cI (cy 3) 30 Pp.2.2 := by rw [eF97]; exact hFqm9_96
            have hFqm10_F97 : F97 (qm 10) = cI (cy 1) 5 Kr.1 := by rw [eF97]; exact hFqm10_96
            have hFqm11_F97 : F97 (qm 11) = cI (cy 3) 5 Kr.2.1 := by rw [eF97]; exact hFqm11_96
            have hFqm12_F97 : F97 (qm 12) = cI (cy 1) 60 Kr.2.2 := by rw [eF97]; exact hFqm12_96
            have hFqm13_F97 : F97 (qm 13) = cI (cy 1) 4 Bk.1 := by rw [eF97]; exact hFqm13_96
            have hFqm14_F97 : F97 (qm 14) = cD (cy 0) 4 Bk.2 := by rw [eF97]; exact hFqm14_96
            have hFqm15_F97 : F97 (qm 15) = cI (cy 1) 6 Xx.2 := by rw [eF97]; exact hFqm15_96
            have hr98 := hqr98
            exact W.iret (v := r98) hx hb hr (fun t ht hW => ⟨⟨r98, F97, rfl, (by subst hr98 ev94 hr91 hr90 ev87 ev85 ev84 ev82; have hsp : sp_rest Sl Xx (nI j_lg) (nI q_i) (nI q_k) = (1, (Sl.1, vp_updL Sl.2 (16 * j_lg + q_i) (FP.frem (fl (Sl.2 (16 * j_lg + q_i))) (fl (Sl.2 (16 * j_lg + q_k)))).toInt32.toInt64), goodX Xx) := (by unfold sp_rest; rw [hi_lg]; exact (if_pos hp_i).trans ((if_pos hp_k).trans ((if_pos hl2).trans (by rw [nI_tn (q := q_i) (by omega), nI_tn (q := q_k) (by omega)]; exact if_neg (by rw [hnan]; decide))))); rw [hsp]; exact ⟨rfl, (by exact ⟨⟨_, _, hmo, hFo_F97⟩, ⟨hm0, hFqm0_F97⟩, ⟨hm1, hFqm1_F97⟩, ⟨hm2, hFqm2_F97⟩, ⟨hm3, hFqm3_F97⟩, ⟨hm4, hFqm4_F97⟩, ⟨hm5, hFqm5_F97⟩, ⟨hm6, hFqm6_F97⟩, ⟨hm7, hFqm7_F97⟩, ⟨hm8, hFqm8_F97⟩, ⟨hm9, hFqm9_F97⟩, ⟨hm10, hFqm10_F97⟩, ⟨hm11, hFqm11_F97⟩, ⟨hm12, hFqm12_F97⟩, ⟨hm13, hFqm13_F97⟩, ⟨hm14, hFqm14_F97⟩, ⟨hm15, hFqm15_F97⟩, hne⟩)⟩), (by show va_P _ _ _ t.heap; rw [ht]; exact hP)⟩, hS.F ht⟩) hS.2.2 dX9_rest_151
        · by_cases hnan0 : FP.Core.dIsNaN (FP.drem (db (Sl.2 (16 * j_lg + q_i))) (db (Sl.2 (16 * j_lg + q_k)))) = true
          · have hnan := hnan0
            refine lv_aload_n hx hb dX9_rest_0 rfl (lv_at hl 0 rfl) ?_
            refine lv_iconst (v := 0) hx hb dX9_rest_1 (by decide) ?_
            refine pg_put (ci := 8) (v := .int 0) (ty := .int) (C := RX9) (T := TX9) (N := 20) hx hb hts hinX9 tyX9 tyX9_ok nmX9 hown hK hP hD hS hmo hFo rfl 0 (by decide) (hts (.fieldLink RX9 61 "RopeDrumsModel" "thrown" "I") (by decide +kernel)) (fun _ h9 => h9) rfl (by decide +kernel) (rfl) (rfl) (Nat.le_of_ble_eq_true rfl) dX9_rest_2 (fun H locs F99 eF99 hP hS => ?_)
            have eF99 : F99 = va_up F o (.inr (8, [.int 0, .ref (qm 0), .ref (qm 1), .ref (qm 2), .ref (qm 3), .ref (qm 4), .ref (qm 5), .ref (qm 6), .ref (qm 7), .int Pp.1, .ref (qm 8), .ref (qm 9), .ref (qm 10), .ref (qm 11), .ref (qm 12), .ref (qm 13), .ref (qm 14), .int Xx.1, .ref (qm 15), .long oc])) := eF99
            have hFo_99 : F99 o = .inr (8, [.int 0, .ref (qm 0), .ref (qm 1), .ref (qm 2), .ref (qm 3), .ref (qm 4), .ref (qm 5), .ref (qm 6), .ref (qm 7), .int Pp.1, .ref (qm 8), .ref (qm 9), .ref (qm 10), .ref (qm 11), .ref (qm 12), .ref (qm 13), .ref (qm 14), .int Xx.1, .ref (qm 15), .long oc]) := by rw [eF99]; exact va_up_self _ _ _
            have hFqm0_99 : F99 (qm 0) = cI (cy 1) 10 Mm.1 := by rw [eF99, va_up_ne _ _ (pl_ne hF0 hFo rfl)]; exact hF0
            have hFqm1_99 : F99 (qm 1) = cJ (cy 2) 10 Mm.2 := by rw [eF99, va_up_ne _ _ (pl_ne hF1 hFo rfl)]; exact hF1
            have hFqm2_99 : F99 (qm 2) = cD (cy 0) 6 Dd.1 := by rw [eF99, va_up_ne _ _ (pl_ne hF2 hFo rfl)]; exact hF2
            have hFqm3_99 : F99 (qm 3) = cD (cy 0) 6 Dd.2.1 := by rw [eF99, va_up_ne _ _ (pl_ne hF3 hFo rfl)]; exact hF3
            have hFqm4_99 : F99 (qm 4) = cD (cy 0) 6 Dd.2.2.1 := by rw [eF99, va_up_ne _ _ (pl_ne hF4 hFo rfl)]; exact hF4
            have hFqm5_99 : F99 (qm 5) = cJ (cy 2) 6 Dd.2.2.2 := by rw [eF99, va_up_ne _ _ (pl_ne hF5 hFo rfl)]; exact hF5
            have hFqm6_99 : F99 (qm 6) = cI (cy 1) 8 Sl.1 := by rw [eF99, va_up_ne _ _ (pl_ne hF6 hFo rfl)]; exact hF6
            have hFqm7_99 : F99 (qm 7) = cJ (cy 2) 128 Sl.2 := by rw [eF99, va_up_ne _ _ (pl_ne hF7 hFo rfl)]; exact hF7
            have hFqm8_99 : F99 (qm 8) = cI (cy 1) 30 Pp.2.1 := by rw [eF99, va_up_ne _ _ (pl_ne hF8 hFo rfl)]; exact hF8
            have hFqm9_99 : F99 (qm 9) = cI (cy 3) 30 Pp.2.2 := by rw [eF99, va_up_ne _ _ (pl_ne hF9 hFo rfl)]; exact hF9
            have hFqm10_99 : F99 (qm 10) = cI (cy 1) 5 Kr.1 := by rw [eF99, va_up_ne _ _ (pl_ne hF10 hFo rfl)]; exact hF10
            have hFqm11_99 : F99 (qm 11) = cI (cy 3) 5 Kr.2.1 := by rw [eF99, va_up_ne _ _ (pl_ne hF11 hFo rfl)]; exact hF11
            have hFqm12_99 : F99 (qm 12) = cI (cy 1) 60 Kr.2.2 := by rw [eF99, va_up_ne _ _ (pl_ne hF12 hFo rfl)]; exact hF12
            have hFqm13_99 : F99 (qm 13) = cI (cy 1) 4 Bk.1 := by rw [eF99, va_up_ne _ _ (pl_ne hF13 hFo rfl)]; exact hF13
            have hFqm14_99 : F99 (qm 14) = cD (cy 0) 4 Bk.2 := by rw [eF99, va_up_ne _ _ (pl_ne hF14 hFo rfl)]; exact hF14
            have hFqm15_99 : F99 (qm 15) = cI (cy 1) 6 Xx.2 := by rw [eF99, va_up_ne _ _ (pl_ne hF15 hFo rfl)]; exact hF15
            refine lv_iload_n hx hb dX9_rest_5 rfl (lv_at hl 1 rfl) ?_
            refine vp_callSi (W.runS (As := [.int (nI j_lg)]) (rest := []) ⟨hx, hb, hml, hown, hts⟩ (c9_isLog l (nI j_lg)) (va_cwS 1 hts gX9_rest_X9_isLog rfl rfl rfl (by decide +kernel) ⟨Nat.le_of_ble_eq_true rfl, Nat.le_of_ble_eq_true rfl⟩) (preS_of okT (trivial)) rfl rfl hl.1 rfl (lv_room (Nat.le_of_ble_eq_true rfl)) dX9_rest_6 ⟨Nat.le_of_ble_eq_true rfl, Nat.le_of_ble_eq_true rfl⟩) (fun r100 hr100 => ?_)
            rw [isx1 hi_lg] at hr100
            subst hr100
            refine lv_if_ne (tgt := 16) hx hb dX9_rest_9 (by decide) (fun c101 => ?_) (fun c101 => absurd c101 (by decide))
            refine lv_aload_n hx hb dX9_rest_16 rfl (lv_at hl 0 rfl) ?_
            refine lv_aload_n hx hb dX9_rest_17 rfl (lv_at hl 0 rfl) ?_
            refine lv_iload_n hx hb dX9_rest_18 rfl (lv_at hl 1 rfl) ?_
            refine lv_iload_n hx hb dX9_rest_19 rfl (lv_at hl 2 rfl) ?_
            refine vp_callSi (W.runV (As := [.int (nI j_lg), .int (nI q_i)]) (rest := [.ref o]) ⟨hx, hb, hml, hown, hts⟩ (c9_logCause l G cy L F99 o qm 0 Pp.1 Xx.1 oc hmo hFo_99 Sl.1 hm6 hFqm6_99 j_lg hj_lg (nI q_i) ((hVS j_lg hj_lg).1)) (cwV 2 hts gX9_rest_X9_logCause rfl rfl rfl (by decide +kernel) ⟨Nat.le_of_ble_eq_true rfl, Nat.le_of_ble_eq_true rfl⟩) (preV_of okP (⟨hP, hK, hD.top⟩) (pl_recv hK hP (ci := 8) rfl hmo hFo_99)) rfl rfl hl.1 rfl (lv_room (Nat.le_of_ble_eq_true rfl)) dX9_rest_20 ⟨Nat.le_of_ble_eq_true rfl, Nat.le_of_ble_eq_true rfl⟩) (fun r102 hr102 => ?_)
            rw [hp_i] at hr102
            have hzr102 : r102 = 0 := hr102
            clear hr102
            subst hzr102
            refine pg_put (ci := 8) (v := .int 0) (ty := .int) (C := RX9) (T := TX9) (N := 20) hx hb hts hinX9 tyX9 tyX9_ok nmX9 hown hK hP hD hS hmo hFo_99 rfl 17 (by decide) (hts (.fieldLink RX9 65 "RopeDrumsModel" "failed" "I") (by decide +kernel)) (fun _ h9 => h9) rfl (by decide +kernel) (rfl) (rfl) (Nat.le_of_ble_eq_true rfl) dX9_rest_23 (fun H locs F103 eF103 hP hS => ?_)
            have eF103 : F103 = va_up F99 o (.inr (8, [.int 0, .ref (qm 0), .ref (qm 1), .ref (qm 2), .ref (qm 3), .ref (qm 4), .ref (qm 5), .ref (qm 6), .ref (qm 7), .int Pp.1, .ref (qm 8), .ref (qm 9), .ref (qm 10), .ref (qm 11), .ref (qm 12), .ref (qm 13), .ref (qm 14), .int 0, .ref (qm 15), .long oc])) := eF103
            have hFo_103 : F103 o = .inr (8, [.int 0, .ref (qm 0), .ref (qm 1), .ref (qm 2), .ref (qm 3), .ref (qm 4), .ref (qm 5), .ref (qm 6), .ref (qm 7), .int Pp.1, .ref (qm 8), .ref (qm 9), .ref (qm 10), .ref (qm 11), .ref (qm 12), .ref (qm 13), .ref (qm 14), .int 0, .ref (qm 15), .long oc]) := by rw [eF103]; exact va_up_self _ _ _
            have hFqm0_103 : F103 (qm 0) = cI (cy 1) 10 Mm.1 := by rw [eF103, va_up_ne _ _ (pl_ne hFqm0_99 hFo_99 rfl)]; exact hFqm0_99
            have hFqm1_103 : F103 (qm 1) = cJ (cy 2) 10 Mm.2 := by rw [eF103, va_up_ne _ _ (pl_ne hFqm1_99 hFo_99 rfl)]; exact hFqm1_99
            have hFqm2_103 : F103 (qm 2) = cD (cy 0) 6 Dd.1 := by rw [eF103, va_up_ne _ _ (pl_ne hFqm2_99 hFo_99 rfl)]; exact hFqm2_99
            have hFqm3_103 : F103 (qm 3) = cD (cy 0) 6 Dd.2.1 := by rw [eF103, va_up_ne _ _ (pl_ne hFqm3_99 hFo_99 rfl)]; exact hFqm3_99
            have hFqm4_103 : F103 (qm 4) = cD (cy 0) 6 Dd.2.2.1 := by rw [eF103, va_up_ne _ _ (pl_ne hFqm4_99 hFo_99 rfl)]; exact hFqm4_99
            have hFqm5_103 : F103 (qm 5) = cJ (cy 2) 6 Dd.2.2.2 := by rw [eF103, va_up_ne _ _ (pl_ne hFqm5_99 hFo_99 rfl)]; exact hFqm5_99
            have hFqm6_103 : F103 (qm 6) = cI (cy 1) 8 Sl.1 := by rw [eF103, va_up_ne _ _ (pl_ne hFqm6_99 hFo_99 rfl)]; exact hFqm6_99
            have hFqm7_103 : F103 (qm 7) = cJ (cy 2) 128 Sl.2 := by rw [eF103, va_up_ne _ _ (pl_ne hFqm7_99 hFo_99 rfl)]; exact hFqm7_99
            have hFqm8_103 : F103 (qm 8) = cI (cy 1) 30 Pp.2.1 := by rw [eF103, va_up_ne _ _ (pl_ne hFqm8_99 hFo_99 rfl)]; exact hFqm8_99
            have hFqm9_103 : F103 (qm 9) = cI (cy 3) 30 Pp.2.2 := by rw [eF103, va_up_ne _ _ (pl_ne hFqm9_99 hFo_99 rfl)]; exact hFqm9_99
            have hFqm10_103 : F103 (qm 10) = cI (cy 1) 5 Kr.1 := by rw [eF103, va_up_ne _ _ (pl_ne hFqm10_99 hFo_99 rfl)]; exact hFqm10_99
            have hFqm11_103 : F103 (qm 11) = cI (cy 3) 5 Kr.2.1 := by rw [eF103, va_up_ne _ _ (pl_ne hFqm11_99 hFo_99 rfl)]; exact hFqm11_99
            have hFqm12_103 : F103 (qm 12) = cI (cy 1) 60 Kr.2.2 := by rw [eF103, va_up_ne _ _ (pl_ne hFqm12_99 hFo_99 rfl)]; exact hFqm12_99
            have hFqm13_103 : F103 (qm 13) = cI (cy 1) 4 Bk.1 := by rw [eF103, va_up_ne _ _ (pl_ne hFqm13_99 hFo_99 rfl)]; exact hFqm13_99
            have hFqm14_103 : F103 (qm 14) = cD (cy 0) 4 Bk.2 := by rw [eF103, va_up_ne _ _ (pl_ne hFqm14_99 hFo_99 rfl)]; exact hFqm14_99
            have hFqm15_103 : F103 (qm 15) = cI (cy 1) 6 Xx.2 := by rw [eF103, va_up_ne _ _ (pl_ne hFqm15_99 hFo_99 rfl)]; exact hFqm15_99
            refine lv_aload_n hx hb dX9_rest_26 rfl (lv_at hl 0 rfl) ?_
            refine lv_aload_n hx hb dX9_rest_27 rfl (lv_at hl 0 rfl) ?_
            refine pg_get (ci := 8) (C := RX9) (T := TX9) (N := 20) hx hb hts hinX9 hown hK hP hmo hFo_103 rfl 17 (by decide) (hts (.fieldLink RX9 65 "RopeDrumsModel" "failed" "I") (by decide +kernel)) (fun _ h9 => h9) rfl dX9_rest_28 ?_
            refine lv_if_ne (tgt := 43) hx hb dX9_rest_31 (by decide) (fun c104 => absurd (by decide) c104) (fun c104 => ?_)
            refine lv_aload_n hx hb dX9_rest_34 rfl (lv_at hl 0 rfl) ?_
            refine lv_iload_n hx hb dX9_rest_35 rfl (lv_at hl 1 rfl) ?_
            refine lv_iload_n hx hb dX9_rest_36 rfl (lv_at hl 3 rfl) ?_
            refine vp_callSi (W.runV (As := [.int (nI j_lg), .int (nI q_k)]) (rest := [.ref o]) ⟨hx, hb, hml, hown, hts⟩ (c9_logCause l G cy L F103 o qm 0 Pp.1 0 oc hmo hFo_103 Sl.1 hm6 hFqm6_103 j_lg hj_lg (nI q_k) ((hVS j_lg hj_lg).1)) (cwV 2 hts gX9_rest_X9_logCause rfl rfl rfl (by decide +kernel) ⟨Nat.le_of_ble_eq_true rfl, Nat.le_of_ble_eq_true rfl⟩) (preV_of okP (⟨hP, hK, hD.top⟩) (pl_recv hK hP (ci := 8) rfl hmo hFo_103)) rfl rfl hl.1 rfl (lv_room (Nat.le_of_ble_eq_true rfl)) dX9_rest_37 ⟨Nat.le_of_ble_eq_true rfl, Nat.le_of_ble_eq_true rfl⟩) (fun r105 hr105 => ?_)
            rw [hp_k] at hr105
            have hzr105 : r105 = 0 := hr105
            clear hr105
            subst hzr105
            refine lv_goto (tgt := 47) hx hb dX9_rest_40 (by decide) ?_
            refine pg_put (ci := 8) (v := .int 0) (ty := .int) (C := RX9) (T := TX9) (N := 20) hx hb hts hinX9 tyX9 tyX9_ok nmX9 hown hK hP hD hS hmo hFo_103 rfl 17 (by decide) (hts (.fieldLink RX9 65 "RopeDrumsModel" "failed" "I") (by decide +kernel)) (fun _ h9 => h9) rfl (by decide +kernel) (rfl) (rfl) (Nat.le_of_ble_eq_true rfl) dX9_rest_47 (fun H locs F106 eF106 hP hS => ?_)
            have eF106 : F106 = va_up F103 o (.inr (8, [.int 0, .ref (qm 0), .ref (qm 1), .ref (qm 2), .ref (qm 3), .ref (qm 4), .ref (qm 5), .ref (qm 6), .ref (qm 7), .int Pp.1, .ref (qm 8), .ref (qm 9), .ref (qm 10), .ref (qm 11), .ref (qm 12), .ref (qm 13), .ref (qm 14), .int 0, .ref (qm 15), .long oc])) := eF106
            have hFo_106 : F106 o = .inr (8, [.int 0, .ref (qm 0), .ref (qm 1), .ref (qm 2), .ref (qm 3), .ref (qm 4), .ref (qm 5), .ref (qm 6), .ref (qm 7), .int Pp.1, .ref (qm 8), .ref (qm 9), .ref (qm 10), .ref (qm 11), .ref (qm 12), .ref (qm 13), .ref (qm 14), .int 0, .ref (qm 15), .long oc]) := by rw [eF106]; exact va_up_self _ _ _
            have hFqm0_106 : F106 (qm 0) = cI (cy 1) 10 Mm.1 := by rw [eF106, va_up_ne _ _ (pl_ne hFqm0_103 hFo_103 rfl)]; exact hFqm0_103
            have hFqm1_106 : F106 (qm 1) = cJ (cy 2) 10 Mm.2 := by rw [eF106, va_up_ne _ _ (pl_ne hFqm1_103 hFo_103 rfl)]; exact hFqm1_103
            have hFqm2_106 : F106 (qm 2) = cD (cy 0) 6 Dd.1 := by rw [eF106, va_up_ne _ _ (pl_ne hFqm2_103 hFo_103 rfl)]; exact hFqm2_103
            have hFqm3_106 : F106 (qm 3) = cD (cy 0) 6 Dd.2.1 := by rw [eF106, va_up_ne _ _ (pl_ne hFqm3_103 hFo_103 rfl)]; exact hFqm3_103
            have hFqm4_106 : F106 (qm 4) = cD (cy 0) 6 Dd.2.2.1 := by rw [eF106, va_up_ne _ _ (pl_ne hFqm4_103 hFo_103 rfl)]; exact hFqm4_103
            have hFqm5_106 : F106 (qm 5) = cJ (cy 2) 6 Dd.2.2.2 := by rw [eF106, va_up_ne _ _ (pl_ne hFqm5_103 hFo_103 rfl)]; exact hFqm5_103
            have hFqm6_106 : F106 (qm 6) = cI (cy 1) 8 Sl.1 := by rw [eF106, va_up_ne _ _ (pl_ne hFqm6_103 hFo_103 rfl)]; exact hFqm6_103
            have hFqm7_106 : F106 (qm 7) = cJ (cy 2) 128 Sl.2 := by rw [eF106, va_up_ne _ _ (pl_ne hFqm7_103 hFo_103 rfl)]; exact hFqm7_103
            have hFqm8_106 : F106 (qm 8) = cI (cy 1) 30 Pp.2.1 := by rw [eF106, va_up_ne _ _ (pl_ne hFqm8_103 hFo_103 rfl)]; exact hFqm8_103
            have hFqm9_106 : F106 (qm 9) = cI (cy 3) 30 Pp.2.2 := by rw [eF106, va_up_ne _ _ (pl_ne hFqm9_103 hFo_103 rfl)]; exact hFqm9_103
            have hFqm10_106 : F106 (qm 10) = cI (cy 1) 5 Kr.1 := by rw [eF106, va_up_ne _ _ (pl_ne hFqm10_103 hFo_103 rfl)]; exact hFqm10_103
            have hFqm11_106 : F106 (qm 11) = cI (cy 3) 5 Kr.2.1 := by rw [eF106, va_up_ne _ _ (pl_ne hFqm11_103 hFo_103 rfl)]; exact hFqm11_103
            have hFqm12_106 : F106 (qm 12) = cI (cy 1) 60 Kr.2.2 := by rw [eF106, va_up_ne _ _ (pl_ne hFqm12_103 hFo_103 rfl)]; exact hFqm12_103
            have hFqm13_106 : F106 (qm 13) = cI (cy 1) 4 Bk.1 := by rw [eF106, va_up_ne _ _ (pl_ne hFqm13_103 hFo_103 rfl)]; exact hFqm13_103
            have hFqm14_106 : F106 (qm 14) = cD (cy 0) 4 Bk.2 := by rw [eF106, va_up_ne _ _ (pl_ne hFqm14_103 hFo_103 rfl)]; exact hFqm14_103
            have hFqm15_106 : F106 (qm 15) = cI (cy 1) 6 Xx.2 := by rw [eF106, va_up_ne _ _ (pl_ne hFqm15_103 hFo_103 rfl)]; exact hFqm15_103
            refine lv_aload_n hx hb dX9_rest_50 rfl (lv_at hl 0 rfl) ?_
            refine pg_get (ci := 8) (C := RX9) (T := TX9) (N := 20) hx hb hts hinX9 hown hK hP hmo hFo_106 rfl 17 (by decide) (hts (.fieldLink RX9 65 "RopeDrumsModel" "failed" "I") (by decide +kernel)) (fun _ h9 => h9) rfl dX9_rest_51 ?_
            refine lv_if_ne (tgt := 124) hx hb dX9_rest_54 (by decide) (fun c107 => absurd (by decide) c107) (fun c107 => ?_)
            refine lv_aload_n hx hb dX9_rest_57 rfl (lv_at hl 0 rfl) ?_
            refine pg_get (ci := 8) (C := RX9) (T := TX9) (N := 20) hx hb hts hinX9 hown hK hP hmo hFo_106 rfl 8 (by decide) (hts (.fieldLink RX9 33 "RopeDrumsModel" "logBits" "[J") (by decide +kernel)) (fun _ h9 => h9) rfl dX9_rest_58 ?_
            refine lv_bipush (v := 16) hx hb dX9_rest_61 (by decide) ?_
            refine lv_iload_n hx hb dX9_rest_63 rfl (lv_at hl 1 rfl) ?_
            refine lv_imul hx hb dX9_rest_64 ?_
            refine lv_topi (fun v108 ev108 => ?_)
            refine lv_iload_n hx hb dX9_rest_65 rfl (lv_at hl 2 rfl) ?_
            refine lv_iadd hx hb dX9_rest_66 ?_
            refine lv_topi (fun v109 ev109 => ?_)
            rw [ev108, nI16] at ev109
            subst ev109
            refine pg_lald hx hb hK hP 2 hm7 hFqm7_106 rfl (vp_in_nI (by omega) (by decide)) dX9_rest_67 ?_
            refine lv_topl (fun v110 ev110 => ?_)
            rw [nI_clamp (by omega)] at ev110
            refine lv_lstore (lv' := [(4, .long v110), (0, .ref o), (1, .int (nI j_lg)), (2, .int (nI q_i)), (3, .int (nI q_k))]) hx hb dX9_rest_68 hl (by decide) rfl (fun ls hl => ?_)
            refine lv_aload_n hx hb dX9_rest_70 rfl (lv_at hl 1 rfl) ?_
            refine pg_get (ci := 8) (C := RX9) (T := TX9) (N := 20) hx hb hts hinX9 hown hK hP hmo hFo_106 rfl 8 (by decide) (hts (.fieldLink RX9 33 "RopeDrumsModel" "logBits" "[J") (by decide +kernel)) (fun _ h9 => h9) rfl dX9_rest_71 ?_
            refine lv_bipush (v := 16) hx hb dX9_rest_74 (by decide) ?_
            refine lv_iload_n hx hb dX9_rest_76 rfl (lv_at hl 2 rfl) ?_
            refine lv_imul hx hb dX9_rest_77 ?_
            refine lv_topi (fun v111 ev111 => ?_)
            refine lv_iload_n hx hb dX9_rest_78 rfl (lv_at hl 4 rfl) ?_
            refine lv_iadd hx hb dX9_rest_79 ?_
            refine lv_topi (fun v112 ev112 => ?_)
            rw [ev111, nI16] at ev112
            subst ev112
            refine pg_lald hx hb hK hP 2 hm7 hFqm7_106 rfl (vp_in_nI (by omega) (by decide)) dX9_rest_80 ?_
            refine lv_topl (fun v113 ev113 => ?_)
            rw [nI_clamp (by omega)] at ev113
            refine lv_lstore (lv' := [(6, .long v113), (4, .long v110), (0, .ref o), (1, .int (nI j_lg)), (2, .int (nI q_i)), (3, .int (nI q_k))]) hx hb dX9_rest_81 hl (by decide) rfl (fun ls hl => ?_)
            have hlg : (2 : Int32) ≤ lw j_lg := by rcases lwc j_lg with h | h <;> rw [h] <;> decide
            refine lv_iload_n hx hb dX9_rest_83 rfl (lv_at hl 3 rfl) ?_
            refine vp_callSi (W.runS (As := [.int (nI j_lg)]) (rest := []) ⟨hx, hb, hml, hown, hts⟩ (c9_laneOfLog l j_lg hj_lg) (va_cwS 1 hts gX9_rest_X9_laneOfLog rfl rfl rfl (by decide +kernel) ⟨Nat.le_of_ble_eq_true rfl, Nat.le_of_ble_eq_true rfl⟩) (preS_of okT (trivial)) rfl rfl hl.1 rfl (lv_room (Nat.le_of_ble_eq_true rfl)) dX9_rest_84 ⟨Nat.le_of_ble_eq_true rfl, Nat.le_of_ble_eq_true rfl⟩) (fun r114 hr114 => ?_)
            subst hr114
            refine lv_iconst (v := 2) hx hb dX9_rest_87 (by decide) ?_
            refine lv_icmp_ne (tgt := 109) hx hb dX9_rest_88 (by decide) (fun c115 => ?_) (fun c115 => absurd c115 (hl2))
            refine lv_aload_n hx hb dX9_rest_109 rfl (lv_at hl 2 rfl) ?_
            refine lv_iconst (v := 4) hx hb dX9_rest_110 (by decide) ?_
            refine lv_lload hx hb dX9_rest_111 (lv_at hl 1 rfl) ?_
            refine vp_callSd (W.runS (As := [.long v110]) (rest := [.int 4, .ref o]) ⟨hx, hb, hml, hown, hts⟩ (c9_doubleOf l v110 (by rw [ev110]; exact (okV3 ((hVS j_lg hj_lg).2 q_i hs_i) hlg hl2))) (va_cwS 1 hts gX9_rest_X9_doubleOf rfl rfl rfl (by decide +kernel) ⟨Nat.le_of_ble_eq_true rfl, Nat.le_of_ble_eq_true rfl⟩) (preS_of okT (trivial)) rfl rfl hl.1 rfl (lv_room (Nat.le_of_ble_eq_true rfl)) dX9_rest_113 ⟨Nat.le_of_ble_eq_true rfl, Nat.le_of_ble_eq_true rfl⟩) (fun r116 hr116 => ?_)
            refine lv_lload hx hb dX9_rest_116 (lv_at hl 0 rfl) ?_
            refine vp_callSd (W.runS (As := [.long v113]) (rest := [.double r116, .int 4, .ref o]) ⟨hx, hb, hml, hown, hts⟩ (c9_doubleOf l v113 (by rw [ev113]; exact (okV3 ((hVS j_lg hj_lg).2 q_k hs_k) hlg hl2))) (va_cwS 1 hts gX9_rest_X9_doubleOf rfl rfl rfl (by decide +kernel) ⟨Nat.le_of_ble_eq_true rfl, Nat.le_of_ble_eq_true rfl⟩) (preS_of okT (trivial)) rfl rfl hl.1 rfl (lv_room (Nat.le_of_ble_eq_true rfl)) dX9_rest_118 ⟨Nat.le_of_ble_eq_true rfl, Nat.le_of_ble_eq_true rfl⟩) (fun r117 hr117 => ?_)
            refine va_callv (va_runV (As := [.int 4, .double r116, .double r117]) (rest := []) ⟨hx, hb, hml, hown, hts⟩ (c9_rD_4_no l G cy L F106 H.size o qm 0 Pp.1 0 oc hmo hFo_106 r116 r117 (by rw [hr116, ev110]; exact okV3 ((hVS j_lg hj_lg).2 q_i hs_i) hlg hl2) (by rw [hr117, ev113]; exact okV3 ((hVS j_lg hj_lg).2 q_k hs_k) hlg hl2) (by rw [hr116, ev110, hr117, ev113]; exact hnan)) (cwV 3 hts gX9_rest_X9_reckonDoubles rfl rfl rfl (by decide +kernel) ⟨Nat.le_of_ble_eq_true rfl, Nat.le_of_ble_eq_true rfl⟩) (preV_of okQ (⟨rfl, hP, hK, hD.top⟩) (pl_recv hK hP (ci := 8) rfl hmo hFo_106)) rfl rfl hl.1 rfl (lv_room (Nat.le_of_ble_eq_true rfl)) dX9_rest_121 ⟨Nat.le_of_ble_eq_true rfl, Nat.le_of_ble_eq_true rfl⟩) hS (fun q _ h => pl_free hD hS hA q h) (pl_free hD hS hA) (fun F118 t H1 locs ht hvm hw hP1 hz1 hk1 hS => ?_)
            have hP1 : va_P G vwCl (va_pl L F118) t.heap := hP1
            rw [ht] at hP1
            have hP := hP1
            generalize H1 = H at hP hS ⊢
            have eF118 : F118 = va_up F106 o (.inr (8, [.int 0, .ref (qm 0), .ref (qm 1), .ref (qm 2), .ref (qm 3), .ref (qm 4), .ref (qm 5), .ref (qm 6), .ref (qm 7), .int Pp.1, .ref (qm 8), .ref (qm 9), .ref (qm 10), .ref (qm 11), .ref (qm 12), .ref (qm 13), .ref (qm 14), .int 5, .ref (qm 15), .long oc])) := hw
            have hFo_118 : F118 o = .inr (8, [.int 0, .ref (qm 0), .ref (qm 1), .ref (qm 2), .ref (qm 3), .ref (qm 4), .ref (qm 5), .ref (qm 6), .ref (qm 7), .int Pp.1, .ref (qm 8), .ref (qm 9), .ref (qm 10), .ref (qm 11), .ref (qm 12), .ref (qm 13), .ref (qm 14), .int 5, .ref (qm 15), .long oc]) := by rw [eF118]; exact va_up_self _ _ _
            have hFqm0_118 : F118 (qm 0) = cI (cy 1) 10 Mm.1 := by rw [eF118, va_up_ne _ _ (pl_ne hFqm0_106 hFo_106 rfl)]; exact hFqm0_106
            have hFqm1_118 : F118 (qm 1) = cJ (cy 2) 10 Mm.2 := by rw [eF118, va_up_ne _ _ (pl_ne hFqm1_106 hFo_106 rfl)]; exact hFqm1_106
            have hFqm2_118 : F118 (qm 2) = cD (cy 0) 6 Dd.1 := by rw [eF118, va_up_ne _ _ (pl_ne hFqm2_106 hFo_106 rfl)]; exact hFqm2_106
            have hFqm3_118 : F118 (qm 3) = cD (cy 0) 6 Dd.2.1 := by rw [eF118, va_up_ne _ _ (pl_ne hFqm3_106 hFo_106 rfl)]; exact hFqm3_106
            have hFqm4_118 : F118 (qm 4) = cD (cy 0) 6 Dd.2.2.1 := by rw [eF118, va_up_ne _ _ (pl_ne hFqm4_106 hFo_106 rfl)]; exact hFqm4_106
            have hFqm5_118 : F118 (qm 5) = cJ (cy 2) 6 Dd.2.2.2 := by rw [eF118, va_up_ne _ _ (pl_ne hFqm5_106 hFo_106 rfl)]; exact hFqm5_106
            have hFqm6_118 : F118 (qm 6) = cI (cy 1) 8 Sl.1 := by rw [eF118, va_up_ne _ _ (pl_ne hFqm6_106 hFo_106 rfl)]; exact hFqm6_106
            have hFqm7_118 : F118 (qm 7) = cJ (cy 2) 128 Sl.2 := by rw [eF118, va_up_ne _ _ (pl_ne hFqm7_106 hFo_106 rfl)]; exact hFqm7_106
            have hFqm8_118 : F118 (qm 8) = cI (cy 1) 30 Pp.2.1 := by rw [eF118, va_up_ne _ _ (pl_ne hFqm8_106 hFo_106 rfl)]; exact hFqm8_106
            have hFqm9_118 : F118 (qm 9) = cI (cy 3) 30 Pp.2.2 := by rw [eF118, va_up_ne _ _ (pl_ne hFqm9_106 hFo_106 rfl)]; exact hFqm9_106
            have hFqm10_118 : F118 (qm 10) = cI (cy 1) 5 Kr.1 := by rw [eF118, va_up_ne _ _ (pl_ne hFqm10_106 hFo_106 rfl)]; exact hFqm10_106
            have hFqm11_118 : F118 (qm 11) = cI (cy 3) 5 Kr.2.1 := by rw [eF118, va_up_ne _ _ (pl_ne hFqm11_106 hFo_106 rfl)]; exact hFqm11_106
            have hFqm12_118 : F118 (qm 12) = cI (cy 1) 60 Kr.2.2 := by rw [eF118, va_up_ne _ _ (pl_ne hFqm12_106 hFo_106 rfl)]; exact hFqm12_106
            have hFqm13_118 : F118 (qm 13) = cI (cy 1) 4 Bk.1 := by rw [eF118, va_up_ne _ _ (pl_ne hFqm13_106 hFo_106 rfl)]; exact hFqm13_106
            have hFqm14_118 : F118 (qm 14) = cD (cy 0) 4 Bk.2 := by rw [eF118, va_up_ne _ _ (pl_ne hFqm14_106 hFo_106 rfl)]; exact hFqm14_106
            have hFqm15_118 : F118 (qm 15) = cI (cy 1) 6 Xx.2 := by rw [eF118, va_up_ne _ _ (pl_ne hFqm15_106 hFo_106 rfl)]; exact hFqm15_106
            refine lv_aload_n hx hb dX9_rest_124 rfl (lv_at hl 2 rfl) ?_
            refine pg_get (ci := 8) (C := RX9) (T := TX9) (N := 20) hx hb hts hinX9 hown hK hP hmo hFo_118 rfl 17 (by decide) (hts (.fieldLink RX9 65 "RopeDrumsModel" "failed" "I") (by decide +kernel)) (fun _ h9 => h9) rfl dX9_rest_125 ?_
            refine lv_if_ne (tgt := 146) hx hb dX9_rest_128 (by decide) (fun c119 => ?_) (fun c119 => absurd c119 (by decide))
            refine lv_aload_n hx hb dX9_rest_146 rfl (lv_at hl 2 rfl) ?_
            refine lv_iconst (v := 1) hx hb dX9_rest_147 (by decide) ?_
            refine va_calli (va_runV (As := [.int 1]) (rest := []) ⟨hx, hb, hml, hown, hts⟩ (c9_answers_5 l G cy L F118 H.size o qm 0 Pp.1 oc hmo hFo_118 Xx.2 hm15 hFqm15_118 1) (cwV 1 hts gX9_rest_X9_answers rfl rfl rfl (by decide +kernel) ⟨Nat.le_of_ble_eq_true rfl, Nat.le_of_ble_eq_true rfl⟩) (preV_of okQ (⟨rfl, hP, hK, hD.top⟩) (pl_recv hK hP (ci := 8) rfl hmo hFo_118)) rfl rfl hl.1 rfl (lv_room (Nat.le_of_ble_eq_true rfl)) dX9_rest_148 ⟨Nat.le_of_ble_eq_true rfl, Nat.le_of_ble_eq_true rfl⟩) hS (fun q _ h => pl_free hD hS hA q h) (pl_free hD hS hA) (fun r121 F120 t H1 locs ht hvm hw hP1 hz1 hk1 hS => ?_)
            have hP1 : va_P G vwCl (va_pl L F120) t.heap := hP1
            rw [ht] at hP1
            have hP := hP1
            generalize H1 = H at hP hS ⊢
            obtain ⟨hqr121, eF120⟩ := hw
            have eF120 : F120 = va_up F118 (qm 15) (cI (cy 1) 6 (upd Xx.2 5 (Xx.2 5 + 1))) := eF120
            have hFo_121 : F120 o = .inr (8, [.int 0, .ref (qm 0), .ref (qm 1), .ref (qm 2), .ref (qm 3), .ref (qm 4), .ref (qm 5), .ref (qm 6), .ref (qm 7), .int Pp.1, .ref (qm 8), .ref (qm 9), .ref (qm 10), .ref (qm 11), .ref (qm 12), .ref (qm 13), .ref (qm 14), .int 5, .ref (qm 15), .long oc]) := by rw [eF120, va_up_ne _ _ (pl_ne hFo_118 hFqm15_118 rfl)]; exact hFo_118
            have hFqm0_121 : F120 (qm 0) = cI (cy 1) 10 Mm.1 := by rw [eF120, va_up_ne _ _ (pl_ne hFqm0_118 hFqm15_118 rfl)]; exact hFqm0_118
            have hFqm1_121 : F120 (qm 1) = cJ (cy 2) 10 Mm.2 := by rw [eF120, va_up_ne _ _ (pl_ne hFqm1_118 hFqm15_118 rfl)]; exact hFqm1_118
            have hFqm2_121 : F120 (qm 2) = cD (cy 0) 6 Dd.1 := by rw [eF120, va_up_ne _ _ (pl_ne hFqm2_118 hFqm15_118 rfl)]; exact hFqm2_118
            have hFqm3_121 : F120 (qm 3) = cD (cy 0) 6 Dd.2.1 := by rw [eF120, va_up_ne _ _ (pl_ne hFqm3_118 hFqm15_118 rfl)]; exact hFqm3_118
            have hFqm4_121 : F120 (qm 4) = cD (cy 0) 6 Dd.2.2.1 := by rw [eF120, va_up_ne _ _ (pl_ne hFqm4_118 hFqm15_118 rfl)]; exact hFqm4_118
            have hFqm5_121 : F120 (qm 5) = cJ (cy 2) 6 Dd.2.2.2 := by rw [eF120, va_up_ne _ _ (pl_ne hFqm5_118 hFqm15_118 rfl)]; exact hFqm5_118
            have hFqm6_121 : F120 (qm 6) = cI (cy 1) 8 Sl.1 := by rw [eF120, va_up_ne _ _ (pl_ne hFqm6_118 hFqm15_118 rfl)]; exact hFqm6_118
            have hFqm7_121 : F120 (qm 7) = cJ (cy 2) 128 Sl.2 := by rw [eF120, va_up_ne _ _ (pl_ne hFqm7_118 hFqm15_118 rfl)]; exact hFqm7_118
            have hFqm8_121 : F120 (qm 8) = cI (cy 1) 30 Pp.2.1 := by rw [eF120, va_up_ne _ _ (pl_ne hFqm8_118 hFqm15_118 rfl)]; exact hFqm8_118
            have hFqm9_121 : F120 (qm 9) = cI (cy 3) 30 Pp.2.2 := by rw [eF120, va_up_ne _ _ (pl_ne hFqm9_118 hFqm15_118 rfl)]; exact hFqm9_118
            have hFqm10_121 : F120 (qm 10) = cI (cy 1) 5 Kr.1 := by rw [eF120, va_up_ne _ _ (pl_ne hFqm10_118 hFqm15_118 rfl)]; exact hFqm10_118
            have hFqm11_121 : F120 (qm 11) = cI (cy 3) 5 Kr.2.1 := by rw [eF120, va_up_ne _ _ (pl_ne hFqm11_118 hFqm15_118 rfl)]; exact hFqm11_118
            have hFqm12_121 : F120 (qm 12) = cI (cy 1) 60 Kr.2.2 := by rw [eF120, va_up_ne _ _ (pl_ne hFqm12_118 hFqm15_118 rfl)]; exact hFqm12_118
            have hFqm13_121 : F120 (qm 13) = cI (cy 1) 4 Bk.1 := by rw [eF120, va_up_ne _ _ (pl_ne hFqm13_118 hFqm15_118 rfl)]; exact hFqm13_118
            have hFqm14_121 : F120 (qm 14) = cD (cy 0) 4 Bk.2 := by rw [eF120, va_up_ne _ _ (pl_ne hFqm14_118 hFqm15_118 rfl)]; exact hFqm14_118
            have hFqm15_121 : F120 (qm 15) = cI (cy 1) 6 (upd Xx.2 5 (Xx.2 5 + 1)) := by rw [eF120]; exact va_up_self _ _ _
            have hr121 := hqr121
            exact W.iret (v := r121) hx hb hr (fun t ht hW => ⟨⟨r121, F120, rfl, (by subst hr121 hr117 hr116 ev113 ev111 ev110 ev108; have hsp : sp_rest Sl Xx (nI j_lg) (nI q_i) (nI q_k) = (-15, Sl, failX Xx 5) := (by unfold sp_rest; rw [hi_lg]; exact (if_pos hp_i).trans ((if_pos hp_k).trans ((if_neg hl2).trans (by rw [nI_tn (q := q_i) (by omega), nI_tn (q := q_k) (by omega)]; exact if_pos hnan)))); rw [hsp]; exact ⟨rfl, (by exact ⟨⟨_, _, hmo, hFo_121⟩, ⟨hm0, hFqm0_121⟩, ⟨hm1, hFqm1_121⟩, ⟨hm2, hFqm2_121⟩, ⟨hm3, hFqm3_121⟩, ⟨hm4, hFqm4_121⟩, ⟨hm5, hFqm5_121⟩, ⟨hm6, hFqm6_121⟩, ⟨hm7, hFqm7_121⟩, ⟨hm8, hFqm8_121⟩, ⟨hm9, hFqm9_121⟩, ⟨hm10, hFqm10_121⟩, ⟨hm11, hFqm11_121⟩, ⟨hm12, hFqm12_121⟩, ⟨hm13, hFqm13_121⟩, ⟨hm14, hFqm14_121⟩, ⟨hm15, hFqm15_121⟩, hne⟩)⟩), (by show va_P _ _ _ t.heap; rw [ht]; exact hP)⟩, hS.F ht⟩) hS.2.2 dX9_rest_151
          · have hnan : FP.Core.dIsNaN (FP.drem (db (Sl.2 (16 * j_lg + q_i))) (db (Sl.2 (16 * j_lg + q_k)))) = false := Bool.eq_false_iff.mpr hnan0
            refine lv_aload_n hx hb dX9_rest_0 rfl (lv_at hl 0 rfl) ?_
            refine lv_iconst (v := 0) hx hb dX9_rest_1 (by decide) ?_
            refine pg_put (ci := 8) (v := .int 0) (ty := .int) (C := RX9) (T := TX9) (N := 20) hx hb hts hinX9 tyX9 tyX9_ok nmX9 hown hK hP hD hS hmo hFo rfl 0 (by decide) (hts (.fieldLink RX9 61 "RopeDrumsModel" "thrown" "I") (by decide +kernel)) (fun _ h9 => h9) rfl (by decide +kernel) (rfl) (rfl) (Nat.le_of_ble_eq_true rfl) dX9_rest_2 (fun H locs F122 eF122 hP hS => ?_)
            have eF122 : F122 = va_up F o (.inr (8, [.int 0, .ref (qm 0), .ref (qm 1), .ref (qm 2), .ref (qm 3), .ref (qm 4), .ref (qm 5), .ref (qm 6), .ref (qm 7), .int Pp.1, .ref (qm 8), .ref (qm 9), .ref (qm 10), .ref (qm 11), .ref (qm 12), .ref (qm 13), .ref (qm 14), .int Xx.1, .ref (qm 15), .long oc])) := eF122
            have hFo_122 : F122 o = .inr (8, [.int 0, .ref (qm 0), .ref (qm 1), .ref (qm 2), .ref (qm 3), .ref (qm 4), .ref (qm 5), .ref (qm 6), .ref (qm 7), .int Pp.1, .ref (qm 8), .ref (qm 9), .ref (qm 10), .ref (qm 11), .ref (qm 12), .ref (qm 13), .ref (qm 14), .int Xx.1, .ref (qm 15), .long oc]) := by rw [eF122]; exact va_up_self _ _ _
            have hFqm0_122 : F122 (qm 0) = cI (cy 1) 10 Mm.1 := by rw [eF122, va_up_ne _ _ (pl_ne hF0 hFo rfl)]; exact hF0
            have hFqm1_122 : F122 (qm 1) = cJ (cy 2) 10 Mm.2 := by rw [eF122, va_up_ne _ _ (pl_ne hF1 hFo rfl)]; exact hF1
            have hFqm2_122 : F122 (qm 2) = cD (cy 0) 6 Dd.1 := by rw [eF122, va_up_ne _ _ (pl_ne hF2 hFo rfl)]; exact hF2
            have hFqm3_122 : F122 (qm 3) = cD (cy 0) 6 Dd.2.1 := by rw [eF122, va_up_ne _ _ (pl_ne hF3 hFo rfl)]; exact hF3
            have hFqm4_122 : F122 (qm 4) = cD (cy 0) 6 Dd.2.2.1 := by rw [eF122, va_up_ne _ _ (pl_ne hF4 hFo rfl)]; exact hF4
            have hFqm5_122 : F122 (qm 5) = cJ (cy 2) 6 Dd.2.2.2 := by rw [eF122, va_up_ne _ _ (pl_ne hF5 hFo rfl)]; exact hF5
            have hFqm6_122 : F122 (qm 6) = cI (cy 1) 8 Sl.1 := by rw [eF122, va_up_ne _ _ (pl_ne hF6 hFo rfl)]; exact hF6
            have hFqm7_122 : F122 (qm 7) = cJ (cy 2) 128 Sl.2 := by rw [eF122, va_up_ne _ _ (pl_ne hF7 hFo rfl)]; exact hF7
            have hFqm8_122 : F122 (qm 8) = cI (cy 1) 30 Pp.2.1 := by rw [eF122, va_up_ne _ _ (pl_ne hF8 hFo rfl)]; exact hF8
            have hFqm9_122 : F122 (qm 9) = cI (cy 3) 30 Pp.2.2 := by rw [eF122, va_up_ne _ _ (pl_ne hF9 hFo rfl)]; exact hF9
            have hFqm10_122 : F122 (qm 10) = cI (cy 1) 5 Kr.1 := by rw [eF122, va_up_ne _ _ (pl_ne hF10 hFo rfl)]; exact hF10
            have hFqm11_122 : F122 (qm 11) = cI (cy 3) 5 Kr.2.1 := by rw [eF122, va_up_ne _ _ (pl_ne hF11 hFo rfl)]; exact hF11
            have hFqm12_122 : F122 (qm 12) = cI (cy 1) 60 Kr.2.2 := by rw [eF122, va_up_ne _ _ (pl_ne hF12 hFo rfl)]; exact hF12
            have hFqm13_122 : F122 (qm 13) = cI (cy 1) 4 Bk.1 := by rw [eF122, va_up_ne _ _ (pl_ne hF13 hFo rfl)]; exact hF13
            have hFqm14_122 : F122 (qm 14) = cD (cy 0) 4 Bk.2 := by rw [eF122, va_up_ne _ _ (pl_ne hF14 hFo rfl)]; exact hF14
            have hFqm15_122 : F122 (qm 15) = cI (cy 1) 6 Xx.2 := by rw [eF122, va_up_ne _ _ (pl_ne hF15 hFo rfl)]; exact hF15
            refine lv_iload_n hx hb dX9_rest_5 rfl (lv_at hl 1 rfl) ?_
            refine vp_callSi (W.runS (As := [.int (nI j_lg)]) (rest := []) ⟨hx, hb, hml, hown, hts⟩ (c9_isLog l (nI j_lg)) (va_cwS 1 hts gX9_rest_X9_isLog rfl rfl rfl (by decide +kernel) ⟨Nat.le_of_ble_eq_true rfl, Nat.le_of_ble_eq_true rfl⟩) (preS_of okT (trivial)) rfl rfl hl.1 rfl (lv_room (Nat.le_of_ble_eq_true rfl)) dX9_rest_6 ⟨Nat.le_of_ble_eq_true rfl, Nat.le_of_ble_eq_true rfl⟩) (fun r123 hr123 => ?_)
            rw [isx1 hi_lg] at hr123
            subst hr123
            refine lv_if_ne (tgt := 16) hx hb dX9_rest_9 (by decide) (fun c124 => ?_) (fun c124 => absurd c124 (by decide))
            refine lv_aload_n hx hb dX9_rest_16 rfl (lv_at hl 0 rfl) ?_
            refine lv_aload_n hx hb dX9_rest_17 rfl (lv_at hl 0 rfl) ?_
            refine lv_iload_n hx hb dX9_rest_18 rfl (lv_at hl 1 rfl) ?_
            refine lv_iload_n hx hb dX9_rest_19 rfl (lv_at hl 2 rfl) ?_
            refine vp_callSi (W.runV (As := [.int (nI j_lg), .int (nI q_i)]) (rest := [.ref o]) ⟨hx, hb, hml, hown, hts⟩ (c9_logCause l G cy L F122 o qm 0 Pp.1 Xx.1 oc hmo hFo_122 Sl.1 hm6 hFqm6_122 j_lg hj_lg (nI q_i) ((hVS j_lg hj_lg).1)) (cwV 2 hts gX9_rest_X9_logCause rfl rfl rfl (by decide +kernel) ⟨Nat.le_of_ble_eq_true rfl, Nat.le_of_ble_eq_true rfl⟩) (preV_of okP (⟨hP, hK, hD.top⟩) (pl_recv hK hP (ci := 8) rfl hmo hFo_122)) rfl rfl hl.1 rfl (lv_room (Nat.le_of_ble_eq_true rfl)) dX9_rest_20 ⟨Nat.le_of_ble_eq_true rfl, Nat.le_of_ble_eq_true rfl⟩) (fun r125 hr125 => ?_)
            rw [hp_i] at hr125
            have hzr125 : r125 = 0 := hr125
            clear hr125
            subst hzr125
            refine pg_put (ci := 8) (v := .int 0) (ty := .int) (C := RX9) (T := TX9) (N := 20) hx hb hts hinX9 tyX9 tyX9_ok nmX9 hown hK hP hD hS hmo hFo_122 rfl 17 (by decide) (hts (.fieldLink RX9 65 "RopeDrumsModel" "failed" "I") (by decide +kernel)) (fun _ h9 => h9) rfl (by decide +kernel) (rfl) (rfl) (Nat.le_of_ble_eq_true rfl) dX9_rest_23 (fun H locs F126 eF126 hP hS => ?_)
            have eF126 : F126 = va_up F122 o (.inr (8, [.int 0, .ref (qm 0), .ref (qm 1), .ref (qm 2), .ref (qm 3), .ref (qm 4), .ref (qm 5), .ref (qm 6), .ref (qm 7), .int Pp.1, .ref (qm 8), .ref (qm 9), .ref (qm 10), .ref (qm 11), .ref (qm 12), .ref (qm 13), .ref (qm 14), .int 0, .ref (qm 15), .long oc])) := eF126
            have hFo_126 : F126 o = .inr (8, [.int 0, .ref (qm 0), .ref (qm 1), .ref (qm 2), .ref (qm 3), .ref (qm 4), .ref (qm 5), .ref (qm 6), .ref (qm 7), .int Pp.1, .ref (qm 8), .ref (qm 9), .ref (qm 10), .ref (qm 11), .ref (qm 12), .ref (qm 13), .ref (qm 14), .int 0, .ref (qm 15), .long oc]) := by rw [eF126]; exact va_up_self _ _ _
            have hFqm0_126 : F126 (qm 0) = cI (cy 1) 10 Mm.1 := by rw [eF126, va_up_ne _ _ (pl_ne hFqm0_122 hFo_122 rfl)]; exact hFqm0_122
            have hFqm1_126 : F126 (qm 1) = cJ (cy 2) 10 Mm.2 := by rw [eF126, va_up_ne _ _ (pl_ne hFqm1_122 hFo_122 rfl)]; exact hFqm1_122
            have hFqm2_126 : F126 (qm 2) = cD (cy 0) 6 Dd.1 := by rw [eF126, va_up_ne _ _ (pl_ne hFqm2_122 hFo_122 rfl)]; exact hFqm2_122
            have hFqm3_126 : F126 (qm 3) = cD (cy 0) 6 Dd.2.1 := by rw [eF126, va_up_ne _ _ (pl_ne hFqm3_122 hFo_122 rfl)]; exact hFqm3_122
            have hFqm4_126 : F126 (qm 4) = cD (cy 0) 6 Dd.2.2.1 := by rw [eF126, va_up_ne _ _ (pl_ne hFqm4_122 hFo_122 rfl)]; exact hFqm4_122
            have hFqm5_126 : F126 (qm 5) = cJ (cy 2) 6 Dd.2.2.2 := by rw [eF126, va_up_ne _ _ (pl_ne hFqm5_122 hFo_122 rfl)]; exact hFqm5_122
            have hFqm6_126 : F126 (qm 6) = cI (cy 1) 8 Sl.1 := by rw [eF126, va_up_ne _ _ (pl_ne hFqm6_122 hFo_122 rfl)]; exact hFqm6_122
            have hFqm7_126 : F126 (qm 7) = cJ (cy 2) 128 Sl.2 := by rw [eF126, va_up_ne _ _ (pl_ne hFqm7_122 hFo_122 rfl)]; exact hFqm7_122
            have hFqm8_126 : F126 (qm 8) = cI (cy 1) 30 Pp.2.1 := by rw [eF126, va_up_ne _ _ (pl_ne hFqm8_122 hFo_122 rfl)]; exact hFqm8_122
            have hFqm9_126 : F126 (qm 9) = cI (cy 3) 30 Pp.2.2 := by rw [eF126, va_up_ne _ _ (pl_ne hFqm9_122 hFo_122 rfl)]; exact hFqm9_122
            have hFqm10_126 : F126 (qm 10) = cI (cy 1) 5 Kr.1 := by rw [eF126, va_up_ne _ _ (pl_ne hFqm10_122 hFo_122 rfl)]; exact hFqm10_122
            have hFqm11_126 : F126 (qm 11) = cI (cy 3) 5 Kr.2.1 := by rw [eF126, va_up_ne _ _ (pl_ne hFqm11_122 hFo_122 rfl)]; exact hFqm11_122
            have hFqm12_126 : F126 (qm 12) = cI (cy 1) 60 Kr.2.2 := by rw [eF126, va_up_ne _ _ (pl_ne hFqm12_122 hFo_122 rfl)]; exact hFqm12_122
            have hFqm13_126 : F126 (qm 13) = cI (cy 1) 4 Bk.1 := by rw [eF126, va_up_ne _ _ (pl_ne hFqm13_122 hFo_122 rfl)]; exact hFqm13_122
            have hFqm14_126 : F126 (qm 14) = cD (cy 0) 4 Bk.2 := by rw [eF126, va_up_ne _ _ (pl_ne hFqm14_122 hFo_122 rfl)]; exact hFqm14_122
            have hFqm15_126 : F126 (qm 15) = cI (cy 1) 6 Xx.2 := by rw [eF126, va_up_ne _ _ (pl_ne hFqm15_122 hFo_122 rfl)]; exact hFqm15_122
            refine lv_aload_n hx hb dX9_rest_26 rfl (lv_at hl 0 rfl) ?_
            refine lv_aload_n hx hb dX9_rest_27 rfl (lv_at hl 0 rfl) ?_
            refine pg_get (ci := 8) (C := RX9) (T := TX9) (N := 20) hx hb hts hinX9 hown hK hP hmo hFo_126 rfl 17 (by decide) (hts (.fieldLink RX9 65 "RopeDrumsModel" "failed" "I") (by decide +kernel)) (fun _ h9 => h9) rfl dX9_rest_28 ?_
            refine lv_if_ne (tgt := 43) hx hb dX9_rest_31 (by decide) (fun c127 => absurd (by decide) c127) (fun c127 => ?_)
            refine lv_aload_n hx hb dX9_rest_34 rfl (lv_at hl 0 rfl) ?_
            refine lv_iload_n hx hb dX9_rest_35 rfl (lv_at hl 1 rfl) ?_
            refine lv_iload_n hx hb dX9_rest_36 rfl (lv_at hl 3 rfl) ?_
            refine vp_callSi (W.runV (As := [.int (nI j_lg), .int (nI q_k)]) (rest := [.ref o]) ⟨hx, hb, hml, hown, hts⟩ (c9_logCause l G cy L F126 o qm 0 Pp.1 0 oc hmo hFo_126 Sl.1 hm6 hFqm6_126 j_lg hj_lg (nI q_k) ((hVS j_lg hj_lg).1)) (cwV 2 hts gX9_rest_X9_logCause rfl rfl rfl (by decide +kernel) ⟨Nat.le_of_ble_eq_true rfl, Nat.le_of_ble_eq_true rfl⟩) (preV_of okP (⟨hP, hK, hD.top⟩) (pl_recv hK hP (ci := 8) rfl hmo hFo_126)) rfl rfl hl.1 rfl (lv_room (Nat.le_of_ble_eq_true rfl)) dX9_rest_37 ⟨Nat.le_of_ble_eq_true rfl, Nat.le_of_ble_eq_true rfl⟩) (fun r128 hr128 => ?_)
            rw [hp_k] at hr128
            have hzr128 : r128 = 0 := hr128
            clear hr128
            subst hzr128
            refine lv_goto (tgt := 47) hx hb dX9_rest_40 (by decide) ?_
            refine pg_put (ci := 8) (v := .int 0) (ty := .int) (C := RX9) (T := TX9) (N := 20) hx hb hts hinX9 tyX9 tyX9_ok nmX9 hown hK hP hD hS hmo hFo_126 rfl 17 (by decide) (hts (.fieldLink RX9 65 "RopeDrumsModel" "failed" "I") (by decide +kernel)) (fun _ h9 => h9) rfl (by decide +kernel) (rfl) (rfl) (Nat.le_of_ble_eq_true rfl) dX9_rest_47 (fun H locs F129 eF129 hP hS => ?_)
            have eF129 : F129 = va_up F126 o (.inr (8, [.int 0, .ref (qm 0), .ref (qm 1), .ref (qm 2), .ref (qm 3), .ref (qm 4), .ref (qm 5), .ref (qm 6), .ref (qm 7), .int Pp.1, .ref (qm 8), .ref (qm 9), .ref (qm 10), .ref (qm 11), .ref (qm 12), .ref (qm 13), .ref (qm 14), .int 0, .ref (qm 15), .long oc])) := eF129
            have hFo_129 : F129 o = .inr (8, [.int 0, .ref (qm 0), .ref (qm 1), .ref (qm 2), .ref (qm 3), .ref (qm 4), .ref (qm 5), .ref (qm 6), .ref (qm 7), .int Pp.1, .ref (qm 8), .ref (qm 9), .ref (qm 10), .ref (qm 11), .ref (qm 12), .ref (qm 13), .ref (qm 14), .int 0, .ref (qm 15), .long oc]) := by rw [eF129]; exact va_up_self _ _ _
            have hFqm0_129 : F129 (qm 0) = cI (cy 1) 10 Mm.1 := by rw [eF129, va_up_ne _ _ (pl_ne hFqm0_126 hFo_126 rfl)]; exact hFqm0_126
            have hFqm1_129 : F129 (qm 1) = cJ (cy 2) 10 Mm.2 := by rw [eF129, va_up_ne _ _ (pl_ne hFqm1_126 hFo_126 rfl)]; exact hFqm1_126
            have hFqm2_129 : F129 (qm 2) = cD (cy 0) 6 Dd.1 := by rw [eF129, va_up_ne _ _ (pl_ne hFqm2_126 hFo_126 rfl)]; exact hFqm2_126
            have hFqm3_129 : F129 (qm 3) = cD (cy 0) 6 Dd.2.1 := by rw [eF129, va_up_ne _ _ (pl_ne hFqm3_126 hFo_126 rfl)]; exact hFqm3_126
            have hFqm4_129 : F129 (qm 4) = cD (cy 0) 6 Dd.2.2.1 := by rw [eF129, va_up_ne _ _ (pl_ne hFqm4_126 hFo_126 rfl)]; exact hFqm4_126
            have hFqm5_129 : F129 (qm 5) = cJ (cy 2) 6 Dd.2.2.2 := by rw [eF129, va_up_ne _ _ (pl_ne hFqm5_126 hFo_126 rfl)]; exact hFqm5_126
            have hFqm6_129 : F129 (qm 6) = cI (cy 1) 8 Sl.1 := by rw [eF129, va_up_ne _ _ (pl_ne hFqm6_126 hFo_126 rfl)]; exact hFqm6_126
            have hFqm7_129 : F129 (qm 7) = cJ (cy 2) 128 Sl.2 := by rw [eF129, va_up_ne _ _ (pl_ne hFqm7_126 hFo_126 rfl)]; exact hFqm7_126
            have hFqm8_129 : F129 (qm 8) = cI (cy 1) 30 Pp.2.1 := by rw [eF129, va_up_ne _ _ (pl_ne hFqm8_126 hFo_126 rfl)]; exact hFqm8_126
            have hFqm9_129 : F129 (qm 9) = cI (cy 3) 30 Pp.2.2 := by rw [eF129, va_up_ne _ _ (pl_ne hFqm9_126 hFo_126 rfl)]; exact hFqm9_126
            have hFqm10_129 : F129 (qm 10) = cI (cy 1) 5 Kr.1 := by rw [eF129, va_up_ne _ _ (pl_ne hFqm10_126 hFo_126 rfl)]; exact hFqm10_126
            have hFqm11_129 : F129 (qm 11) = cI (cy 3) 5 Kr.2.1 := by rw [eF129, va_up_ne _ _ (pl_ne hFqm11_126 hFo_126 rfl)]; exact hFqm11_126
            have hFqm12_129 : F129 (qm 12) = cI (cy 1) 60 Kr.2.2 := by rw [eF129, va_up_ne _ _ (pl_ne hFqm12_126 hFo_126 rfl)]; exact hFqm12_126
            have hFqm13_129 : F129 (qm 13) = cI (cy 1) 4 Bk.1 := by rw [eF129, va_up_ne _ _ (pl_ne hFqm13_126 hFo_126 rfl)]; exact hFqm13_126
            have hFqm14_129 : F129 (qm 14) = cD (cy 0) 4 Bk.2 := by rw [eF129, va_up_ne _ _ (pl_ne hFqm14_126 hFo_126 rfl)]; exact hFqm14_126
            have hFqm15_129 : F129 (qm 15) = cI (cy 1) 6 Xx.2 := by rw [eF129, va_up_ne _ _ (pl_ne hFqm15_126 hFo_126 rfl)]; exact hFqm15_126
            refine lv_aload_n hx hb dX9_rest_50 rfl (lv_at hl 0 rfl) ?_
            refine pg_get (ci := 8) (C := RX9) (T := TX9) (N := 20) hx hb hts hinX9 hown hK hP hmo hFo_129 rfl 17 (by decide) (hts (.fieldLink RX9 65 "RopeDrumsModel" "failed" "I") (by decide +kernel)) (fun _ h9 => h9) rfl dX9_rest_51 ?_
            refine lv_if_ne (tgt := 124) hx hb dX9_rest_54 (by decide) (fun c130 => absurd (by decide) c130) (fun c130 => ?_)
            refine lv_aload_n hx hb dX9_rest_57 rfl (lv_at hl 0 rfl) ?_
            refine pg_get (ci := 8) (C := RX9) (T := TX9) (N := 20) hx hb hts hinX9 hown hK hP hmo hFo_129 rfl 8 (by decide) (hts (.fieldLink RX9 33 "RopeDrumsModel" "logBits" "[J") (by decide +kernel)) (fun _ h9 => h9) rfl dX9_rest_58 ?_
            refine lv_bipush (v := 16) hx hb dX9_rest_61 (by decide) ?_
            refine lv_iload_n hx hb dX9_rest_63 rfl (lv_at hl 1 rfl) ?_
            refine lv_imul hx hb dX9_rest_64 ?_
            refine lv_topi (fun v131 ev131 => ?_)
            refine lv_iload_n hx hb dX9_rest_65 rfl (lv_at hl 2 rfl) ?_
            refine lv_iadd hx hb dX9_rest_66 ?_
            refine lv_topi (fun v132 ev132 => ?_)
            rw [ev131, nI16] at ev132
            subst ev132
            refine pg_lald hx hb hK hP 2 hm7 hFqm7_129 rfl (vp_in_nI (by omega) (by decide)) dX9_rest_67 ?_
            refine lv_topl (fun v133 ev133 => ?_)
            rw [nI_clamp (by omega)] at ev133
            refine lv_lstore (lv' := [(4, .long v133), (0, .ref o), (1, .int (nI j_lg)), (2, .int (nI q_i)), (3, .int (nI q_k))]) hx hb dX9_rest_68 hl (by decide) rfl (fun ls hl => ?_)
            refine lv_aload_n hx hb dX9_rest_70 rfl (lv_at hl 1 rfl) ?_
            refine pg_get (ci := 8) (C := RX9) (T := TX9) (N := 20) hx hb hts hinX9 hown hK hP hmo hFo_129 rfl 8 (by decide) (hts (.fieldLink RX9 33 "RopeDrumsModel" "logBits" "[J") (by decide +kernel)) (fun _ h9 => h9) rfl dX9_rest_71 ?_
            refine lv_bipush (v := 16) hx hb dX9_rest_74 (by decide) ?_
            refine lv_iload_n hx hb dX9_rest_76 rfl (lv_at hl 2 rfl) ?_
            refine lv_imul hx hb dX9_rest_77 ?_
            refine lv_topi (fun v134 ev134 => ?_)
            refine lv_iload_n hx hb dX9_rest_78 rfl (lv_at hl 4 rfl) ?_
            refine lv_iadd hx hb dX9_rest_79 ?_
            refine lv_topi (fun v135 ev135 => ?_)
            rw [ev134, nI16] at ev135
            subst ev135
            refine pg_lald hx hb hK hP 2 hm7 hFqm7_129 rfl (vp_in_nI (by omega) (by decide)) dX9_rest_80 ?_
            refine lv_topl (fun v136 ev136 => ?_)
            rw [nI_clamp (by omega)] at ev136
            refine lv_lstore (lv' := [(6, .long v136), (4, .long v133), (0, .ref o), (1, .int (nI j_lg)), (2, .int (nI q_i)), (3, .int (nI q_k))]) hx hb dX9_rest_81 hl (by decide) rfl (fun ls hl => ?_)
            have hlg : (2 : Int32) ≤ lw j_lg := by rcases lwc j_lg with h | h <;> rw [h] <;> decide
            refine lv_iload_n hx hb dX9_rest_83 rfl (lv_at hl 3 rfl) ?_
            refine vp_callSi (W.runS (As := [.int (nI j_lg)]) (rest := []) ⟨hx, hb, hml, hown, hts⟩ (c9_laneOfLog l j_lg hj_lg) (va_cwS 1 hts gX9_rest_X9_laneOfLog rfl rfl rfl (by decide +kernel) ⟨Nat.le_of_ble_eq_true rfl, Nat.le_of_ble_eq_true rfl⟩) (preS_of okT (trivial)) rfl rfl hl.1 rfl (lv_room (Nat.le_of_ble_eq_true rfl)) dX9_rest_84 ⟨Nat.le_of_ble_eq_true rfl, Nat.le_of_ble_eq_true rfl⟩) (fun r137 hr137 => ?_)
            subst hr137
            refine lv_iconst (v := 2) hx hb dX9_rest_87 (by decide) ?_
            refine lv_icmp_ne (tgt := 109) hx hb dX9_rest_88 (by decide) (fun c138 => ?_) (fun c138 => absurd c138 (hl2))
            refine lv_aload_n hx hb dX9_rest_109 rfl (lv_at hl 2 rfl) ?_
            refine lv_iconst (v := 4) hx hb dX9_rest_110 (by decide) ?_
            refine lv_lload hx hb dX9_rest_111 (lv_at hl 1 rfl) ?_
            refine vp_callSd (W.runS (As := [.long v133]) (rest := [.int 4, .ref o]) ⟨hx, hb, hml, hown, hts⟩ (c9_doubleOf l v133 (by rw [ev133]; exact (okV3 ((hVS j_lg hj_lg).2 q_i hs_i) hlg hl2))) (va_cwS 1 hts gX9_rest_X9_doubleOf rfl rfl rfl (by decide +kernel) ⟨Nat.le_of_ble_eq_true rfl, Nat.le_of_ble_eq_true rfl⟩) (preS_of okT (trivial)) rfl rfl hl.1 rfl (lv_room (Nat.le_of_ble_eq_true rfl)) dX9_rest_113 ⟨Nat.le_of_ble_eq_true rfl, Nat.le_of_ble_eq_true rfl⟩) (fun r139 hr139 => ?_)
            refine lv_lload hx hb dX9_rest_116 (lv_at hl 0 rfl) ?_
            refine vp_callSd (W.runS (As := [.long v136]) (rest := [.double r139, .int 4, .ref o]) ⟨hx, hb, hml, hown, hts⟩ (c9_doubleOf l v136 (by rw [ev136]; exact (okV3 ((hVS j_lg hj_lg).2 q_k hs_k) hlg hl2))) (va_cwS 1 hts gX9_rest_X9_doubleOf rfl rfl rfl (by decide +kernel) ⟨Nat.le_of_ble_eq_true rfl, Nat.le_of_ble_eq_true rfl⟩) (preS_of okT (trivial)) rfl rfl hl.1 rfl (lv_room (Nat.le_of_ble_eq_true rfl)) dX9_rest_118 ⟨Nat.le_of_ble_eq_true rfl, Nat.le_of_ble_eq_true rfl⟩) (fun r140 hr140 => ?_)
            refine va_callv (va_runV (As := [.int 4, .double r139, .double r140]) (rest := []) ⟨hx, hb, hml, hown, hts⟩ (c9_rD_4 l G cy L F129 H.size o qm 0 Pp.1 0 oc hmo hFo_129 r139 r140 (by rw [hr139, ev133]; exact okV3 ((hVS j_lg hj_lg).2 q_i hs_i) hlg hl2) (by rw [hr140, ev136]; exact okV3 ((hVS j_lg hj_lg).2 q_k hs_k) hlg hl2) (by rw [hr139, ev133, hr140, ev136]; exact hnan)) (cwV 3 hts gX9_rest_X9_reckonDoubles rfl rfl rfl (by decide +kernel) ⟨Nat.le_of_ble_eq_true rfl, Nat.le_of_ble_eq_true rfl⟩) (preV_of okQ (⟨rfl, hP, hK, hD.top⟩) (pl_recv hK hP (ci := 8) rfl hmo hFo_129)) rfl rfl hl.1 rfl (lv_room (Nat.le_of_ble_eq_true rfl)) dX9_rest_121 ⟨Nat.le_of_ble_eq_true rfl, Nat.le_of_ble_eq_true rfl⟩) hS (fun q _ h => pl_free hD hS hA q h) (pl_free hD hS hA) (fun F141 t H1 locs ht hvm hw hP1 hz1 hk1 hS => ?_)
            have hP1 : va_P G vwCl (va_pl L F141) t.heap := hP1
            rw [ht] at hP1
            have hP := hP1
            generalize H1 = H at hP hS ⊢
            have eF141 : F141 = va_up F129 o (.inr (8, [.int 0, .ref (qm 0), .ref (qm 1), .ref (qm 2), .ref (qm 3), .ref (qm 4), .ref (qm 5), .ref (qm 6), .ref (qm 7), .int Pp.1, .ref (qm 8), .ref (qm 9), .ref (qm 10), .ref (qm 11), .ref (qm 12), .ref (qm 13), .ref (qm 14), .int 0, .ref (qm 15), .long ((FP.drem r139 r140).toInt64)])) := hw
            have hFo_141 : F141 o = .inr (8, [.int 0, .ref (qm 0), .ref (qm 1), .ref (qm 2), .ref (qm 3), .ref (qm 4), .ref (qm 5), .ref (qm 6), .ref (qm 7), .int Pp.1, .ref (qm 8), .ref (qm 9), .ref (qm 10), .ref (qm 11), .ref (qm 12), .ref (qm 13), .ref (qm 14), .int 0, .ref (qm 15), .long ((FP.drem r139 r140).toInt64)]) := by rw [eF141]; exact va_up_self _ _ _
            have hFqm0_141 : F141 (qm 0) = cI (cy 1) 10 Mm.1 := by rw [eF141, va_up_ne _ _ (pl_ne hFqm0_129 hFo_129 rfl)]; exact hFqm0_129
            have hFqm1_141 : F141 (qm 1) = cJ (cy 2) 10 Mm.2 := by rw [eF141, va_up_ne _ _ (pl_ne hFqm1_129 hFo_129 rfl)]; exact hFqm1_129
            have hFqm2_141 : F141 (qm 2) = cD (cy 0) 6 Dd.1 := by rw [eF141, va_up_ne _ _ (pl_ne hFqm2_129 hFo_129 rfl)]; exact hFqm2_129
            have hFqm3_141 : F141 (qm 3) = cD (cy 0) 6 Dd.2.1 := by rw [eF141, va_up_ne _ _ (pl_ne hFqm3_129 hFo_129 rfl)]; exact hFqm3_129
            have hFqm4_141 : F141 (qm 4) = cD (cy 0) 6 Dd.2.2.1 := by rw [eF141, va_up_ne _ _ (pl_ne hFqm4_129 hFo_129 rfl)]; exact hFqm4_129
            have hFqm5_141 : F141 (qm 5) = cJ (cy 2) 6 Dd.2.2.2 := by rw [eF141, va_up_ne _ _ (pl_ne hFqm5_129 hFo_129 rfl)]; exact hFqm5_129
            have hFqm6_141 : F141 (qm 6) = cI (cy 1) 8 Sl.1 := by rw [eF141, va_up_ne _ _ (pl_ne hFqm6_129 hFo_129 rfl)]; exact hFqm6_129
            have hFqm7_141 : F141 (qm 7) = cJ (cy 2) 128 Sl.2 := by rw [eF141, va_up_ne _ _ (pl_ne hFqm7_129 hFo_129 rfl)]; exact hFqm7_129
            have hFqm8_141 : F141 (qm 8) = cI (cy 1) 30 Pp.2.1 := by rw [eF141, va_up_ne _ _ (pl_ne hFqm8_129 hFo_129 rfl)]; exact hFqm8_129
            have hFqm9_141 : F141 (qm 9) = cI (cy 3) 30 Pp.2.2 := by rw [eF141, va_up_ne _ _ (pl_ne hFqm9_129 hFo_129 rfl)]; exact hFqm9_129
            have hFqm10_141 : F141 (qm 10) = cI (cy 1) 5 Kr.1 := by rw [eF141, va_up_ne _ _ (pl_ne hFqm10_129 hFo_129 rfl)]; exact hFqm10_129
            have hFqm11_141 : F141 (qm 11) = cI (cy 3) 5 Kr.2.1 := by rw [eF141, va_up_ne _ _ (pl_ne hFqm11_129 hFo_129 rfl)]; exact hFqm11_129
            have hFqm12_141 : F141 (qm 12) = cI (cy 1) 60 Kr.2.2 := by rw [eF141, va_up_ne _ _ (pl_ne hFqm12_129 hFo_129 rfl)]; exact hFqm12_129
            have hFqm13_141 : F141 (qm 13) = cI (cy 1) 4 Bk.1 := by rw [eF141, va_up_ne _ _ (pl_ne hFqm13_129 hFo_129 rfl)]; exact hFqm13_129
            have hFqm14_141 : F141 (qm 14) = cD (cy 0) 4 Bk.2 := by rw [eF141, va_up_ne _ _ (pl_ne hFqm14_129 hFo_129 rfl)]; exact hFqm14_129
            have hFqm15_141 : F141 (qm 15) = cI (cy 1) 6 Xx.2 := by rw [eF141, va_up_ne _ _ (pl_ne hFqm15_129 hFo_129 rfl)]; exact hFqm15_129
            refine lv_aload_n hx hb dX9_rest_124 rfl (lv_at hl 2 rfl) ?_
            refine pg_get (ci := 8) (C := RX9) (T := TX9) (N := 20) hx hb hts hinX9 hown hK hP hmo hFo_141 rfl 17 (by decide) (hts (.fieldLink RX9 65 "RopeDrumsModel" "failed" "I") (by decide +kernel)) (fun _ h9 => h9) rfl dX9_rest_125 ?_
            refine lv_if_ne (tgt := 146) hx hb dX9_rest_128 (by decide) (fun c142 => absurd (by decide) c142) (fun c142 => ?_)
            refine lv_aload_n hx hb dX9_rest_131 rfl (lv_at hl 2 rfl) ?_
            refine pg_get (ci := 8) (C := RX9) (T := TX9) (N := 20) hx hb hts hinX9 hown hK hP hmo hFo_141 rfl 8 (by decide) (hts (.fieldLink RX9 33 "RopeDrumsModel" "logBits" "[J") (by decide +kernel)) (fun _ h9 => h9) rfl dX9_rest_132 ?_
            refine lv_bipush (v := 16) hx hb dX9_rest_135 (by decide) ?_
            refine lv_iload_n hx hb dX9_rest_137 rfl (lv_at hl 3 rfl) ?_
            refine lv_imul hx hb dX9_rest_138 ?_
            refine lv_topi (fun v143 ev143 => ?_)
            refine lv_iload_n hx hb dX9_rest_139 rfl (lv_at hl 4 rfl) ?_
            refine lv_iadd hx hb dX9_rest_140 ?_
            refine lv_topi (fun v144 ev144 => ?_)
            rw [ev143, nI16] at ev144
            subst ev144
            refine lv_aload_n hx hb dX9_rest_141 rfl (lv_at hl 2 rfl) ?_
            refine pg_get (ci := 8) (C := RX9) (T := TX9) (N := 20) hx hb hts hinX9 hown hK hP hmo hFo_141 rfl 19 (by decide) (hts (.fieldLink RX9 131 "RopeDrumsModel" "outcome" "J") (by decide +kernel)) (fun _ h9 => h9) rfl dX9_rest_142 ?_
            refine pg_last hx hb hK hP hD hS 2 hm7 hFqm7_141 rfl (vp_in_nI (by omega) (by decide)) dX9_rest_145 (fun H locs F145 eF145 hP hS => ?_)
            rw [nI_clamp (by omega)] at eF145
            have hFo_145 : F145 o = .inr (8, [.int 0, .ref (qm 0), .ref (qm 1), .ref (qm 2), .ref (qm 3), .ref (qm 4), .ref (qm 5), .ref (qm 6), .ref (qm 7), .int Pp.1, .ref (qm 8), .ref (qm 9), .ref (qm 10), .ref (qm 11), .ref (qm 12), .ref (qm 13), .ref (qm 14), .int 0, .ref (qm 15), .long ((FP.drem r139 r140).toInt64)]) := by rw [eF145, va_up_ne _ _ (pl_ne hFo_141 hFqm7_141 rfl)]; exact hFo_141
            have hFqm0_145 : F145 (qm 0) = cI (cy 1) 10 Mm.1 := by rw [eF145, va_up_ne _ _ (pl_ne hFqm0_141 hFqm7_141 rfl)]; exact hFqm0_141
            have hFqm1_145 : F145 (qm 1) = cJ (cy 2) 10 Mm.2 := by rw [eF145, va_up_ne _ _ (pl_ne hFqm1_141 hFqm7_141 rfl)]; exact hFqm1_141
            have hFqm2_145 : F145 (qm 2) = cD (cy 0) 6 Dd.1 := by rw [eF145, va_up_ne _ _ (pl_ne hFqm2_141 hFqm7_141 rfl)]; exact hFqm2_141
            have hFqm3_145 : F145 (qm 3) = cD (cy 0) 6 Dd.2.1 := by rw [eF145, va_up_ne _ _ (pl_ne hFqm3_141 hFqm7_141 rfl)]; exact hFqm3_141
            have hFqm4_145 : F145 (qm 4) = cD (cy 0) 6 Dd.2.2.1 := by rw [eF145, va_up_ne _ _ (pl_ne hFqm4_141 hFqm7_141 rfl)]; exact hFqm4_141
            have hFqm5_145 : F145 (qm 5) = cJ (cy 2) 6 Dd.2.2.2 := by rw [eF145, va_up_ne _ _ (pl_ne hFqm5_141 hFqm7_141 rfl)]; exact hFqm5_141
            have hFqm6_145 : F145 (qm 6) = cI (cy 1) 8 Sl.1 := by rw [eF145, va_up_ne _ _ (pl_ne hFqm6_141 hFqm7_141 rfl)]; exact hFqm6_141
            have hFqm7_145 : F145 (qm 7) = cJ (cy 2) 128 (vp_updL Sl.2 (16 * j_lg + q_i) ((FP.drem r139 r140).toInt64)) := by rw [eF145]; exact va_up_self _ _ _
            have hFqm8_145 : F145 (qm 8) = cI (cy 1) 30 Pp.2.1 := by rw [eF145, va_up_ne _ _ (pl_ne hFqm8_141 hFqm7_141 rfl)]; exact hFqm8_141
            have hFqm9_145 : F145 (qm 9) = cI (cy 3) 30 Pp.2.2 := by rw [eF145, va_up_ne _ _ (pl_ne hFqm9_141 hFqm7_141 rfl)]; exact hFqm9_141
            have hFqm10_145 : F145 (qm 10) = cI (cy 1) 5 Kr.1 := by rw [eF145, va_up_ne _ _ (pl_ne hFqm10_141 hFqm7_141 rfl)]; exact hFqm10_141
            have hFqm11_145 : F145 (qm 11) = cI (cy 3) 5 Kr.2.1 := by rw [eF145, va_up_ne _ _ (pl_ne hFqm11_141 hFqm7_141 rfl)]; exact hFqm11_141
            have hFqm12_145 : F145 (qm 12) = cI (cy 1) 60 Kr.2.2 := by rw [eF145, va_up_ne _ _ (pl_ne hFqm12_141 hFqm7_141 rfl)]; exact hFqm12_141
            have hFqm13_145 : F145 (qm 13) = cI (cy 1) 4 Bk.1 := by rw [eF145, va_up_ne _ _ (pl_ne hFqm13_141 hFqm7_141 rfl)]; exact hFqm13_141
            have hFqm14_145 : F145 (qm 14) = cD (cy 0) 4 Bk.2 := by rw [eF145, va_up_ne _ _ (pl_ne hFqm14_141 hFqm7_141 rfl)]; exact hFqm14_141
            have hFqm15_145 : F145 (qm 15) = cI (cy 1) 6 Xx.2 := by rw [eF145, va_up_ne _ _ (pl_ne hFqm15_141 hFqm7_141 rfl)]; exact hFqm15_141
            refine lv_aload_n hx hb dX9_rest_146 rfl (lv_at hl 2 rfl) ?_
            refine lv_iconst (v := 1) hx hb dX9_rest_147 (by decide) ?_
            refine va_calli (va_runV (As := [.int 1]) (rest := []) ⟨hx, hb, hml, hown, hts⟩ (c9_answers_0 l G cy L F145 H.size o qm 0 Pp.1 ((FP.drem r139 r140).toInt64) hmo hFo_145 Xx.2 hm15 hFqm15_145 1) (cwV 1 hts gX9_rest_X9_answers rfl rfl rfl (by decide +kernel) ⟨Nat.le_of_ble_eq_true rfl, Nat.le_of_ble_eq_true rfl⟩) (preV_of okQ (⟨rfl, hP, hK, hD.top⟩) (pl_recv hK hP (ci := 8) rfl hmo hFo_145)) rfl rfl hl.1 rfl (lv_room (Nat.le_of_ble_eq_true rfl)) dX9_rest_148 ⟨Nat.le_of_ble_eq_true rfl, Nat.le_of_ble_eq_true rfl⟩) hS (fun q _ h => pl_free hD hS hA q h) (pl_free hD hS hA) (fun r147 F146 t H1 locs ht hvm hw hP1 hz1 hk1 hS => ?_)
            have hP1 : va_P G vwCl (va_pl L F146) t.heap := hP1
            rw [ht] at hP1
            have hP := hP1
            generalize H1 = H at hP hS ⊢
            obtain ⟨hqr147, eF146⟩ := hw
            have hFo_F146 : F146 o = .inr (8, [.int 0, .ref (qm 0), .ref (qm 1), .ref (qm 2), .ref (qm 3), .ref (qm 4), .ref (qm 5), .ref (qm 6), .ref (qm 7), .int Pp.1, .ref (qm 8), .ref (qm 9), .ref (qm 10), .ref (qm 11), .ref (qm 12), .ref (qm 13), .ref (qm 14), .int 0, .ref (qm 15), .long ((FP.drem r139 r140).toInt64)]) := by rw [eF146]; exact hFo_145
            have hFqm0_F146 : F146 (qm 0) = cI (cy 1) 10 Mm.1 := by rw [eF146]; exact hFqm0_145
            have hFqm1_F146 : F146 (qm 1) = cJ (cy 2) 10 Mm.2 := by rw [eF146]; exact hFqm1_145
            have hFqm2_F146 : F146 (qm 2) = cD (cy 0) 6 Dd.1 := by rw [eF146]; exact hFqm2_145
            have hFqm3_F146 : F146 (qm 3) = cD (cy 0) 6 Dd.2.1 := by rw [eF146]; exact hFqm3_145
            have hFqm4_F146 : F146 (qm 4) = cD (cy 0) 6 Dd.2.2.1 := by rw [eF146]; exact hFqm4_145
            have hFqm5_F146 : F146 (qm 5) = cJ (cy 2) 6 Dd.2.2.2 := by rw [eF146]; exact hFqm5_145
            have hFqm6_F146 : F146 (qm 6) = cI (cy 1) 8 Sl.1 := by rw [eF146]; exact hFqm6_145
            have hFqm7_F146 : F146 (qm 7) = cJ (cy 2) 128 (vp_updL Sl.2 (16 * j_lg + q_i) ((FP.drem r139 r140).toInt64)) := by rw [eF146]; exact hFqm7_145
            have hFqm8_F146 : F146 (qm 8) = cI (cy 1) 30 Pp.2.1 := by rw [eF146]; exact hFqm8_145
            have hFqm9_F146 : F146 (qm 9) = cI (cy 3) 30 Pp.2.2 := by rw [eF146]; exact hFqm9_145
            have hFqm10_F146 : F146 (qm 10) = cI (cy 1) 5 Kr.1 := by rw [eF146]; exact hFqm10_145
            have hFqm11_F146 : F146 (qm 11) = cI (cy 3) 5 Kr.2.1 := by rw [eF146]; exact hFqm11_145
            have hFqm12_F146 : F146 (qm 12) = cI (cy 1) 60 Kr.2.2 := by rw [eF146]; exact hFqm12_145
            have hFqm13_F146 : F146 (qm 13) = cI (cy 1) 4 Bk.1 := by rw [eF146]; exact hFqm13_145
            have hFqm14_F146 : F146 (qm 14) = cD (cy 0) 4 Bk.2 := by rw [eF146]; exact hFqm14_145
            have hFqm15_F146 : F146 (qm 15) = cI (cy 1) 6 Xx.2 := by rw [eF146]; exact hFqm15_145
            have hr147 := hqr147
            exact W.iret (v := r147) hx hb hr (fun t ht hW => ⟨⟨r147, F146, rfl, (by subst hr147 ev143 hr140 hr139 ev136 ev134 ev133 ev131; have hsp : sp_rest Sl Xx (nI j_lg) (nI q_i) (nI q_k) = (1, (Sl.1, vp_updL Sl.2 (16 * j_lg + q_i) (FP.drem (db (Sl.2 (16 * j_lg + q_i))) (db (Sl.2 (16 * j_lg + q_k)))).toInt64), goodX Xx) := (by unfold sp_rest; rw [hi_lg]; exact (if_pos hp_i).trans ((if_pos hp_k).trans ((if_neg hl2).trans (by rw [nI_tn (q := q_i) (by omega), nI_tn (q := q_k) (by omega)]; exact if_neg (by rw [hnan]; decide))))); rw [hsp]; exact ⟨rfl, (by exact ⟨⟨_, _, hmo, hFo_F146⟩, ⟨hm0, hFqm0_F146⟩, ⟨hm1, hFqm1_F146⟩, ⟨hm2, hFqm2_F146⟩, ⟨hm3, hFqm3_F146⟩, ⟨hm4, hFqm4_F146⟩, ⟨hm5, hFqm5_F146⟩, ⟨hm6, hFqm6_F146⟩, ⟨hm7, hFqm7_F146⟩, ⟨hm8, hFqm8_F146⟩, ⟨hm9, hFqm9_F146⟩, ⟨hm10, hFqm10_F146⟩, ⟨hm11, hFqm11_F146⟩, ⟨hm12, hFqm12_F146⟩, ⟨hm13, hFqm13_F146⟩, ⟨hm14, hFqm14_F146⟩, ⟨hm15, hFqm15_F146⟩, hne⟩)⟩), (by show va_P _ _ _ t.heap; rw [ht]; exact hP)⟩, hS.F ht⟩) hS.2.2 dX9_rest_151

set_option maxHeartbeats 8000000 in
set_option maxRecDepth 100000 in
theorem n_whole (l : Launch) (G : va_G) (cy : Nat → ClassId) (L : List Nat) (F : Nat → va_E) (sz : Nat) (o : Nat) (qm : Nat → Nat) (Mm : SM) (Dd : SD) (Sl : SL) (Pp : SP) (Kr : SR) (Bk : SB) (Xx : SX) (hR : RepM cy L o qm Mm Dd Sl Pp Kr Bk Xx F) (hV : Val Mm Dd Sl Pp Kr Bk) (lg i : Int32)  : Met l yX9_whole wsX9_whole ({ frames := 3, cells := 0, slots := 0, locals := 70 }) (va_Pc [.ref o, .int lg, .int i] (fun U => bQ G cy L F sz U U.heap)) (va_Ql (fun (r : Int64) (F' : Nat → va_E) => r = (sp_whole Sl Xx lg i).1 ∧ RepM cy L o qm Mm Dd Sl Pp Kr Bk (sp_whole Sl Xx lg i).2 F') (fun F' t => va_P G vwCl (va_pl L F') t.heap) (va_A (va_pl L F) sz)) 0 0 (va_A (va_pl L F) sz) := by
  refine Met.ofW (cc := cX9_whole) (maxL := 3) (ret := (some .long)) (by decide) rfl ?_
  intro p e s m args below meth c s₁ B hml hv
  obtain ⟨rfl, hsz, hP, hK, hD0⟩ := hv
  have hx := B.exec
  have hb := B.bytes
  have hr := B.returns
  have hts := atoms_spec (ws := wsX9_whole) B.pre
  have hown : s.vm.findClass RX9 = some m.cls := findClass_of_methodNamed B.named
  have hlocks := B.notSynchronized
  have hinX9 : ∀ w ∈ wsX90, w ∈ wsX9_whole := by decide +kernel
  subst hsz
  have hD := hD0.self F s.heap.size
  generalize hAe : va_A (va_pl L F) s.heap.size = A at hD ⊢
  have hA : ∀ q : Nat, s.heap.size ≤ q → A q := fun q h => by rw [← hAe]; exact Or.inr h
  have hS : va_S A s.heap s.heap [] := va_S.rf
  obtain ⟨⟨th, oc, hmo, hFo⟩, ⟨hm0, hF0⟩, ⟨hm1, hF1⟩, ⟨hm2, hF2⟩, ⟨hm3, hF3⟩, ⟨hm4, hF4⟩, ⟨hm5, hF5⟩, ⟨hm6, hF6⟩, ⟨hm7, hF7⟩, ⟨hm8, hF8⟩, ⟨hm9, hF9⟩, ⟨hm10, hF10⟩, ⟨hm11, hF11⟩, ⟨hm12, hF12⟩, ⟨hm13, hF13⟩, ⟨hm14, hF14⟩, ⟨hm15, hF15⟩, hne⟩ := id hR
  obtain ⟨hVM, hVD, hVS, hVP, hVK, hVB⟩ := hV
  have hl := lv_entry ([.ref o, .int lg, .int i]) (n := 3) (Nat.le_of_ble_eq_true rfl)
  rw [lg_entry_eq]
  generalize (lg_sl ([.ref o, .int lg, .int i]) ++ List.replicate (3 - (lg_sl ([.ref o, .int lg, .int i])).length) Slot.unset).toArray = ls at hl ⊢
  have hl : lv_has ls 3 [(0, .ref o), (1, .int lg), (2, .int i)] := hl
  rcases ixc 8 lg with hi_lg | ⟨j_lg, hj_lg, hi_lg, ei_lg⟩
  · refine lv_aload_n hx hb dX9_whole_0 rfl (lv_at hl 0 rfl) ?_
    refine lv_iconst (v := 0) hx hb dX9_whole_1 (by decide) ?_
    refine pg_put (ci := 8) (v := .int 0) (ty := .int) (C := RX9) (T := TX9) (N := 20) hx hb hts hinX9 tyX9 tyX9_ok nmX9 hown hK hP hD hS hmo hFo rfl 0 (by decide) (hts (.fieldLink RX9 61 "RopeDrumsModel" "thrown" "I") (by decide +kernel)) (fun _ h9 => h9) rfl (by decide +kernel) (rfl) (rfl) (Nat.le_of_ble_eq_true rfl) dX9_whole_2 (fun H locs F1 eF1 hP hS => ?_)
    have eF1 : F1 = va_up F o (.inr (8, [.int 0, .ref (qm 0), .ref (qm 1), .ref (qm 2), .ref (qm 3), .ref (qm 4), .ref (qm 5), .ref (qm 6), .ref (qm 7), .int Pp.1, .ref (qm 8), .ref (qm 9), .ref (qm 10), .ref (qm 11), .ref (qm 12), .ref (qm 13), .ref (qm 14), .int Xx.1, .ref (qm 15), .long oc])) := eF1
    have hFo_1 : F1 o = .inr (8, [.int 0, .ref (qm 0), .ref (qm 1), .ref (qm 2), .ref (qm 3), .ref (qm 4), .ref (qm 5), .ref (qm 6), .ref (qm 7), .int Pp.1, .ref (qm 8), .ref (qm 9), .ref (qm 10), .ref (qm 11), .ref (qm 12), .ref (qm 13), .ref (qm 14), .int Xx.1, .ref (qm 15), .long oc]) := by rw [eF1]; exact va_up_self _ _ _
    have hFqm0_1 : F1 (qm 0) = cI (cy 1) 10 Mm.1 := by rw [eF1, va_up_ne _ _ (pl_ne hF0 hFo rfl)]; exact hF0
    have hFqm1_1 : F1 (qm 1) = cJ (cy 2) 10 Mm.2 := by rw [eF1, va_up_ne _ _ (pl_ne hF1 hFo rfl)]; exact hF1
    have hFqm2_1 : F1 (qm 2) = cD (cy 0) 6 Dd.1 := by rw [eF1, va_up_ne _ _ (pl_ne hF2 hFo rfl)]; exact hF2
    have hFqm3_1 : F1 (qm 3) = cD (cy 0) 6 Dd.2.1 := by rw [eF1, va_up_ne _ _ (pl_ne hF3 hFo rfl)]; exact hF3
    have hFqm4_1 : F1 (qm 4) = cD (cy 0) 6 Dd.2.2.1 := by rw [eF1, va_up_ne _ _ (pl_ne hF4 hFo rfl)]; exact hF4
    have hFqm5_1 : F1 (qm 5) = cJ (cy 2) 6 Dd.2.2.2 := by rw [eF1, va_up_ne _ _ (pl_ne hF5 hFo rfl)]; exact hF5
    have hFqm6_1 : F1 (qm 6) = cI (cy 1) 8 Sl.1 := by rw [eF1, va_up_ne _ _ (pl_ne hF6 hFo rfl)]; exact hF6
    have hFqm7_1 : F1 (qm 7) = cJ (cy 2) 128 Sl.2 := by rw [eF1, va_up_ne _ _ (pl_ne hF7 hFo rfl)]; exact hF7
    have hFqm8_1 : F1 (qm 8) = cI (cy 1) 30 Pp.2.1 := by rw [eF1, va_up_ne _ _ (pl_ne hF8 hFo rfl)]; exact hF8
    have hFqm9_1 : F1 (qm 9) = cI (cy 3) 30 Pp.2.2 := by rw [eF1, va_up_ne _ _ (pl_ne hF9 hFo rfl)]; exact hF9
    have hFqm10_1 : F1 (qm 10) = cI (cy 1) 5 Kr.1 := by rw [eF1, va_up_ne _ _ (pl_ne hF10 hFo rfl)]; exact hF10
    have hFqm11_1 : F1 (qm 11) = cI (cy 3) 5 Kr.2.1 := by rw [eF1, va_up_ne _ _ (pl_ne hF11 hFo rfl)]; exact hF11
    have hFqm12_1 : F1 (qm 12) = cI (cy 1) 60 Kr.2.2 := by rw [eF1, va_up_ne _ _ (pl_ne hF12 hFo rfl)]; exact hF12
    have hFqm13_1 : F1 (qm 13) = cI (cy 1) 4 Bk.1 := by rw [eF1, va_up_ne _ _ (pl_ne hF13 hFo rfl)]; exact hF13
    have hFqm14_1 : F1 (qm 14) = cD (cy 0) 4 Bk.2 := by rw [eF1, va_up_ne _ _ (pl_ne hF14 hFo rfl)]; exact hF14
    have hFqm15_1 : F1 (qm 15) = cI (cy 1) 6 Xx.2 := by rw [eF1, va_up_ne _ _ (pl_ne hF15 hFo rfl)]; exact hF15
    refine lv_iload_n hx hb dX9_whole_5 rfl (lv_at hl 1 rfl) ?_
    refine vp_callSi (W.runS (As := [.int lg]) (rest := []) ⟨hx, hb, hml, hown, hts⟩ (c9_isLog l lg) (va_cwS 1 hts gX9_whole_X9_isLog rfl rfl rfl (by decide +kernel) ⟨Nat.le_of_ble_eq_true rfl, Nat.le_of_ble_eq_true rfl⟩) (preS_of okT (trivial)) rfl rfl hl.1 rfl (lv_room (Nat.le_of_ble_eq_true rfl)) dX9_whole_6 ⟨Nat.le_of_ble_eq_true rfl, Nat.le_of_ble_eq_true rfl⟩) (fun r2 hr2 => ?_)
    rw [isx0 hi_lg] at hr2
    subst hr2
    refine lv_if_ne (tgt := 14) hx hb dX9_whole_9 (by decide) (fun c3 => absurd (by decide) c3) (fun c3 => ?_)
    refine lv_lconst (v := 0) hx hb dX9_whole_12 (by decide) ?_
    exact W.lret (v := 0) hx hb hr (fun t ht hW => ⟨⟨0, F1, rfl, (by have hsp : sp_whole Sl Xx lg i = (0, Xx) := (by unfold sp_whole; rw [hi_lg]); rw [hsp]; exact ⟨rfl, (by exact ⟨⟨_, _, hmo, hFo_1⟩, ⟨hm0, hFqm0_1⟩, ⟨hm1, hFqm1_1⟩, ⟨hm2, hFqm2_1⟩, ⟨hm3, hFqm3_1⟩, ⟨hm4, hFqm4_1⟩, ⟨hm5, hFqm5_1⟩, ⟨hm6, hFqm6_1⟩, ⟨hm7, hFqm7_1⟩, ⟨hm8, hFqm8_1⟩, ⟨hm9, hFqm9_1⟩, ⟨hm10, hFqm10_1⟩, ⟨hm11, hFqm11_1⟩, ⟨hm12, hFqm12_1⟩, ⟨hm13, hFqm13_1⟩, ⟨hm14, hFqm14_1⟩, ⟨hm15, hFqm15_1⟩, hne⟩)⟩), (by show va_P _ _ _ t.heap; rw [ht]; exact hP)⟩, hS.F ht⟩) hS.2.2 dX9_whole_13
  · subst ei_lg
    rcases lackc (i := i) (by decide) ((hVS j_lg hj_lg).1) with ⟨hp_i, hk_i⟩ | ⟨hp_i, hk_i⟩ | ⟨q_i, hq_i, hs_i, hp_i, hk_i, ei_i⟩
    · have hp0_i : ¬ pl0 (Sl.1 j_lg) i = 0 := by rw [hp_i]; decide
      refine lv_aload_n hx hb dX9_whole_0 rfl (lv_at hl 0 rfl) ?_
      refine lv_iconst (v := 0) hx hb dX9_whole_1 (by decide) ?_
      refine pg_put (ci := 8) (v := .int 0) (ty := .int) (C := RX9) (T := TX9) (N := 20) hx hb hts hinX9 tyX9 tyX9_ok nmX9 hown hK hP hD hS hmo hFo rfl 0 (by decide) (hts (.fieldLink RX9 61 "RopeDrumsModel" "thrown" "I") (by decide +kernel)) (fun _ h9 => h9) rfl (by decide +kernel) (rfl) (rfl) (Nat.le_of_ble_eq_true rfl) dX9_whole_2 (fun H locs F4 eF4 hP hS => ?_)
      have eF4 : F4 = va_up F o (.inr (8, [.int 0, .ref (qm 0), .ref (qm 1), .ref (qm 2), .ref (qm 3), .ref (qm 4), .ref (qm 5), .ref (qm 6), .ref (qm 7), .int Pp.1, .ref (qm 8), .ref (qm 9), .ref (qm 10), .ref (qm 11), .ref (qm 12), .ref (qm 13), .ref (qm 14), .int Xx.1, .ref (qm 15), .long oc])) := eF4
      have hFo_4 : F4 o = .inr (8, [.int 0, .ref (qm 0), .ref (qm 1), .ref (qm 2), .ref (qm 3), .ref (qm 4), .ref (qm 5), .ref (qm 6), .ref (qm 7), .int Pp.1, .ref (qm 8), .ref (qm 9), .ref (qm 10), .ref (qm 11), .ref (qm 12), .ref (qm 13), .ref (qm 14), .int Xx.1, .ref (qm 15), .long oc]) := by rw [eF4]; exact va_up_self _ _ _
      have hFqm0_4 : F4 (qm 0) = cI (cy 1) 10 Mm.1 := by rw [eF4, va_up_ne _ _ (pl_ne hF0 hFo rfl)]; exact hF0
      have hFqm1_4 : F4 (qm 1) = cJ (cy 2) 10 Mm.2 := by rw [eF4, va_up_ne _ _ (pl_ne hF1 hFo rfl)]; exact hF1
      have hFqm2_4 : F4 (qm 2) = cD (cy 0) 6 Dd.1 := by rw [eF4, va_up_ne _ _ (pl_ne hF2 hFo rfl)]; exact hF2
      have hFqm3_4 : F4 (qm 3) = cD (cy 0) 6 Dd.2.1 := by rw [eF4, va_up_ne _ _ (pl_ne hF3 hFo rfl)]; exact hF3
      have hFqm4_4 : F4 (qm 4) = cD (cy 0) 6 Dd.2.2.1 := by rw [eF4, va_up_ne _ _ (pl_ne hF4 hFo rfl)]; exact hF4
      have hFqm5_4 : F4 (qm 5) = cJ (cy 2) 6 Dd.2.2.2 := by rw [eF4, va_up_ne _ _ (pl_ne hF5 hFo rfl)]; exact hF5
      have hFqm6_4 : F4 (qm 6) = cI (cy 1) 8 Sl.1 := by rw [eF4, va_up_ne _ _ (pl_ne hF6 hFo rfl)]; exact hF6
      have hFqm7_4 : F4 (qm 7) = cJ (cy 2) 128 Sl.2 := by rw [eF4, va_up_ne _ _ (pl_ne hF7 hFo rfl)]; exact hF7
      have hFqm8_4 : F4 (qm 8) = cI (cy 1) 30 Pp.2.1 := by rw [eF4, va_up_ne _ _ (pl_ne hF8 hFo rfl)]; exact hF8
      have hFqm9_4 : F4 (qm 9) = cI (cy 3) 30 Pp.2.2 := by rw [eF4, va_up_ne _ _ (pl_ne hF9 hFo rfl)]; exact hF9
      have hFqm10_4 : F4 (qm 10) = cI (cy 1) 5 Kr.1 := by rw [eF4, va_up_ne _ _ (pl_ne hF10 hFo rfl)]; exact hF10
      have hFqm11_4 : F4 (qm 11) = cI (cy 3) 5 Kr.2.1 := by rw [eF4, va_up_ne _ _ (pl_ne hF11 hFo rfl)]; exact hF11
      have hFqm12_4 : F4 (qm 12) = cI (cy 1) 60 Kr.2.2 := by rw [eF4, va_up_ne _ _ (pl_ne hF12 hFo rfl)]; exact hF12
      have hFqm13_4 : F4 (qm 13) = cI (cy 1) 4 Bk.1 := by rw [eF4, va_up_ne _ _ (pl_ne hF13 hFo rfl)]; exact hF13
      have hFqm14_4 : F4 (qm 14) = cD (cy 0) 4 Bk.2 := by rw [eF4, va_up_ne _ _ (pl_ne hF14 hFo rfl)]; exact hF14
      have hFqm15_4 : F4 (qm 15) = cI (cy 1) 6 Xx.2 := by rw [eF4, va_up_ne _ _ (pl_ne hF15 hFo rfl)]; exact hF15
      refine lv_iload_n hx hb dX9_whole_5 rfl (lv_at hl 1 rfl) ?_
      refine vp_callSi (W.runS (As := [.int (nI j_lg)]) (rest := []) ⟨hx, hb, hml, hown, hts⟩ (c9_isLog l (nI j_lg)) (va_cwS 1 hts gX9_whole_X9_isLog rfl rfl rfl (by decide +kernel) ⟨Nat.le_of_ble_eq_true rfl, Nat.le_of_ble_eq_true rfl⟩) (preS_of okT (trivial)) rfl rfl hl.1 rfl (lv_room (Nat.le_of_ble_eq_true rfl)) dX9_whole_6 ⟨Nat.le_of_ble_eq_true rfl, Nat.le_of_ble_eq_true rfl⟩) (fun r5 hr5 => ?_)
      rw [isx1 hi_lg] at hr5
      subst hr5
      refine lv_if_ne (tgt := 14) hx hb dX9_whole_9 (by decide) (fun c6 => ?_) (fun c6 => absurd c6 (by decide))
      refine lv_aload_n hx hb dX9_whole_14 rfl (lv_at hl 0 rfl) ?_
      refine lv_aload_n hx hb dX9_whole_15 rfl (lv_at hl 0 rfl) ?_
      refine lv_iload_n hx hb dX9_whole_16 rfl (lv_at hl 1 rfl) ?_
      refine lv_iload_n hx hb dX9_whole_17 rfl (lv_at hl 2 rfl) ?_
      refine vp_callSi (W.runV (As := [.int (nI j_lg), .int i]) (rest := [.ref o]) ⟨hx, hb, hml, hown, hts⟩ (c9_logCause l G cy L F4 o qm 0 Pp.1 Xx.1 oc hmo hFo_4 Sl.1 hm6 hFqm6_4 j_lg hj_lg i ((hVS j_lg hj_lg).1)) (cwV 2 hts gX9_whole_X9_logCause rfl rfl rfl (by decide +kernel) ⟨Nat.le_of_ble_eq_true rfl, Nat.le_of_ble_eq_true rfl⟩) (preV_of okP (⟨hP, hK, hD.top⟩) (pl_recv hK hP (ci := 8) rfl hmo hFo_4)) rfl rfl hl.1 rfl (lv_room (Nat.le_of_ble_eq_true rfl)) dX9_whole_18 ⟨Nat.le_of_ble_eq_true rfl, Nat.le_of_ble_eq_true rfl⟩) (fun r7 hr7 => ?_)
      rw [hp_i] at hr7
      have hzr7 : r7 = 1 := hr7
      clear hr7
      subst hzr7
      refine pg_put (ci := 8) (v := .int 1) (ty := .int) (C := RX9) (T := TX9) (N := 20) hx hb hts hinX9 tyX9 tyX9_ok nmX9 hown hK hP hD hS hmo hFo_4 rfl 17 (by decide) (hts (.fieldLink RX9 65 "RopeDrumsModel" "failed" "I") (by decide +kernel)) (fun _ h9 => h9) rfl (by decide +kernel) (rfl) (rfl) (Nat.le_of_ble_eq_true rfl) dX9_whole_21 (fun H locs F8 eF8 hP hS => ?_)
      have eF8 : F8 = va_up F4 o (.inr (8, [.int 0, .ref (qm 0), .ref (qm 1), .ref (qm 2), .ref (qm 3), .ref (qm 4), .ref (qm 5), .ref (qm 6), .ref (qm 7), .int Pp.1, .ref (qm 8), .ref (qm 9), .ref (qm 10), .ref (qm 11), .ref (qm 12), .ref (qm 13), .ref (qm 14), .int 1, .ref (qm 15), .long oc])) := eF8
      have hFo_8 : F8 o = .inr (8, [.int 0, .ref (qm 0), .ref (qm 1), .ref (qm 2), .ref (qm 3), .ref (qm 4), .ref (qm 5), .ref (qm 6), .ref (qm 7), .int Pp.1, .ref (qm 8), .ref (qm 9), .ref (qm 10), .ref (qm 11), .ref (qm 12), .ref (qm 13), .ref (qm 14), .int 1, .ref (qm 15), .long oc]) := by rw [eF8]; exact va_up_self _ _ _
      have hFqm0_8 : F8 (qm 0) = cI (cy 1) 10 Mm.1 := by rw [eF8, va_up_ne _ _ (pl_ne hFqm0_4 hFo_4 rfl)]; exact hFqm0_4
      have hFqm1_8 : F8 (qm 1) = cJ (cy 2) 10 Mm.2 := by rw [eF8, va_up_ne _ _ (pl_ne hFqm1_4 hFo_4 rfl)]; exact hFqm1_4
      have hFqm2_8 : F8 (qm 2) = cD (cy 0) 6 Dd.1 := by rw [eF8, va_up_ne _ _ (pl_ne hFqm2_4 hFo_4 rfl)]; exact hFqm2_4
      have hFqm3_8 : F8 (qm 3) = cD (cy 0) 6 Dd.2.1 := by rw [eF8, va_up_ne _ _ (pl_ne hFqm3_4 hFo_4 rfl)]; exact hFqm3_4
      have hFqm4_8 : F8 (qm 4) = cD (cy 0) 6 Dd.2.2.1 := by rw [eF8, va_up_ne _ _ (pl_ne hFqm4_4 hFo_4 rfl)]; exact hFqm4_4
      have hFqm5_8 : F8 (qm 5) = cJ (cy 2) 6 Dd.2.2.2 := by rw [eF8, va_up_ne _ _ (pl_ne hFqm5_4 hFo_4 rfl)]; exact hFqm5_4
      have hFqm6_8 : F8 (qm 6) = cI (cy 1) 8 Sl.1 := by rw [eF8, va_up_ne _ _ (pl_ne hFqm6_4 hFo_4 rfl)]; exact hFqm6_4
      have hFqm7_8 : F8 (qm 7) = cJ (cy 2) 128 Sl.2 := by rw [eF8, va_up_ne _ _ (pl_ne hFqm7_4 hFo_4 rfl)]; exact hFqm7_4
      have hFqm8_8 : F8 (qm 8) = cI (cy 1) 30 Pp.2.1 := by rw [eF8, va_up_ne _ _ (pl_ne hFqm8_4 hFo_4 rfl)]; exact hFqm8_4
      have hFqm9_8 : F8 (qm 9) = cI (cy 3) 30 Pp.2.2 := by rw [eF8, va_up_ne _ _ (pl_ne hFqm9_4 hFo_4 rfl)]; exact hFqm9_4
      have hFqm10_8 : F8 (qm 10) = cI (cy 1) 5 Kr.1 := by rw [eF8, va_up_ne _ _ (pl_ne hFqm10_4 hFo_4 rfl)]; exact hFqm10_4
      have hFqm11_8 : F8 (qm 11) = cI (cy 3) 5 Kr.2.1 := by rw [eF8, va_up_ne _ _ (pl_ne hFqm11_4 hFo_4 rfl)]; exact hFqm11_4
      have hFqm12_8 : F8 (qm 12) = cI (cy 1) 60 Kr.2.2 := by rw [eF8, va_up_ne _ _ (pl_ne hFqm12_4 hFo_4 rfl)]; exact hFqm12_4
      have hFqm13_8 : F8 (qm 13) = cI (cy 1) 4 Bk.1 := by rw [eF8, va_up_ne _ _ (pl_ne hFqm13_4 hFo_4 rfl)]; exact hFqm13_4
      have hFqm14_8 : F8 (qm 14) = cD (cy 0) 4 Bk.2 := by rw [eF8, va_up_ne _ _ (pl_ne hFqm14_4 hFo_4 rfl)]; exact hFqm14_4
      have hFqm15_8 : F8 (qm 15) = cI (cy 1) 6 Xx.2 := by rw [eF8, va_up_ne _ _ (pl_ne hFqm15_4 hFo_4 rfl)]; exact hFqm15_4
      refine lv_aload_n hx hb dX9_whole_24 rfl (lv_at hl 0 rfl) ?_
      refine lv_iconst (v := 0) hx hb dX9_whole_25 (by decide) ?_
      refine va_calli (va_runV (As := [.int 0]) (rest := []) ⟨hx, hb, hml, hown, hts⟩ (c9_answers_1 l G cy L F8 H.size o qm 0 Pp.1 oc hmo hFo_8 Xx.2 hm15 hFqm15_8 0) (cwV 1 hts gX9_whole_X9_answers rfl rfl rfl (by decide +kernel) ⟨Nat.le_of_ble_eq_true rfl, Nat.le_of_ble_eq_true rfl⟩) (preV_of okQ (⟨rfl, hP, hK, hD.top⟩) (pl_recv hK hP (ci := 8) rfl hmo hFo_8)) rfl rfl hl.1 rfl (lv_room (Nat.le_of_ble_eq_true rfl)) dX9_whole_26 ⟨Nat.le_of_ble_eq_true rfl, Nat.le_of_ble_eq_true rfl⟩) hS (fun q _ h => pl_free hD hS hA q h) (pl_free hD hS hA) (fun r10 F9 t H1 locs ht hvm hw hP1 hz1 hk1 hS => ?_)
      have hP1 : va_P G vwCl (va_pl L F9) t.heap := hP1
      rw [ht] at hP1
      have hP := hP1
      generalize H1 = H at hP hS ⊢
      obtain ⟨hqr10, eF9⟩ := hw
      have eF9 : F9 = va_up F8 (qm 15) (cI (cy 1) 6 (upd Xx.2 1 (Xx.2 1 + 1))) := eF9
      have hFo_10 : F9 o = .inr (8, [.int 0, .ref (qm 0), .ref (qm 1), .ref (qm 2), .ref (qm 3), .ref (qm 4), .ref (qm 5), .ref (qm 6), .ref (qm 7), .int Pp.1, .ref (qm 8), .ref (qm 9), .ref (qm 10), .ref (qm 11), .ref (qm 12), .ref (qm 13), .ref (qm 14), .int 1, .ref (qm 15), .long oc]) := by rw [eF9, va_up_ne _ _ (pl_ne hFo_8 hFqm15_8 rfl)]; exact hFo_8
      have hFqm0_10 : F9 (qm 0) = cI (cy 1) 10 Mm.1 := by rw [eF9, va_up_ne _ _ (pl_ne hFqm0_8 hFqm15_8 rfl)]; exact hFqm0_8
      have hFqm1_10 : F9 (qm 1) = cJ (cy 2) 10 Mm.2 := by rw [eF9, va_up_ne _ _ (pl_ne hFqm1_8 hFqm15_8 rfl)]; exact hFqm1_8
      have hFqm2_10 : F9 (qm 2) = cD (cy 0) 6 Dd.1 := by rw [eF9, va_up_ne _ _ (pl_ne hFqm2_8 hFqm15_8 rfl)]; exact hFqm2_8
      have hFqm3_10 : F9 (qm 3) = cD (cy 0) 6 Dd.2.1 := by rw [eF9, va_up_ne _ _ (pl_ne hFqm3_8 hFqm15_8 rfl)]; exact hFqm3_8
      have hFqm4_10 : F9 (qm 4) = cD (cy 0) 6 Dd.2.2.1 := by rw [eF9, va_up_ne _ _ (pl_ne hFqm4_8 hFqm15_8 rfl)]; exact hFqm4_8
      have hFqm5_10 : F9 (qm 5) = cJ (cy 2) 6 Dd.2.2.2 := by rw [eF9, va_up_ne _ _ (pl_ne hFqm5_8 hFqm15_8 rfl)]; exact hFqm5_8
      have hFqm6_10 : F9 (qm 6) = cI (cy 1) 8 Sl.1 := by rw [eF9, va_up_ne _ _ (pl_ne hFqm6_8 hFqm15_8 rfl)]; exact hFqm6_8
      have hFqm7_10 : F9 (qm 7) = cJ (cy 2) 128 Sl.2 := by rw [eF9, va_up_ne _ _ (pl_ne hFqm7_8 hFqm15_8 rfl)]; exact hFqm7_8
      have hFqm8_10 : F9 (qm 8) = cI (cy 1) 30 Pp.2.1 := by rw [eF9, va_up_ne _ _ (pl_ne hFqm8_8 hFqm15_8 rfl)]; exact hFqm8_8
      have hFqm9_10 : F9 (qm 9) = cI (cy 3) 30 Pp.2.2 := by rw [eF9, va_up_ne _ _ (pl_ne hFqm9_8 hFqm15_8 rfl)]; exact hFqm9_8
      have hFqm10_10 : F9 (qm 10) = cI (cy 1) 5 Kr.1 := by rw [eF9, va_up_ne _ _ (pl_ne hFqm10_8 hFqm15_8 rfl)]; exact hFqm10_8
      have hFqm11_10 : F9 (qm 11) = cI (cy 3) 5 Kr.2.1 := by rw [eF9, va_up_ne _ _ (pl_ne hFqm11_8 hFqm15_8 rfl)]; exact hFqm11_8
      have hFqm12_10 : F9 (qm 12) = cI (cy 1) 60 Kr.2.2 := by rw [eF9, va_up_ne _ _ (pl_ne hFqm12_8 hFqm15_8 rfl)]; exact hFqm12_8
      have hFqm13_10 : F9 (qm 13) = cI (cy 1) 4 Bk.1 := by rw [eF9, va_up_ne _ _ (pl_ne hFqm13_8 hFqm15_8 rfl)]; exact hFqm13_8
      have hFqm14_10 : F9 (qm 14) = cD (cy 0) 4 Bk.2 := by rw [eF9, va_up_ne _ _ (pl_ne hFqm14_8 hFqm15_8 rfl)]; exact hFqm14_8
      have hFqm15_10 : F9 (qm 15) = cI (cy 1) 6 (upd Xx.2 1 (Xx.2 1 + 1)) := by rw [eF9]; exact va_up_self _ _ _
      have hr10 := hqr10
      have hzr10 : r10 = -11 := by rw [hr10]; decide
      subst hzr10
      refine lv_if_ne (tgt := 54) hx hb dX9_whole_29 (by decide) (fun c11 => ?_) (fun c11 => absurd c11 (by decide))
      refine lv_lconst (v := 0) hx hb dX9_whole_54 (by decide) ?_
      exact W.lret (v := 0) hx hb hr (fun t ht hW => ⟨⟨0, F9, rfl, (by have hsp : sp_whole Sl Xx (nI j_lg) i = (0, failX Xx 1) := (by unfold sp_whole; rw [hi_lg]; exact (if_neg hp0_i).trans (by rw [hp_i])); rw [hsp]; exact ⟨rfl, (by exact ⟨⟨_, _, hmo, hFo_10⟩, ⟨hm0, hFqm0_10⟩, ⟨hm1, hFqm1_10⟩, ⟨hm2, hFqm2_10⟩, ⟨hm3, hFqm3_10⟩, ⟨hm4, hFqm4_10⟩, ⟨hm5, hFqm5_10⟩, ⟨hm6, hFqm6_10⟩, ⟨hm7, hFqm7_10⟩, ⟨hm8, hFqm8_10⟩, ⟨hm9, hFqm9_10⟩, ⟨hm10, hFqm10_10⟩, ⟨hm11, hFqm11_10⟩, ⟨hm12, hFqm12_10⟩, ⟨hm13, hFqm13_10⟩, ⟨hm14, hFqm14_10⟩, ⟨hm15, hFqm15_10⟩, hne⟩)⟩), (by show va_P _ _ _ t.heap; rw [ht]; exact hP)⟩, hS.F ht⟩) hS.2.2 dX9_whole_55
    · have hp0_i : ¬ pl0 (Sl.1 j_lg) i = 0 := by rw [hp_i]; decide
      refine lv_aload_n hx hb dX9_whole_0 rfl (lv_at hl 0 rfl) ?_
      refine lv_iconst (v := 0) hx hb dX9_whole_1 (by decide) ?_
      refine pg_put (ci := 8) (v := .int 0) (ty := .int) (C := RX9) (T := TX9) (N := 20) hx hb hts hinX9 tyX9 tyX9_ok nmX9 hown hK hP hD hS hmo hFo rfl 0 (by decide) (hts (.fieldLink RX9 61 "RopeDrumsModel" "thrown" "I") (by decide +kernel)) (fun _ h9 => h9) rfl (by decide +kernel) (rfl) (rfl) (Nat.le_of_ble_eq_true rfl) dX9_whole_2 (fun H locs F12 eF12 hP hS => ?_)
      have eF12 : F12 = va_up F o (.inr (8, [.int 0, .ref (qm 0), .ref (qm 1), .ref (qm 2), .ref (qm 3), .ref (qm 4), .ref (qm 5), .ref (qm 6), .ref (qm 7), .int Pp.1, .ref (qm 8), .ref (qm 9), .ref (qm 10), .ref (qm 11), .ref (qm 12), .ref (qm 13), .ref (qm 14), .int Xx.1, .ref (qm 15), .long oc])) := eF12
      have hFo_12 : F12 o = .inr (8, [.int 0, .ref (qm 0), .ref (qm 1), .ref (qm 2), .ref (qm 3), .ref (qm 4), .ref (qm 5), .ref (qm 6), .ref (qm 7), .int Pp.1, .ref (qm 8), .ref (qm 9), .ref (qm 10), .ref (qm 11), .ref (qm 12), .ref (qm 13), .ref (qm 14), .int Xx.1, .ref (qm 15), .long oc]) := by rw [eF12]; exact va_up_self _ _ _
      have hFqm0_12 : F12 (qm 0) = cI (cy 1) 10 Mm.1 := by rw [eF12, va_up_ne _ _ (pl_ne hF0 hFo rfl)]; exact hF0
      have hFqm1_12 : F12 (qm 1) = cJ (cy 2) 10 Mm.2 := by rw [eF12, va_up_ne _ _ (pl_ne hF1 hFo rfl)]; exact hF1
      have hFqm2_12 : F12 (qm 2) = cD (cy 0) 6 Dd.1 := by rw [eF12, va_up_ne _ _ (pl_ne hF2 hFo rfl)]; exact hF2
      have hFqm3_12 : F12 (qm 3) = cD (cy 0) 6 Dd.2.1 := by rw [eF12, va_up_ne _ _ (pl_ne hF3 hFo rfl)]; exact hF3
      have hFqm4_12 : F12 (qm 4) = cD (cy 0) 6 Dd.2.2.1 := by rw [eF12, va_up_ne _ _ (pl_ne hF4 hFo rfl)]; exact hF4
      have hFqm5_12 : F12 (qm 5) = cJ (cy 2) 6 Dd.2.2.2 := by rw [eF12, va_up_ne _ _ (pl_ne hF5 hFo rfl)]; exact hF5
      have hFqm6_12 : F12 (qm 6) = cI (cy 1) 8 Sl.1 := by rw [eF12, va_up_ne _ _ (pl_ne hF6 hFo rfl)]; exact hF6
      have hFqm7_12 : F12 (qm 7) = cJ (cy 2) 128 Sl.2 := by rw [eF12, va_up_ne _ _ (pl_ne hF7 hFo rfl)]; exact hF7
      have hFqm8_12 : F12 (qm 8) = cI (cy 1) 30 Pp.2.1 := by rw [eF12, va_up_ne _ _ (pl_ne hF8 hFo rfl)]; exact hF8
      have hFqm9_12 : F12 (qm 9) = cI (cy 3) 30 Pp.2.2 := by rw [eF12, va_up_ne _ _ (pl_ne hF9 hFo rfl)]; exact hF9
      have hFqm10_12 : F12 (qm 10) = cI (cy 1) 5 Kr.1 := by rw [eF12, va_up_ne _ _ (pl_ne hF10 hFo rfl)]; exact hF10
      have hFqm11_12 : F12 (qm 11) = cI (cy 3) 5 Kr.2.1 := by rw [eF12, va_up_ne _ _ (pl_ne hF11 hFo rfl)]; exact hF11
      have hFqm12_12 : F12 (qm 12) = cI (cy 1) 60 Kr.2.2 := by rw [eF12, va_up_ne _ _ (pl_ne hF12 hFo rfl)]; exact hF12
      have hFqm13_12 : F12 (qm 13) = cI (cy 1) 4 Bk.1 := by rw [eF12, va_up_ne _ _ (pl_ne hF13 hFo rfl)]; exact hF13
      have hFqm14_12 : F12 (qm 14) = cD (cy 0) 4 Bk.2 := by rw [eF12, va_up_ne _ _ (pl_ne hF14 hFo rfl)]; exact hF14
      have hFqm15_12 : F12 (qm 15) = cI (cy 1) 6 Xx.2 := by rw [eF12, va_up_ne _ _ (pl_ne hF15 hFo rfl)]; exact hF15
      refine lv_iload_n hx hb dX9_whole_5 rfl (lv_at hl 1 rfl) ?_
      refine vp_callSi (W.runS (As := [.int (nI j_lg)]) (rest := []) ⟨hx, hb, hml, hown, hts⟩ (c9_isLog l (nI j_lg)) (va_cwS 1 hts gX9_whole_X9_isLog rfl rfl rfl (by decide +kernel) ⟨Nat.le_of_ble_eq_true rfl, Nat.le_of_ble_eq_true rfl⟩) (preS_of okT (trivial)) rfl rfl hl.1 rfl (lv_room (Nat.le_of_ble_eq_true rfl)) dX9_whole_6 ⟨Nat.le_of_ble_eq_true rfl, Nat.le_of_ble_eq_true rfl⟩) (fun r13 hr13 => ?_)
      rw [isx1 hi_lg] at hr13
      subst hr13
      refine lv_if_ne (tgt := 14) hx hb dX9_whole_9 (by decide) (fun c14 => ?_) (fun c14 => absurd c14 (by decide))
      refine lv_aload_n hx hb dX9_whole_14 rfl (lv_at hl 0 rfl) ?_
      refine lv_aload_n hx hb dX9_whole_15 rfl (lv_at hl 0 rfl) ?_
      refine lv_iload_n hx hb dX9_whole_16 rfl (lv_at hl 1 rfl) ?_
      refine lv_iload_n hx hb dX9_whole_17 rfl (lv_at hl 2 rfl) ?_
      refine vp_callSi (W.runV (As := [.int (nI j_lg), .int i]) (rest := [.ref o]) ⟨hx, hb, hml, hown, hts⟩ (c9_logCause l G cy L F12 o qm 0 Pp.1 Xx.1 oc hmo hFo_12 Sl.1 hm6 hFqm6_12 j_lg hj_lg i ((hVS j_lg hj_lg).1)) (cwV 2 hts gX9_whole_X9_logCause rfl rfl rfl (by decide +kernel) ⟨Nat.le_of_ble_eq_true rfl, Nat.le_of_ble_eq_true rfl⟩) (preV_of okP (⟨hP, hK, hD.top⟩) (pl_recv hK hP (ci := 8) rfl hmo hFo_12)) rfl rfl hl.1 rfl (lv_room (Nat.le_of_ble_eq_true rfl)) dX9_whole_18 ⟨Nat.le_of_ble_eq_true rfl, Nat.le_of_ble_eq_true rfl⟩) (fun r15 hr15 => ?_)
      rw [hp_i] at hr15
      have hzr15 : r15 = 2 := hr15
      clear hr15
      subst hzr15
      refine pg_put (ci := 8) (v := .int 2) (ty := .int) (C := RX9) (T := TX9) (N := 20) hx hb hts hinX9 tyX9 tyX9_ok nmX9 hown hK hP hD hS hmo hFo_12 rfl 17 (by decide) (hts (.fieldLink RX9 65 "RopeDrumsModel" "failed" "I") (by decide +kernel)) (fun _ h9 => h9) rfl (by decide +kernel) (rfl) (rfl) (Nat.le_of_ble_eq_true rfl) dX9_whole_21 (fun H locs F16 eF16 hP hS => ?_)
      have eF16 : F16 = va_up F12 o (.inr (8, [.int 0, .ref (qm 0), .ref (qm 1), .ref (qm 2), .ref (qm 3), .ref (qm 4), .ref (qm 5), .ref (qm 6), .ref (qm 7), .int Pp.1, .ref (qm 8), .ref (qm 9), .ref (qm 10), .ref (qm 11), .ref (qm 12), .ref (qm 13), .ref (qm 14), .int 2, .ref (qm 15), .long oc])) := eF16
      have hFo_16 : F16 o = .inr (8, [.int 0, .ref (qm 0), .ref (qm 1), .ref (qm 2), .ref (qm 3), .ref (qm 4), .ref (qm 5), .ref (qm 6), .ref (qm 7), .int Pp.1, .ref (qm 8), .ref (qm 9), .ref (qm 10), .ref (qm 11), .ref (qm 12), .ref (qm 13), .ref (qm 14), .int 2, .ref (qm 15), .long oc]) := by rw [eF16]; exact va_up_self _ _ _
      have hFqm0_16 : F16 (qm 0) = cI (cy 1) 10 Mm.1 := by rw [eF16, va_up_ne _ _ (pl_ne hFqm0_12 hFo_12 rfl)]; exact hFqm0_12
      have hFqm1_16 : F16 (qm 1) = cJ (cy 2) 10 Mm.2 := by rw [eF16, va_up_ne _ _ (pl_ne hFqm1_12 hFo_12 rfl)]; exact hFqm1_12
      have hFqm2_16 : F16 (qm 2) = cD (cy 0) 6 Dd.1 := by rw [eF16, va_up_ne _ _ (pl_ne hFqm2_12 hFo_12 rfl)]; exact hFqm2_12
      have hFqm3_16 : F16 (qm 3) = cD (cy 0) 6 Dd.2.1 := by rw [eF16, va_up_ne _ _ (pl_ne hFqm3_12 hFo_12 rfl)]; exact hFqm3_12
      have hFqm4_16 : F16 (qm 4) = cD (cy 0) 6 Dd.2.2.1 := by rw [eF16, va_up_ne _ _ (pl_ne hFqm4_12 hFo_12 rfl)]; exact hFqm4_12
      have hFqm5_16 : F16 (qm 5) = cJ (cy 2) 6 Dd.2.2.2 := by rw [eF16, va_up_ne _ _ (pl_ne hFqm5_12 hFo_12 rfl)]; exact hFqm5_12
      have hFqm6_16 : F16 (qm 6) = cI (cy 1) 8 Sl.1 := by rw [eF16, va_up_ne _ _ (pl_ne hFqm6_12 hFo_12 rfl)]; exact hFqm6_12
      have hFqm7_16 : F16 (qm 7) = cJ (cy 2) 128 Sl.2 := by rw [eF16, va_up_ne _ _ (pl_ne hFqm7_12 hFo_12 rfl)]; exact hFqm7_12
      have hFqm8_16 : F16 (qm 8) = cI (cy 1) 30 Pp.2.1 := by rw [eF16, va_up_ne _ _ (pl_ne hFqm8_12 hFo_12 rfl)]; exact hFqm8_12
      have hFqm9_16 : F16 (qm 9) = cI (cy 3) 30 Pp.2.2 := by rw [eF16, va_up_ne _ _ (pl_ne hFqm9_12 hFo_12 rfl)]; exact hFqm9_12
      have hFqm10_16 : F16 (qm 10) = cI (cy 1) 5 Kr.1 := by rw [eF16, va_up_ne _ _ (pl_ne hFqm10_12 hFo_12 rfl)]; exact hFqm10_12
      have hFqm11_16 : F16 (qm 11) = cI (cy 3) 5 Kr.2.1 := by rw [eF16, va_up_ne _ _ (pl_ne hFqm11_12 hFo_12 rfl)]; exact hFqm11_12
      have hFqm12_16 : F16 (qm 12) = cI (cy 1) 60 Kr.2.2 := by rw [eF16, va_up_ne _ _ (pl_ne hFqm12_12 hFo_12 rfl)]; exact hFqm12_12
      have hFqm13_16 : F16 (qm 13) = cI (cy 1) 4 Bk.1 := by rw [eF16, va_up_ne _ _ (pl_ne hFqm13_12 hFo_12 rfl)]; exact hFqm13_12
      have hFqm14_16 : F16 (qm 14) = cD (cy 0) 4 Bk.2 := by rw [eF16, va_up_ne _ _ (pl_ne hFqm14_12 hFo_12 rfl)]; exact hFqm14_12
      have hFqm15_16 : F16 (qm 15) = cI (cy 1) 6 Xx.2 := by rw [eF16, va_up_ne _ _ (pl_ne hFqm15_12 hFo_12 rfl)]; exact hFqm15_12
      refine lv_aload_n hx hb dX9_whole_24 rfl (lv_at hl 0 rfl) ?_
      refine lv_iconst (v := 0) hx hb dX9_whole_25 (by decide) ?_
      refine va_calli (va_runV (As := [.int 0]) (rest := []) ⟨hx, hb, hml, hown, hts⟩ (c9_answers_2 l G cy L F16 H.size o qm 0 Pp.1 oc hmo hFo_16 Xx.2 hm15 hFqm15_16 0) (cwV 1 hts gX9_whole_X9_answers rfl rfl rfl (by decide +kernel) ⟨Nat.le_of_ble_eq_true rfl, Nat.le_of_ble_eq_true rfl⟩) (preV_of okQ (⟨rfl, hP, hK, hD.top⟩) (pl_recv hK hP (ci := 8) rfl hmo hFo_16)) rfl rfl hl.1 rfl (lv_room (Nat.le_of_ble_eq_true rfl)) dX9_whole_26 ⟨Nat.le_of_ble_eq_true rfl, Nat.le_of_ble_eq_true rfl⟩) hS (fun q _ h => pl_free hD hS hA q h) (pl_free hD hS hA) (fun r18 F17 t H1 locs ht hvm hw hP1 hz1 hk1 hS => ?_)
      have hP1 : va_P G vwCl (va_pl L F17) t.heap := hP1
      rw [ht] at hP1
      have hP := hP1
      generalize H1 = H at hP hS ⊢
      obtain ⟨hqr18, eF17⟩ := hw
      have eF17 : F17 = va_up F16 (qm 15) (cI (cy 1) 6 (upd Xx.2 2 (Xx.2 2 + 1))) := eF17
      have hFo_18 : F17 o = .inr (8, [.int 0, .ref (qm 0), .ref (qm 1), .ref (qm 2), .ref (qm 3), .ref (qm 4), .ref (qm 5), .ref (qm 6), .ref (qm 7), .int Pp.1, .ref (qm 8), .ref (qm 9), .ref (qm 10), .ref (qm 11), .ref (qm 12), .ref (qm 13), .ref (qm 14), .int 2, .ref (qm 15), .long oc]) := by rw [eF17, va_up_ne _ _ (pl_ne hFo_16 hFqm15_16 rfl)]; exact hFo_16
      have hFqm0_18 : F17 (qm 0) = cI (cy 1) 10 Mm.1 := by rw [eF17, va_up_ne _ _ (pl_ne hFqm0_16 hFqm15_16 rfl)]; exact hFqm0_16
      have hFqm1_18 : F17 (qm 1) = cJ (cy 2) 10 Mm.2 := by rw [eF17, va_up_ne _ _ (pl_ne hFqm1_16 hFqm15_16 rfl)]; exact hFqm1_16
      have hFqm2_18 : F17 (qm 2) = cD (cy 0) 6 Dd.1 := by rw [eF17, va_up_ne _ _ (pl_ne hFqm2_16 hFqm15_16 rfl)]; exact hFqm2_16
      have hFqm3_18 : F17 (qm 3) = cD (cy 0) 6 Dd.2.1 := by rw [eF17, va_up_ne _ _ (pl_ne hFqm3_16 hFqm15_16 rfl)]; exact hFqm3_16
      have hFqm4_18 : F17 (qm 4) = cD (cy 0) 6 Dd.2.2.1 := by rw [eF17, va_up_ne _ _ (pl_ne hFqm4_16 hFqm15_16 rfl)]; exact hFqm4_16
      have hFqm5_18 : F17 (qm 5) = cJ (cy 2) 6 Dd.2.2.2 := by rw [eF17, va_up_ne _ _ (pl_ne hFqm5_16 hFqm15_16 rfl)]; exact hFqm5_16
      have hFqm6_18 : F17 (qm 6) = cI (cy 1) 8 Sl.1 := by rw [eF17, va_up_ne _ _ (pl_ne hFqm6_16 hFqm15_16 rfl)]; exact hFqm6_16
      have hFqm7_18 : F17 (qm 7) = cJ (cy 2) 128 Sl.2 := by rw [eF17, va_up_ne _ _ (pl_ne hFqm7_16 hFqm15_16 rfl)]; exact hFqm7_16
      have hFqm8_18 : F17 (qm 8) = cI (cy 1) 30 Pp.2.1 := by rw [eF17, va_up_ne _ _ (pl_ne hFqm8_16 hFqm15_16 rfl)]; exact hFqm8_16
      have hFqm9_18 : F17 (qm 9) = cI (cy 3) 30 Pp.2.2 := by rw [eF17, va_up_ne _ _ (pl_ne hFqm9_16 hFqm15_16 rfl)]; exact hFqm9_16
      have hFqm10_18 : F17 (qm 10) = cI (cy 1) 5 Kr.1 := by rw [eF17, va_up_ne _ _ (pl_ne hFqm10_16 hFqm15_16 rfl)]; exact hFqm10_16
      have hFqm11_18 : F17 (qm 11) = cI (cy 3) 5 Kr.2.1 := by rw [eF17, va_up_ne _ _ (pl_ne hFqm11_16 hFqm15_16 rfl)]; exact hFqm11_16
      have hFqm12_18 : F17 (qm 12) = cI (cy 1) 60 Kr.2.2 := by rw [eF17, va_up_ne _ _ (pl_ne hFqm12_16 hFqm15_16 rfl)]; exact hFqm12_16
      have hFqm13_18 : F17 (qm 13) = cI (cy 1) 4 Bk.1 := by rw [eF17, va_up_ne _ _ (pl_ne hFqm13_16 hFqm15_16 rfl)]; exact hFqm13_16
      have hFqm14_18 : F17 (qm 14) = cD (cy 0) 4 Bk.2 := by rw [eF17, va_up_ne _ _ (pl_ne hFqm14_16 hFqm15_16 rfl)]; exact hFqm14_16
      have hFqm15_18 : F17 (qm 15) = cI (cy 1) 6 (upd Xx.2 2 (Xx.2 2 + 1)) := by rw [eF17]; exact va_up_self _ _ _
      have hr18 := hqr18
      have hzr18 : r18 = -12 := by rw [hr18]; decide
      subst hzr18
      refine lv_if_ne (tgt := 54) hx hb dX9_whole_29 (by decide) (fun c19 => ?_) (fun c19 => absurd c19 (by decide))
      refine lv_lconst (v := 0) hx hb dX9_whole_54 (by decide) ?_
      exact W.lret (v := 0) hx hb hr (fun t ht hW => ⟨⟨0, F17, rfl, (by have hsp : sp_whole Sl Xx (nI j_lg) i = (0, failX Xx 2) := (by unfold sp_whole; rw [hi_lg]; exact (if_neg hp0_i).trans (by rw [hp_i])); rw [hsp]; exact ⟨rfl, (by exact ⟨⟨_, _, hmo, hFo_18⟩, ⟨hm0, hFqm0_18⟩, ⟨hm1, hFqm1_18⟩, ⟨hm2, hFqm2_18⟩, ⟨hm3, hFqm3_18⟩, ⟨hm4, hFqm4_18⟩, ⟨hm5, hFqm5_18⟩, ⟨hm6, hFqm6_18⟩, ⟨hm7, hFqm7_18⟩, ⟨hm8, hFqm8_18⟩, ⟨hm9, hFqm9_18⟩, ⟨hm10, hFqm10_18⟩, ⟨hm11, hFqm11_18⟩, ⟨hm12, hFqm12_18⟩, ⟨hm13, hFqm13_18⟩, ⟨hm14, hFqm14_18⟩, ⟨hm15, hFqm15_18⟩, hne⟩)⟩), (by show va_P _ _ _ t.heap; rw [ht]; exact hP)⟩, hS.F ht⟩) hS.2.2 dX9_whole_55
    · subst ei_i
      refine lv_aload_n hx hb dX9_whole_0 rfl (lv_at hl 0 rfl) ?_
      refine lv_iconst (v := 0) hx hb dX9_whole_1 (by decide) ?_
      refine pg_put (ci := 8) (v := .int 0) (ty := .int) (C := RX9) (T := TX9) (N := 20) hx hb hts hinX9 tyX9 tyX9_ok nmX9 hown hK hP hD hS hmo hFo rfl 0 (by decide) (hts (.fieldLink RX9 61 "RopeDrumsModel" "thrown" "I") (by decide +kernel)) (fun _ h9 => h9) rfl (by decide +kernel) (rfl) (rfl) (Nat.le_of_ble_eq_true rfl) dX9_whole_2 (fun H locs F20 eF20 hP hS => ?_)
      have eF20 : F20 = va_up F o (.inr (8, [.int 0, .ref (qm 0), .ref (qm 1), .ref (qm 2), .ref (qm 3), .ref (qm 4), .ref (qm 5), .ref (qm 6), .ref (qm 7), .int Pp.1, .ref (qm 8), .ref (qm 9), .ref (qm 10), .ref (qm 11), .ref (qm 12), .ref (qm 13), .ref (qm 14), .int Xx.1, .ref (qm 15), .long oc])) := eF20
      have hFo_20 : F20 o = .inr (8, [.int 0, .ref (qm 0), .ref (qm 1), .ref (qm 2), .ref (qm 3), .ref (qm 4), .ref (qm 5), .ref (qm 6), .ref (qm 7), .int Pp.1, .ref (qm 8), .ref (qm 9), .ref (qm 10), .ref (qm 11), .ref (qm 12), .ref (qm 13), .ref (qm 14), .int Xx.1, .ref (qm 15), .long oc]) := by rw [eF20]; exact va_up_self _ _ _
      have hFqm0_20 : F20 (qm 0) = cI (cy 1) 10 Mm.1 := by rw [eF20, va_up_ne _ _ (pl_ne hF0 hFo rfl)]; exact hF0
      have hFqm1_20 : F20 (qm 1) = cJ (cy 2) 10 Mm.2 := by rw [eF20, va_up_ne _ _ (pl_ne hF1 hFo rfl)]; exact hF1
      have hFqm2_20 : F20 (qm 2) = cD (cy 0) 6 Dd.1 := by rw [eF20, va_up_ne _ _ (pl_ne hF2 hFo rfl)]; exact hF2
      have hFqm3_20 : F20 (qm 3) = cD (cy 0) 6 Dd.2.1 := by rw [eF20, va_up_ne _ _ (pl_ne hF3 hFo rfl)]; exact hF3
      have hFqm4_20 : F20 (qm 4) = cD (cy 0) 6 Dd.2.2.1 := by rw [eF20, va_up_ne _ _ (pl_ne hF4 hFo rfl)]; exact hF4
      have hFqm5_20 : F20 (qm 5) = cJ (cy 2) 6 Dd.2.2.2 := by rw [eF20, va_up_ne _ _ (pl_ne hF5 hFo rfl)]; exact hF5
      have hFqm6_20 : F20 (qm 6) = cI (cy 1) 8 Sl.1 := by rw [eF20, va_up_ne _ _ (pl_ne hF6 hFo rfl)]; exact hF6
      have hFqm7_20 : F20 (qm 7) = cJ (cy 2) 128 Sl.2 := by rw [eF20, va_up_ne _ _ (pl_ne hF7 hFo rfl)]; exact hF7
      have hFqm8_20 : F20 (qm 8) = cI (cy 1) 30 Pp.2.1 := by rw [eF20, va_up_ne _ _ (pl_ne hF8 hFo rfl)]; exact hF8
      have hFqm9_20 : F20 (qm 9) = cI (cy 3) 30 Pp.2.2 := by rw [eF20, va_up_ne _ _ (pl_ne hF9 hFo rfl)]; exact hF9
      have hFqm10_20 : F20 (qm 10) = cI (cy 1) 5 Kr.1 := by rw [eF20, va_up_ne _ _ (pl_ne hF10 hFo rfl)]; exact hF10
      have hFqm11_20 : F20 (qm 11) = cI (cy 3) 5 Kr.2.1 := by rw [eF20, va_up_ne _ _ (pl_ne hF11 hFo rfl)]; exact hF11
      have hFqm12_20 : F20 (qm 12) = cI (cy 1) 60 Kr.2.2 := by rw [eF20, va_up_ne _ _ (pl_ne hF12 hFo rfl)]; exact hF12
      have hFqm13_20 : F20 (qm 13) = cI (cy 1) 4 Bk.1 := by rw [eF20, va_up_ne _ _ (pl_ne hF13 hFo rfl)]; exact hF13
      have hFqm14_20 : F20 (qm 14) = cD (cy 0) 4 Bk.2 := by rw [eF20, va_up_ne _ _ (pl_ne hF14 hFo rfl)]; exact hF14
      have hFqm15_20 : F20 (qm 15) = cI (cy 1) 6 Xx.2 := by rw [eF20, va_up_ne _ _ (pl_ne hF15 hFo rfl)]; exact hF15
      refine lv_iload_n hx hb dX9_whole_5 rfl (lv_at hl 1 rfl) ?_
      refine vp_callSi (W.runS (As := [.int (nI j_lg)]) (rest := []) ⟨hx, hb, hml, hown, hts⟩ (c9_isLog l (nI j_lg)) (va_cwS 1 hts gX9_whole_X9_isLog rfl rfl rfl (by decide +kernel) ⟨Nat.le_of_ble_eq_true rfl, Nat.le_of_ble_eq_true rfl⟩) (preS_of okT (trivial)) rfl rfl hl.1 rfl (lv_room (Nat.le_of_ble_eq_true rfl)) dX9_whole_6 ⟨Nat.le_of_ble_eq_true rfl, Nat.le_of_ble_eq_true rfl⟩) (fun r21 hr21 => ?_)
      rw [isx1 hi_lg] at hr21
      subst hr21
      refine lv_if_ne (tgt := 14) hx hb dX9_whole_9 (by decide) (fun c22 => ?_) (fun c22 => absurd c22 (by decide))
      refine lv_aload_n hx hb dX9_whole_14 rfl (lv_at hl 0 rfl) ?_
      refine lv_aload_n hx hb dX9_whole_15 rfl (lv_at hl 0 rfl) ?_
      refine lv_iload_n hx hb dX9_whole_16 rfl (lv_at hl 1 rfl) ?_
      refine lv_iload_n hx hb dX9_whole_17 rfl (lv_at hl 2 rfl) ?_
      refine vp_callSi (W.runV (As := [.int (nI j_lg), .int (nI q_i)]) (rest := [.ref o]) ⟨hx, hb, hml, hown, hts⟩ (c9_logCause l G cy L F20 o qm 0 Pp.1 Xx.1 oc hmo hFo_20 Sl.1 hm6 hFqm6_20 j_lg hj_lg (nI q_i) ((hVS j_lg hj_lg).1)) (cwV 2 hts gX9_whole_X9_logCause rfl rfl rfl (by decide +kernel) ⟨Nat.le_of_ble_eq_true rfl, Nat.le_of_ble_eq_true rfl⟩) (preV_of okP (⟨hP, hK, hD.top⟩) (pl_recv hK hP (ci := 8) rfl hmo hFo_20)) rfl rfl hl.1 rfl (lv_room (Nat.le_of_ble_eq_true rfl)) dX9_whole_18 ⟨Nat.le_of_ble_eq_true rfl, Nat.le_of_ble_eq_true rfl⟩) (fun r23 hr23 => ?_)
      rw [hp_i] at hr23
      have hzr23 : r23 = 0 := hr23
      clear hr23
      subst hzr23
      refine pg_put (ci := 8) (v := .int 0) (ty := .int) (C := RX9) (T := TX9) (N := 20) hx hb hts hinX9 tyX9 tyX9_ok nmX9 hown hK hP hD hS hmo hFo_20 rfl 17 (by decide) (hts (.fieldLink RX9 65 "RopeDrumsModel" "failed" "I") (by decide +kernel)) (fun _ h9 => h9) rfl (by decide +kernel) (rfl) (rfl) (Nat.le_of_ble_eq_true rfl) dX9_whole_21 (fun H locs F24 eF24 hP hS => ?_)
      have eF24 : F24 = va_up F20 o (.inr (8, [.int 0, .ref (qm 0), .ref (qm 1), .ref (qm 2), .ref (qm 3), .ref (qm 4), .ref (qm 5), .ref (qm 6), .ref (qm 7), .int Pp.1, .ref (qm 8), .ref (qm 9), .ref (qm 10), .ref (qm 11), .ref (qm 12), .ref (qm 13), .ref (qm 14), .int 0, .ref (qm 15), .long oc])) := eF24
      have hFo_24 : F24 o = .inr (8, [.int 0, .ref (qm 0), .ref (qm 1), .ref (qm 2), .ref (qm 3), .ref (qm 4), .ref (qm 5), .ref (qm 6), .ref (qm 7), .int Pp.1, .ref (qm 8), .ref (qm 9), .ref (qm 10), .ref (qm 11), .ref (qm 12), .ref (qm 13), .ref (qm 14), .int 0, .ref (qm 15), .long oc]) := by rw [eF24]; exact va_up_self _ _ _
      have hFqm0_24 : F24 (qm 0) = cI (cy 1) 10 Mm.1 := by rw [eF24, va_up_ne _ _ (pl_ne hFqm0_20 hFo_20 rfl)]; exact hFqm0_20
      have hFqm1_24 : F24 (qm 1) = cJ (cy 2) 10 Mm.2 := by rw [eF24, va_up_ne _ _ (pl_ne hFqm1_20 hFo_20 rfl)]; exact hFqm1_20
      have hFqm2_24 : F24 (qm 2) = cD (cy 0) 6 Dd.1 := by rw [eF24, va_up_ne _ _ (pl_ne hFqm2_20 hFo_20 rfl)]; exact hFqm2_20
      have hFqm3_24 : F24 (qm 3) = cD (cy 0) 6 Dd.2.1 := by rw [eF24, va_up_ne _ _ (pl_ne hFqm3_20 hFo_20 rfl)]; exact hFqm3_20
      have hFqm4_24 : F24 (qm 4) = cD (cy 0) 6 Dd.2.2.1 := by rw [eF24, va_up_ne _ _ (pl_ne hFqm4_20 hFo_20 rfl)]; exact hFqm4_20
      have hFqm5_24 : F24 (qm 5) = cJ (cy 2) 6 Dd.2.2.2 := by rw [eF24, va_up_ne _ _ (pl_ne hFqm5_20 hFo_20 rfl)]; exact hFqm5_20
      have hFqm6_24 : F24 (qm 6) = cI (cy 1) 8 Sl.1 := by rw [eF24, va_up_ne _ _ (pl_ne hFqm6_20 hFo_20 rfl)]; exact hFqm6_20
      have hFqm7_24 : F24 (qm 7) = cJ (cy 2) 128 Sl.2 := by rw [eF24, va_up_ne _ _ (pl_ne hFqm7_20 hFo_20 rfl)]; exact hFqm7_20
      have hFqm8_24 : F24 (qm 8) = cI (cy 1) 30 Pp.2.1 := by rw [eF24, va_up_ne _ _ (pl_ne hFqm8_20 hFo_20 rfl)]; exact hFqm8_20
      have hFqm9_24 : F24 (qm 9) = cI (cy 3) 30 Pp.2.2 := by rw [eF24, va_up_ne _ _ (pl_ne hFqm9_20 hFo_20 rfl)]; exact hFqm9_20
      have hFqm10_24 : F24 (qm 10) = cI (cy 1) 5 Kr.1 := by rw [eF24, va_up_ne _ _ (pl_ne hFqm10_20 hFo_20 rfl)]; exact hFqm10_20
      have hFqm11_24 : F24 (qm 11) = cI (cy 3) 5 Kr.2.1 := by rw [eF24, va_up_ne _ _ (pl_ne hFqm11_20 hFo_20 rfl)]; exact hFqm11_20
      have hFqm12_24 : F24 (qm 12) = cI (cy 1) 60 Kr.2.2 := by rw [eF24, va_up_ne _ _ (pl_ne hFqm12_20 hFo_20 rfl)]; exact hFqm12_20
      have hFqm13_24 : F24 (qm 13) = cI (cy 1) 4 Bk.1 := by rw [eF24, va_up_ne _ _ (pl_ne hFqm13_20 hFo_20 rfl)]; exact hFqm13_20
      have hFqm14_24 : F24 (qm 14) = cD (cy 0) 4 Bk.2 := by rw [eF24, va_up_ne _ _ (pl_ne hFqm14_20 hFo_20 rfl)]; exact hFqm14_20
      have hFqm15_24 : F24 (qm 15) = cI (cy 1) 6 Xx.2 := by rw [eF24, va_up_ne _ _ (pl_ne hFqm15_20 hFo_20 rfl)]; exact hFqm15_20
      refine lv_aload_n hx hb dX9_whole_24 rfl (lv_at hl 0 rfl) ?_
      refine lv_iconst (v := 0) hx hb dX9_whole_25 (by decide) ?_
      refine va_calli (va_runV (As := [.int 0]) (rest := []) ⟨hx, hb, hml, hown, hts⟩ (c9_answers_0 l G cy L F24 H.size o qm 0 Pp.1 oc hmo hFo_24 Xx.2 hm15 hFqm15_24 0) (cwV 1 hts gX9_whole_X9_answers rfl rfl rfl (by decide +kernel) ⟨Nat.le_of_ble_eq_true rfl, Nat.le_of_ble_eq_true rfl⟩) (preV_of okQ (⟨rfl, hP, hK, hD.top⟩) (pl_recv hK hP (ci := 8) rfl hmo hFo_24)) rfl rfl hl.1 rfl (lv_room (Nat.le_of_ble_eq_true rfl)) dX9_whole_26 ⟨Nat.le_of_ble_eq_true rfl, Nat.le_of_ble_eq_true rfl⟩) hS (fun q _ h => pl_free hD hS hA q h) (pl_free hD hS hA) (fun r26 F25 t H1 locs ht hvm hw hP1 hz1 hk1 hS => ?_)
      have hP1 : va_P G vwCl (va_pl L F25) t.heap := hP1
      rw [ht] at hP1
      have hP := hP1
      generalize H1 = H at hP hS ⊢
      obtain ⟨hqr26, eF25⟩ := hw
      have hFo_F25 : F25 o = .inr (8, [.int 0, .ref (qm 0), .ref (qm 1), .ref (qm 2), .ref (qm 3), .ref (qm 4), .ref (qm 5), .ref (qm 6), .ref (qm 7), .int Pp.1, .ref (qm 8), .ref (qm 9), .ref (qm 10), .ref (qm 11), .ref (qm 12), .ref (qm 13), .ref (qm 14), .int 0, .ref (qm 15), .long oc]) := by rw [eF25]; exact hFo_24
      have hFqm0_F25 : F25 (qm 0) = cI (cy 1) 10 Mm.1 := by rw [eF25]; exact hFqm0_24
      have hFqm1_F25 : F25 (qm 1) = cJ (cy 2) 10 Mm.2 := by rw [eF25]; exact hFqm1_24
      have hFqm2_F25 : F25 (qm 2) = cD (cy 0) 6 Dd.1 := by rw [eF25]; exact hFqm2_24
      have hFqm3_F25 : F25 (qm 3) = cD (cy 0) 6 Dd.2.1 := by rw [eF25]; exact hFqm3_24
      have hFqm4_F25 : F25 (qm 4) = cD (cy 0) 6 Dd.2.2.1 := by rw [eF25]; exact hFqm4_24
      have hFqm5_F25 : F25 (qm 5) = cJ (cy 2) 6 Dd.2.2.2 := by rw [eF25]; exact hFqm5_24
      have hFqm6_F25 : F25 (qm 6) = cI (cy 1) 8 Sl.1 := by rw [eF25]; exact hFqm6_24
      have hFqm7_F25 : F25 (qm 7) = cJ (cy 2) 128 Sl.2 := by rw [eF25]; exact hFqm7_24
      have hFqm8_F25 : F25 (qm 8) = cI (cy 1) 30 Pp.2.1 := by rw [eF25]; exact hFqm8_24
      have hFqm9_F25 : F25 (qm 9) = cI (cy 3) 30 Pp.2.2 := by rw [eF25]; exact hFqm9_24
      have hFqm10_F25 : F25 (qm 10) = cI (cy 1) 5 Kr.1 := by rw [eF25]; exact hFqm10_24
      have hFqm11_F25 : F25 (qm 11) = cI (cy 3) 5 Kr.2.1 := by rw [eF25]; exact hFqm11_24
      have hFqm12_F25 : F25 (qm 12) = cI (cy 1) 60 Kr.2.2 := by rw [eF25]; exact hFqm12_24
      have hFqm13_F25 : F25 (qm 13) = cI (cy 1) 4 Bk.1 := by rw [eF25]; exact hFqm13_24
      have hFqm14_F25 : F25 (qm 14) = cD (cy 0) 4 Bk.2 := by rw [eF25]; exact hFqm14_24
      have hFqm15_F25 : F25 (qm 15) = cI (cy 1) 6 Xx.2 := by rw [eF25]; exact hFqm15_24
      have hr26 := hqr26
      subst hr26
      refine lv_if_ne (tgt := 54) hx hb dX9_whole_29 (by decide) (fun c27 => absurd (by decide) c27) (fun c27 => ?_)
      refine lv_iload_n hx hb dX9_whole_32 rfl (lv_at hl 1 rfl) ?_
      refine vp_callSi (W.runS (As := [.int (nI j_lg)]) (rest := []) ⟨hx, hb, hml, hown, hts⟩ (c9_laneOfLog l j_lg hj_lg) (va_cwS 1 hts gX9_whole_X9_laneOfLog rfl rfl rfl (by decide +kernel) ⟨Nat.le_of_ble_eq_true rfl, Nat.le_of_ble_eq_true rfl⟩) (preS_of okT (trivial)) rfl rfl hl.1 rfl (lv_room (Nat.le_of_ble_eq_true rfl)) dX9_whole_33 ⟨Nat.le_of_ble_eq_true rfl, Nat.le_of_ble_eq_true rfl⟩) (fun r28 hr28 => ?_)
      subst hr28
      refine lv_aload_n hx hb dX9_whole_36 rfl (lv_at hl 0 rfl) ?_
      refine pg_get (ci := 8) (C := RX9) (T := TX9) (N := 20) hx hb hts hinX9 hown hK hP hmo hFo_F25 rfl 8 (by decide) (hts (.fieldLink RX9 33 "RopeDrumsModel" "logBits" "[J") (by decide +kernel)) (fun _ h9 => h9) rfl dX9_whole_37 ?_
      refine lv_bipush (v := 16) hx hb dX9_whole_40 (by decide) ?_
      refine lv_iload_n hx hb dX9_whole_42 rfl (lv_at hl 1 rfl) ?_
      refine lv_imul hx hb dX9_whole_43 ?_
      refine lv_topi (fun v29 ev29 => ?_)
      refine lv_iload_n hx hb dX9_whole_44 rfl (lv_at hl 2 rfl) ?_
      refine lv_iadd hx hb dX9_whole_45 ?_
      refine lv_topi (fun v30 ev30 => ?_)
      rw [ev29, nI16] at ev30
      subst ev30
      refine pg_lald hx hb hK hP 2 hm7 hFqm7_F25 rfl (vp_in_nI (by omega) (by decide)) dX9_whole_46 ?_
      refine lv_topl (fun v31 ev31 => ?_)
      rw [nI_clamp (by omega)] at ev31
      refine lv_iconst (v := 1) hx hb dX9_whole_47 (by decide) ?_
      refine vp_callSl (W.runS (As := [.int (lw j_lg), .long v31, .int 1]) (rest := []) ⟨hx, hb, hml, hown, hts⟩ (c9_turned l (lw j_lg) 1 v31 (by rw [ev31]; exact ((hVS j_lg hj_lg).2 q_i hs_i))) (va_cwS 3 hts gX9_whole_X9_turned rfl rfl rfl (by decide +kernel) ⟨Nat.le_of_ble_eq_true rfl, Nat.le_of_ble_eq_true rfl⟩) (preS_of okT (trivial)) rfl rfl hl.1 rfl (lv_room (Nat.le_of_ble_eq_true rfl)) dX9_whole_48 ⟨Nat.le_of_ble_eq_true rfl, Nat.le_of_ble_eq_true rfl⟩) (fun r32 hr32 => ?_)
      refine lv_goto (tgt := 55) hx hb dX9_whole_51 (by decide) ?_
      exact W.lret (v := r32) hx hb hr (fun t ht hW => ⟨⟨r32, F25, rfl, (by subst hr32 ev31 ev29; have hsp : sp_whole Sl Xx (nI j_lg) (nI q_i) = (tn (lw j_lg) (Sl.2 (16 * j_lg + q_i)) 1, goodX Xx) := (by unfold sp_whole; rw [hi_lg]; exact (if_pos hp_i).trans (by rw [nI_tn (by omega)])); rw [hsp]; exact ⟨rfl, (by exact ⟨⟨_, _, hmo, hFo_F25⟩, ⟨hm0, hFqm0_F25⟩, ⟨hm1, hFqm1_F25⟩, ⟨hm2, hFqm2_F25⟩, ⟨hm3, hFqm3_F25⟩, ⟨hm4, hFqm4_F25⟩, ⟨hm5, hFqm5_F25⟩, ⟨hm6, hFqm6_F25⟩, ⟨hm7, hFqm7_F25⟩, ⟨hm8, hFqm8_F25⟩, ⟨hm9, hFqm9_F25⟩, ⟨hm10, hFqm10_F25⟩, ⟨hm11, hFqm11_F25⟩, ⟨hm12, hFqm12_F25⟩, ⟨hm13, hFqm13_F25⟩, ⟨hm14, hFqm14_F25⟩, ⟨hm15, hFqm15_F25⟩, hne⟩)⟩), (by show va_P _ _ _ t.heap; rw [ht]; exact hP)⟩, hS.F ht⟩) hS.2.2 dX9_whole_55

set_option maxHeartbeats 8000000 in
set_option maxRecDepth 100000 in
theorem n_copy (l : Launch) (G : va_G) (cy : Nat → ClassId) (L : List Nat) (F : Nat → va_E) (sz : Nat) (o : Nat) (qm : Nat → Nat) (Mm : SM) (Dd : SD) (Sl : SL) (Pp : SP) (Kr : SR) (Bk : SB) (Xx : SX) (hR : RepM cy L o qm Mm Dd Sl Pp Kr Bk Xx F) (hV : Val Mm Dd Sl Pp Kr Bk) (dd ff bk : Int32)  : Met l yX9_copy wsX9_copy ({ frames := 3, cells := 0, slots := 0, locals := 70 }) (va_Pc [.ref o, .int dd, .int ff, .int bk] (fun U => bQ G cy L F sz U U.heap)) (va_Qi (fun (r : Int32) (F' : Nat → va_E) => r = (sp_copy Sl Xx dd ff bk).1 ∧ RepM cy L o qm Mm Dd (sp_copy Sl Xx dd ff bk).2.1 Pp Kr Bk (sp_copy Sl Xx dd ff bk).2.2 F') (fun F' t => va_P G vwCl (va_pl L F') t.heap) (va_A (va_pl L F) sz)) 0 0 (va_A (va_pl L F) sz) := by
  refine Met.ofW (cc := cX9_copy) (maxL := 7) (ret := (some .int)) (by decide) rfl ?_
  intro p e s m args below meth c s₁ B hml hv
  obtain ⟨rfl, hsz, hP, hK, hD0⟩ := hv
  have hx := B.exec
  have hb := B.bytes
  have hr := B.returns
  have hts := atoms_spec (ws := wsX9_copy) B.pre
  have hown : s.vm.findClass RX9 = some m.cls := findClass_of_methodNamed B.named
  have hlocks := B.notSynchronized
  have hinX9 : ∀ w ∈ wsX90, w ∈ wsX9_copy := by decide +kernel
  subst hsz
  have hD := hD0.self F s.heap.size
  generalize hAe : va_A (va_pl L F) s.heap.size = A at hD ⊢
  have hA : ∀ q : Nat, s.heap.size ≤ q → A q := fun q h => by rw [← hAe]; exact Or.inr h
  have hS : va_S A s.heap s.heap [] := va_S.rf
  obtain ⟨⟨th, oc, hmo, hFo⟩, ⟨hm0, hF0⟩, ⟨hm1, hF1⟩, ⟨hm2, hF2⟩, ⟨hm3, hF3⟩, ⟨hm4, hF4⟩, ⟨hm5, hF5⟩, ⟨hm6, hF6⟩, ⟨hm7, hF7⟩, ⟨hm8, hF8⟩, ⟨hm9, hF9⟩, ⟨hm10, hF10⟩, ⟨hm11, hF11⟩, ⟨hm12, hF12⟩, ⟨hm13, hF13⟩, ⟨hm14, hF14⟩, ⟨hm15, hF15⟩, hne⟩ := id hR
  obtain ⟨hVM, hVD, hVS, hVP, hVK, hVB⟩ := hV
  have hl := lv_entry ([.ref o, .int dd, .int ff, .int bk]) (n := 7) (Nat.le_of_ble_eq_true rfl)
  rw [lg_entry_eq]
  generalize (lg_sl ([.ref o, .int dd, .int ff, .int bk]) ++ List.replicate (7 - (lg_sl ([.ref o, .int dd, .int ff, .int bk])).length) Slot.unset).toArray = ls at hl ⊢
  have hl : lv_has ls 7 [(0, .ref o), (1, .int dd), (2, .int ff), (3, .int bk)] := hl
  rcases ixc 8 dd with hi_dd | ⟨j_dd, hj_dd, hi_dd, ei_dd⟩
  · rcases ixc 8 ff with hi_ff | ⟨j_ff, hj_ff, hi_ff, ei_ff⟩
    · refine lv_aload_n hx hb dX9_copy_0 rfl (lv_at hl 0 rfl) ?_
      refine lv_iconst (v := 0) hx hb dX9_copy_1 (by decide) ?_
      refine pg_put (ci := 8) (v := .int 0) (ty := .int) (C := RX9) (T := TX9) (N := 20) hx hb hts hinX9 tyX9 tyX9_ok nmX9 hown hK hP hD hS hmo hFo rfl 0 (by decide) (hts (.fieldLink RX9 61 "RopeDrumsModel" "thrown" "I") (by decide +kernel)) (fun _ h9 => h9) rfl (by decide +kernel) (rfl) (rfl) (Nat.le_of_ble_eq_true rfl) dX9_copy_2 (fun H locs F1 eF1 hP hS => ?_)
      have eF1 : F1 = va_up F o (.inr (8, [.int 0, .ref (qm 0), .ref (qm 1), .ref (qm 2), .ref (qm 3), .ref (qm 4), .ref (qm 5), .ref (qm 6), .ref (qm 7), .int Pp.1, .ref (qm 8), .ref (qm 9), .ref (qm 10), .ref (qm 11), .ref (qm 12), .ref (qm 13), .ref (qm 14), .int Xx.1, .ref (qm 15), .long oc])) := eF1
      have hFo_1 : F1 o = .inr (8, [.int 0, .ref (qm 0), .ref (qm 1), .ref (qm 2), .ref (qm 3), .ref (qm 4), .ref (qm 5), .ref (qm 6), .ref (qm 7), .int Pp.1, .ref (qm 8), .ref (qm 9), .ref (qm 10), .ref (qm 11), .ref (qm 12), .ref (qm 13), .ref (qm 14), .int Xx.1, .ref (qm 15), .long oc]) := by rw [eF1]; exact va_up_self _ _ _
      have hFqm0_1 : F1 (qm 0) = cI (cy 1) 10 Mm.1 := by rw [eF1, va_up_ne _ _ (pl_ne hF0 hFo rfl)]; exact hF0
      have hFqm1_1 : F1 (qm 1) = cJ (cy 2) 10 Mm.2 := by rw [eF1, va_up_ne _ _ (pl_ne hF1 hFo rfl)]; exact hF1
      have hFqm2_1 : F1 (qm 2) = cD (cy 0) 6 Dd.1 := by rw [eF1, va_up_ne _ _ (pl_ne hF2 hFo rfl)]; exact hF2
      have hFqm3_1 : F1 (qm 3) = cD (cy 0) 6 Dd.2.1 := by rw [eF1, va_up_ne _ _ (pl_ne hF3 hFo rfl)]; exact hF3
      have hFqm4_1 : F1 (qm 4) = cD (cy 0) 6 Dd.2.2.1 := by rw [eF1, va_up_ne _ _ (pl_ne hF4 hFo rfl)]; exact hF4
      have hFqm5_1 : F1 (qm 5) = cJ (cy 2) 6 Dd.2.2.2 := by rw [eF1, va_up_ne _ _ (pl_ne hF5 hFo rfl)]; exact hF5
      have hFqm6_1 : F1 (qm 6) = cI (cy 1) 8 Sl.1 := by rw [eF1, va_up_ne _ _ (pl_ne hF6 hFo rfl)]; exact hF6
      have hFqm7_1 : F1 (qm 7) = cJ (cy 2) 128 Sl.2 := by rw [eF1, va_up_ne _ _ (pl_ne hF7 hFo rfl)]; exact hF7
      have hFqm8_1 : F1 (qm 8) = cI (cy 1) 30 Pp.2.1 := by rw [eF1, va_up_ne _ _ (pl_ne hF8 hFo rfl)]; exact hF8
      have hFqm9_1 : F1 (qm 9) = cI (cy 3) 30 Pp.2.2 := by rw [eF1, va_up_ne _ _ (pl_ne hF9 hFo rfl)]; exact hF9
      have hFqm10_1 : F1 (qm 10) = cI (cy 1) 5 Kr.1 := by rw [eF1, va_up_ne _ _ (pl_ne hF10 hFo rfl)]; exact hF10
      have hFqm11_1 : F1 (qm 11) = cI (cy 3) 5 Kr.2.1 := by rw [eF1, va_up_ne _ _ (pl_ne hF11 hFo rfl)]; exact hF11
      have hFqm12_1 : F1 (qm 12) = cI (cy 1) 60 Kr.2.2 := by rw [eF1, va_up_ne _ _ (pl_ne hF12 hFo rfl)]; exact hF12
      have hFqm13_1 : F1 (qm 13) = cI (cy 1) 4 Bk.1 := by rw [eF1, va_up_ne _ _ (pl_ne hF13 hFo rfl)]; exact hF13
      have hFqm14_1 : F1 (qm 14) = cD (cy 0) 4 Bk.2 := by rw [eF1, va_up_ne _ _ (pl_ne hF14 hFo rfl)]; exact hF14
      have hFqm15_1 : F1 (qm 15) = cI (cy 1) 6 Xx.2 := by rw [eF1, va_up_ne _ _ (pl_ne hF15 hFo rfl)]; exact hF15
      refine lv_iload_n hx hb dX9_copy_5 rfl (lv_at hl 1 rfl) ?_
      refine lv_i2l hx hb dX9_copy_6 rfl ?_
      refine lv_topl (fun v2 ev2 => ?_)
      refine lv_ldc2 hx hb hown (hts (.constantLong RX9 143 (4)) (by decide +kernel)) dX9_copy_7 ?_
      refine lv_ldc2 hx hb hown (hts (.constantLong RX9 176 (7)) (by decide +kernel)) dX9_copy_10 ?_
      refine vp_callSi (W.runS (As := [.long v2, .long 4, .long 7]) (rest := []) ⟨hx, hb, hml, hown, hts⟩ (c9_in l v2 4 7) (va_cwS 3 hts gX9_copy_X9_in rfl rfl rfl (by decide +kernel) ⟨Nat.le_of_ble_eq_true rfl, Nat.le_of_ble_eq_true rfl⟩) (preS_of okT (trivial)) rfl rfl hl.1 rfl (lv_room (Nat.le_of_ble_eq_true rfl)) dX9_copy_13 ⟨Nat.le_of_ble_eq_true rfl, Nat.le_of_ble_eq_true rfl⟩) (fun r3 hr3 => ?_)
      have hzr3 : r3 = 0 := by rw [hr3, ev2, inq_i (y := 4) (z := 7) (by decide) (by decide)]; exact if_neg ((by have hq := ixn hi_dd; omega))
      subst hzr3
      refine lv_if_eq (tgt := 31) hx hb dX9_copy_16 (by decide) (fun c4 => ?_) (fun c4 => absurd (by decide) c4)
      refine lv_sipush (v := -1001) hx hb dX9_copy_31 (by decide) ?_
      exact W.iret (v := -1001) hx hb hr (fun t ht hW => ⟨⟨-1001, F1, rfl, (by subst ev2; have hsp : sp_copy Sl Xx dd ff bk = (-1001, Sl, Xx) := (by unfold sp_copy; rw [hi_dd]); rw [hsp]; exact ⟨rfl, (by exact ⟨⟨_, _, hmo, hFo_1⟩, ⟨hm0, hFqm0_1⟩, ⟨hm1, hFqm1_1⟩, ⟨hm2, hFqm2_1⟩, ⟨hm3, hFqm3_1⟩, ⟨hm4, hFqm4_1⟩, ⟨hm5, hFqm5_1⟩, ⟨hm6, hFqm6_1⟩, ⟨hm7, hFqm7_1⟩, ⟨hm8, hFqm8_1⟩, ⟨hm9, hFqm9_1⟩, ⟨hm10, hFqm10_1⟩, ⟨hm11, hFqm11_1⟩, ⟨hm12, hFqm12_1⟩, ⟨hm13, hFqm13_1⟩, ⟨hm14, hFqm14_1⟩, ⟨hm15, hFqm15_1⟩, hne⟩)⟩), (by show va_P _ _ _ t.heap; rw [ht]; exact hP)⟩, hS.F ht⟩) hS.2.2 dX9_copy_34
    · subst ei_ff
      refine lv_aload_n hx hb dX9_copy_0 rfl (lv_at hl 0 rfl) ?_
      refine lv_iconst (v := 0) hx hb dX9_copy_1 (by decide) ?_
      refine pg_put (ci := 8) (v := .int 0) (ty := .int) (C := RX9) (T := TX9) (N := 20) hx hb hts hinX9 tyX9 tyX9_ok nmX9 hown hK hP hD hS hmo hFo rfl 0 (by decide) (hts (.fieldLink RX9 61 "RopeDrumsModel" "thrown" "I") (by decide +kernel)) (fun _ h9 => h9) rfl (by decide +kernel) (rfl) (rfl) (Nat.le_of_ble_eq_true rfl) dX9_copy_2 (fun H locs F5 eF5 hP hS => ?_)
      have eF5 : F5 = va_up F o (.inr (8, [.int 0, .ref (qm 0), .ref (qm 1), .ref (qm 2), .ref (qm 3), .ref (qm 4), .ref (qm 5), .ref (qm 6), .ref (qm 7), .int Pp.1, .ref (qm 8), .ref (qm 9), .ref (qm 10), .ref (qm 11), .ref (qm 12), .ref (qm 13), .ref (qm 14), .int Xx.1, .ref (qm 15), .long oc])) := eF5
      have hFo_5 : F5 o = .inr (8, [.int 0, .ref (qm 0), .ref (qm 1), .ref (qm 2), .ref (qm 3), .ref (qm 4), .ref (qm 5), .ref (qm 6), .ref (qm 7), .int Pp.1, .ref (qm 8), .ref (qm 9), .ref (qm 10), .ref (qm 11), .ref (qm 12), .ref (qm 13), .ref (qm 14), .int Xx.1, .ref (qm 15), .long oc]) := by rw [eF5]; exact va_up_self _ _ _
      have hFqm0_5 : F5 (qm 0) = cI (cy 1) 10 Mm.1 := by rw [eF5, va_up_ne _ _ (pl_ne hF0 hFo rfl)]; exact hF0
      have hFqm1_5 : F5 (qm 1) = cJ (cy 2) 10 Mm.2 := by rw [eF5, va_up_ne _ _ (pl_ne hF1 hFo rfl)]; exact hF1
      have hFqm2_5 : F5 (qm 2) = cD (cy 0) 6 Dd.1 := by rw [eF5, va_up_ne _ _ (pl_ne hF2 hFo rfl)]; exact hF2
      have hFqm3_5 : F5 (qm 3) = cD (cy 0) 6 Dd.2.1 := by rw [eF5, va_up_ne _ _ (pl_ne hF3 hFo rfl)]; exact hF3
      have hFqm4_5 : F5 (qm 4) = cD (cy 0) 6 Dd.2.2.1 := by rw [eF5, va_up_ne _ _ (pl_ne hF4 hFo rfl)]; exact hF4
      have hFqm5_5 : F5 (qm 5) = cJ (cy 2) 6 Dd.2.2.2 := by rw [eF5, va_up_ne _ _ (pl_ne hF5 hFo rfl)]; exact hF5
      have hFqm6_5 : F5 (qm 6) = cI (cy 1) 8 Sl.1 := by rw [eF5, va_up_ne _ _ (pl_ne hF6 hFo rfl)]; exact hF6
      have hFqm7_5 : F5 (qm 7) = cJ (cy 2) 128 Sl.2 := by rw [eF5, va_up_ne _ _ (pl_ne hF7 hFo rfl)]; exact hF7
      have hFqm8_5 : F5 (qm 8) = cI (cy 1) 30 Pp.2.1 := by rw [eF5, va_up_ne _ _ (pl_ne hF8 hFo rfl)]; exact hF8
      have hFqm9_5 : F5 (qm 9) = cI (cy 3) 30 Pp.2.2 := by rw [eF5, va_up_ne _ _ (pl_ne hF9 hFo rfl)]; exact hF9
      have hFqm10_5 : F5 (qm 10) = cI (cy 1) 5 Kr.1 := by rw [eF5, va_up_ne _ _ (pl_ne hF10 hFo rfl)]; exact hF10
      have hFqm11_5 : F5 (qm 11) = cI (cy 3) 5 Kr.2.1 := by rw [eF5, va_up_ne _ _ (pl_ne hF11 hFo rfl)]; exact hF11
      have hFqm12_5 : F5 (qm 12) = cI (cy 1) 60 Kr.2.2 := by rw [eF5, va_up_ne _ _ (pl_ne hF12 hFo rfl)]; exact hF12
      have hFqm13_5 : F5 (qm 13) = cI (cy 1) 4 Bk.1 := by rw [eF5, va_up_ne _ _ (pl_ne hF13 hFo rfl)]; exact hF13
      have hFqm14_5 : F5 (qm 14) = cD (cy 0) 4 Bk.2 := by rw [eF5, va_up_ne _ _ (pl_ne hF14 hFo rfl)]; exact hF14
      have hFqm15_5 : F5 (qm 15) = cI (cy 1) 6 Xx.2 := by rw [eF5, va_up_ne _ _ (pl_ne hF15 hFo rfl)]; exact hF15
      refine lv_iload_n hx hb dX9_copy_5 rfl (lv_at hl 1 rfl) ?_
      refine lv_i2l hx hb dX9_copy_6 rfl ?_
      refine lv_topl (fun v6 ev6 => ?_)
      refine lv_ldc2 hx hb hown (hts (.constantLong RX9 143 (4)) (by decide +kernel)) dX9_copy_7 ?_
      refine lv_ldc2 hx hb hown (hts (.constantLong RX9 176 (7)) (by decide +kernel)) dX9_copy_10 ?_
      refine vp_callSi (W.runS (As := [.long v6, .long 4, .long 7]) (rest := []) ⟨hx, hb, hml, hown, hts⟩ (c9_in l v6 4 7) (va_cwS 3 hts gX9_copy_X9_in rfl rfl rfl (by decide +kernel) ⟨Nat.le_of_ble_eq_true rfl, Nat.le_of_ble_eq_true rfl⟩) (preS_of okT (trivial)) rfl rfl hl.1 rfl (lv_room (Nat.le_of_ble_eq_true rfl)) dX9_copy_13 ⟨Nat.le_of_ble_eq_true rfl, Nat.le_of_ble_eq_true rfl⟩) (fun r7 hr7 => ?_)
      have hzr7 : r7 = 0 := by rw [hr7, ev6, inq_i (y := 4) (z := 7) (by decide) (by decide)]; exact if_neg ((by have hq := ixn hi_dd; omega))
      subst hzr7
      refine lv_if_eq (tgt := 31) hx hb dX9_copy_16 (by decide) (fun c8 => ?_) (fun c8 => absurd (by decide) c8)
      refine lv_sipush (v := -1001) hx hb dX9_copy_31 (by decide) ?_
      exact W.iret (v := -1001) hx hb hr (fun t ht hW => ⟨⟨-1001, F5, rfl, (by subst ev6; have hsp : sp_copy Sl Xx dd (nI j_ff) bk = (-1001, Sl, Xx) := (by unfold sp_copy; rw [hi_dd]); rw [hsp]; exact ⟨rfl, (by exact ⟨⟨_, _, hmo, hFo_5⟩, ⟨hm0, hFqm0_5⟩, ⟨hm1, hFqm1_5⟩, ⟨hm2, hFqm2_5⟩, ⟨hm3, hFqm3_5⟩, ⟨hm4, hFqm4_5⟩, ⟨hm5, hFqm5_5⟩, ⟨hm6, hFqm6_5⟩, ⟨hm7, hFqm7_5⟩, ⟨hm8, hFqm8_5⟩, ⟨hm9, hFqm9_5⟩, ⟨hm10, hFqm10_5⟩, ⟨hm11, hFqm11_5⟩, ⟨hm12, hFqm12_5⟩, ⟨hm13, hFqm13_5⟩, ⟨hm14, hFqm14_5⟩, ⟨hm15, hFqm15_5⟩, hne⟩)⟩), (by show va_P _ _ _ t.heap; rw [ht]; exact hP)⟩, hS.F ht⟩) hS.2.2 dX9_copy_34
  · subst ei_dd
    rcases ixc 8 ff with hi_ff | ⟨j_ff, hj_ff, hi_ff, ei_ff⟩
    · by_cases hd4 : 4 ≤ j_dd
      · refine lv_aload_n hx hb dX9_copy_0 rfl (lv_at hl 0 rfl) ?_
        refine lv_iconst (v := 0) hx hb dX9_copy_1 (by decide) ?_
        refine pg_put (ci := 8) (v := .int 0) (ty := .int) (C := RX9) (T := TX9) (N := 20) hx hb hts hinX9 tyX9 tyX9_ok nmX9 hown hK hP hD hS hmo hFo rfl 0 (by decide) (hts (.fieldLink RX9 61 "RopeDrumsModel" "thrown" "I") (by decide +kernel)) (fun _ h9 => h9) rfl (by decide +kernel) (rfl) (rfl) (Nat.le_of_ble_eq_true rfl) dX9_copy_2 (fun H locs F9 eF9 hP hS => ?_)
        have eF9 : F9 = va_up F o (.inr (8, [.int 0, .ref (qm 0), .ref (qm 1), .ref (qm 2), .ref (qm 3), .ref (qm 4), .ref (qm 5), .ref (qm 6), .ref (qm 7), .int Pp.1, .ref (qm 8), .ref (qm 9), .ref (qm 10), .ref (qm 11), .ref (qm 12), .ref (qm 13), .ref (qm 14), .int Xx.1, .ref (qm 15), .long oc])) := eF9
        have hFo_9 : F9 o = .inr (8, [.int 0, .ref (qm 0), .ref (qm 1), .ref (qm 2), .ref (qm 3), .ref (qm 4), .ref (qm 5), .ref (qm 6), .ref (qm 7), .int Pp.1, .ref (qm 8), .ref (qm 9), .ref (qm 10), .ref (qm 11), .ref (qm 12), .ref (qm 13), .ref (qm 14), .int Xx.1, .ref (qm 15), .long oc]) := by rw [eF9]; exact va_up_self _ _ _
        have hFqm0_9 : F9 (qm 0) = cI (cy 1) 10 Mm.1 := by rw [eF9, va_up_ne _ _ (pl_ne hF0 hFo rfl)]; exact hF0
        have hFqm1_9 : F9 (qm 1) = cJ (cy 2) 10 Mm.2 := by rw [eF9, va_up_ne _ _ (pl_ne hF1 hFo rfl)]; exact hF1
        have hFqm2_9 : F9 (qm 2) = cD (cy 0) 6 Dd.1 := by rw [eF9, va_up_ne _ _ (pl_ne hF2 hFo rfl)]; exact hF2
        have hFqm3_9 : F9 (qm 3) = cD (cy 0) 6 Dd.2.1 := by rw [eF9, va_up_ne _ _ (pl_ne hF3 hFo rfl)]; exact hF3
        have hFqm4_9 : F9 (qm 4) = cD (cy 0) 6 Dd.2.2.1 := by rw [eF9, va_up_ne _ _ (pl_ne hF4 hFo rfl)]; exact hF4
        have hFqm5_9 : F9 (qm 5) = cJ (cy 2) 6 Dd.2.2.2 := by rw [eF9, va_up_ne _ _ (pl_ne hF5 hFo rfl)]; exact hF5
        have hFqm6_9 : F9 (qm 6) = cI (cy 1) 8 Sl.1 := by rw [eF9, va_up_ne _ _ (pl_ne hF6 hFo rfl)]; exact hF6
        have hFqm7_9 : F9 (qm 7) = cJ (cy 2) 128 Sl.2 := by rw [eF9, va_up_ne _ _ (pl_ne hF7 hFo rfl)]; exact hF7
        have hFqm8_9 : F9 (qm 8) = cI (cy 1) 30 Pp.2.1 := by rw [eF9, va_up_ne _ _ (pl_ne hF8 hFo rfl)]; exact hF8
        have hFqm9_9 : F9 (qm 9) = cI (cy 3) 30 Pp.2.2 := by rw [eF9, va_up_ne _ _ (pl_ne hF9 hFo rfl)]; exact hF9
        have hFqm10_9 : F9 (qm 10) = cI (cy 1) 5 Kr.1 := by rw [eF9, va_up_ne _ _ (pl_ne hF10 hFo rfl)]; exact hF10
        have hFqm11_9 : F9 (qm 11) = cI (cy 3) 5 Kr.2.1 := by rw [eF9, va_up_ne _ _ (pl_ne hF11 hFo rfl)]; exact hF11
        have hFqm12_9 : F9 (qm 12) = cI (cy 1) 60 Kr.2.2 := by rw [eF9, va_up_ne _ _ (pl_ne hF12 hFo rfl)]; exact hF12
        have hFqm13_9 : F9 (qm 13) = cI (cy 1) 4 Bk.1 := by rw [eF9, va_up_ne _ _ (pl_ne hF13 hFo rfl)]; exact hF13
        have hFqm14_9 : F9 (qm 14) = cD (cy 0) 4 Bk.2 := by rw [eF9, va_up_ne _ _ (pl_ne hF14 hFo rfl)]; exact hF14
        have hFqm15_9 : F9 (qm 15) = cI (cy 1) 6 Xx.2 := by rw [eF9, va_up_ne _ _ (pl_ne hF15 hFo rfl)]; exact hF15
        refine lv_iload_n hx hb dX9_copy_5 rfl (lv_at hl 1 rfl) ?_
        refine lv_i2l hx hb dX9_copy_6 rfl ?_
        refine lv_topl (fun v10 ev10 => ?_)
        refine lv_ldc2 hx hb hown (hts (.constantLong RX9 143 (4)) (by decide +kernel)) dX9_copy_7 ?_
        refine lv_ldc2 hx hb hown (hts (.constantLong RX9 176 (7)) (by decide +kernel)) dX9_copy_10 ?_
        refine vp_callSi (W.runS (As := [.long v10, .long 4, .long 7]) (rest := []) ⟨hx, hb, hml, hown, hts⟩ (c9_in l v10 4 7) (va_cwS 3 hts gX9_copy_X9_in rfl rfl rfl (by decide +kernel) ⟨Nat.le_of_ble_eq_true rfl, Nat.le_of_ble_eq_true rfl⟩) (preS_of okT (trivial)) rfl rfl hl.1 rfl (lv_room (Nat.le_of_ble_eq_true rfl)) dX9_copy_13 ⟨Nat.le_of_ble_eq_true rfl, Nat.le_of_ble_eq_true rfl⟩) (fun r11 hr11 => ?_)
        have hzr11 : r11 = 1 := by rw [hr11, ev10, inq_i (y := 4) (z := 7) (by decide) (by decide)]; exact if_pos (by rw [nI_toInt (by omega)]; omega)
        subst hzr11
        refine lv_if_eq (tgt := 31) hx hb dX9_copy_16 (by decide) (fun c12 => absurd c12 (by decide)) (fun c12 => ?_)
        refine lv_iload_n hx hb dX9_copy_19 rfl (lv_at hl 2 rfl) ?_
        refine lv_i2l hx hb dX9_copy_20 rfl ?_
        refine lv_topl (fun v13 ev13 => ?_)
        refine lv_lconst (v := 0) hx hb dX9_copy_21 (by decide) ?_
        refine lv_ldc2 hx hb hown (hts (.constantLong RX9 123 (3)) (by decide +kernel)) dX9_copy_22 ?_
        refine vp_callSi (W.runS (As := [.long v13, .long 0, .long 3]) (rest := []) ⟨hx, hb, hml, hown, hts⟩ (c9_in l v13 0 3) (va_cwS 3 hts gX9_copy_X9_in rfl rfl rfl (by decide +kernel) ⟨Nat.le_of_ble_eq_true rfl, Nat.le_of_ble_eq_true rfl⟩) (preS_of okT (trivial)) rfl rfl hl.1 rfl (lv_room (Nat.le_of_ble_eq_true rfl)) dX9_copy_25 ⟨Nat.le_of_ble_eq_true rfl, Nat.le_of_ble_eq_true rfl⟩) (fun r14 hr14 => ?_)
        have hzr14 : r14 = 0 := by rw [hr14, ev13, inq_i (y := 0) (z := 3) (by decide) (by decide)]; exact if_neg ((by have hq := ixn hi_ff; omega))
        subst hzr14
        refine lv_if_ne (tgt := 35) hx hb dX9_copy_28 (by decide) (fun c15 => absurd (by decide) c15) (fun c15 => ?_)
        refine lv_sipush (v := -1001) hx hb dX9_copy_31 (by decide) ?_
        exact W.iret (v := -1001) hx hb hr (fun t ht hW => ⟨⟨-1001, F9, rfl, (by subst ev13 ev10; have hsp : sp_copy Sl Xx (nI j_dd) ff bk = (-1001, Sl, Xx) := (by unfold sp_copy; rw [hi_dd, hi_ff]); rw [hsp]; exact ⟨rfl, (by exact ⟨⟨_, _, hmo, hFo_9⟩, ⟨hm0, hFqm0_9⟩, ⟨hm1, hFqm1_9⟩, ⟨hm2, hFqm2_9⟩, ⟨hm3, hFqm3_9⟩, ⟨hm4, hFqm4_9⟩, ⟨hm5, hFqm5_9⟩, ⟨hm6, hFqm6_9⟩, ⟨hm7, hFqm7_9⟩, ⟨hm8, hFqm8_9⟩, ⟨hm9, hFqm9_9⟩, ⟨hm10, hFqm10_9⟩, ⟨hm11, hFqm11_9⟩, ⟨hm12, hFqm12_9⟩, ⟨hm13, hFqm13_9⟩, ⟨hm14, hFqm14_9⟩, ⟨hm15, hFqm15_9⟩, hne⟩)⟩), (by show va_P _ _ _ t.heap; rw [ht]; exact hP)⟩, hS.F ht⟩) hS.2.2 dX9_copy_34
      · refine lv_aload_n hx hb dX9_copy_0 rfl (lv_at hl 0 rfl) ?_
        refine lv_iconst (v := 0) hx hb dX9_copy_1 (by decide) ?_
        refine pg_put (ci := 8) (v := .int 0) (ty := .int) (C := RX9) (T := TX9) (N := 20) hx hb hts hinX9 tyX9 tyX9_ok nmX9 hown hK hP hD hS hmo hFo rfl 0 (by decide) (hts (.fieldLink RX9 61 "RopeDrumsModel" "thrown" "I") (by decide +kernel)) (fun _ h9 => h9) rfl (by decide +kernel) (rfl) (rfl) (Nat.le_of_ble_eq_true rfl) dX9_copy_2 (fun H locs F16 eF16 hP hS => ?_)
        have eF16 : F16 = va_up F o (.inr (8, [.int 0, .ref (qm 0), .ref (qm 1), .ref (qm 2), .ref (qm 3), .ref (qm 4), .ref (qm 5), .ref (qm 6), .ref (qm 7), .int Pp.1, .ref (qm 8), .ref (qm 9), .ref (qm 10), .ref (qm 11), .ref (qm 12), .ref (qm 13), .ref (qm 14), .int Xx.1, .ref (qm 15), .long oc])) := eF16
        have hFo_16 : F16 o = .inr (8, [.int 0, .ref (qm 0), .ref (qm 1), .ref (qm 2), .ref (qm 3), .ref (qm 4), .ref (qm 5), .ref (qm 6), .ref (qm 7), .int Pp.1, .ref (qm 8), .ref (qm 9), .ref (qm 10), .ref (qm 11), .ref (qm 12), .ref (qm 13), .ref (qm 14), .int Xx.1, .ref (qm 15), .long oc]) := by rw [eF16]; exact va_up_self _ _ _
        have hFqm0_16 : F16 (qm 0) = cI (cy 1) 10 Mm.1 := by rw [eF16, va_up_ne _ _ (pl_ne hF0 hFo rfl)]; exact hF0
        have hFqm1_16 : F16 (qm 1) = cJ (cy 2) 10 Mm.2 := by rw [eF16, va_up_ne _ _ (pl_ne hF1 hFo rfl)]; exact hF1
        have hFqm2_16 : F16 (qm 2) = cD (cy 0) 6 Dd.1 := by rw [eF16, va_up_ne _ _ (pl_ne hF2 hFo rfl)]; exact hF2
        have hFqm3_16 : F16 (qm 3) = cD (cy 0) 6 Dd.2.1 := by rw [eF16, va_up_ne _ _ (pl_ne hF3 hFo rfl)]; exact hF3
        have hFqm4_16 : F16 (qm 4) = cD (cy 0) 6 Dd.2.2.1 := by rw [eF16, va_up_ne _ _ (pl_ne hF4 hFo rfl)]; exact hF4
        have hFqm5_16 : F16 (qm 5) = cJ (cy 2) 6 Dd.2.2.2 := by rw [eF16, va_up_ne _ _ (pl_ne hF5 hFo rfl)]; exact hF5
        have hFqm6_16 : F16 (qm 6) = cI (cy 1) 8 Sl.1 := by rw [eF16, va_up_ne _ _ (pl_ne hF6 hFo rfl)]; exact hF6
        have hFqm7_16 : F16 (qm 7) = cJ (cy 2) 128 Sl.2 := by rw [eF16, va_up_ne _ _ (pl_ne hF7 hFo rfl)]; exact hF7
        have hFqm8_16 : F16 (qm 8) = cI (cy 1) 30 Pp.2.1 := by rw [eF16, va_up_ne _ _ (pl_ne hF8 hFo rfl)]; exact hF8
        have hFqm9_16 : F16 (qm 9) = cI (cy 3) 30 Pp.2.2 := by rw [eF16, va_up_ne _ _ (pl_ne hF9 hFo rfl)]; exact hF9
        have hFqm10_16 : F16 (qm 10) = cI (cy 1) 5 Kr.1 := by rw [eF16, va_up_ne _ _ (pl_ne hF10 hFo rfl)]; exact hF10
        have hFqm11_16 : F16 (qm 11) = cI (cy 3) 5 Kr.2.1 := by rw [eF16, va_up_ne _ _ (pl_ne hF11 hFo rfl)]; exact hF11
        have hFqm12_16 : F16 (qm 12) = cI (cy 1) 60 Kr.2.2 := by rw [eF16, va_up_ne _ _ (pl_ne hF12 hFo rfl)]; exact hF12
        have hFqm13_16 : F16 (qm 13) = cI (cy 1) 4 Bk.1 := by rw [eF16, va_up_ne _ _ (pl_ne hF13 hFo rfl)]; exact hF13
        have hFqm14_16 : F16 (qm 14) = cD (cy 0) 4 Bk.2 := by rw [eF16, va_up_ne _ _ (pl_ne hF14 hFo rfl)]; exact hF14
        have hFqm15_16 : F16 (qm 15) = cI (cy 1) 6 Xx.2 := by rw [eF16, va_up_ne _ _ (pl_ne hF15 hFo rfl)]; exact hF15
        refine lv_iload_n hx hb dX9_copy_5 rfl (lv_at hl 1 rfl) ?_
        refine lv_i2l hx hb dX9_copy_6 rfl ?_
        refine lv_topl (fun v17 ev17 => ?_)
        refine lv_ldc2 hx hb hown (hts (.constantLong RX9 143 (4)) (by decide +kernel)) dX9_copy_7 ?_
        refine lv_ldc2 hx hb hown (hts (.constantLong RX9 176 (7)) (by decide +kernel)) dX9_copy_10 ?_
        refine vp_callSi (W.runS (As := [.long v17, .long 4, .long 7]) (rest := []) ⟨hx, hb, hml, hown, hts⟩ (c9_in l v17 4 7) (va_cwS 3 hts gX9_copy_X9_in rfl rfl rfl (by decide +kernel) ⟨Nat.le_of_ble_eq_true rfl, Nat.le_of_ble_eq_true rfl⟩) (preS_of okT (trivial)) rfl rfl hl.1 rfl (lv_room (Nat.le_of_ble_eq_true rfl)) dX9_copy_13 ⟨Nat.le_of_ble_eq_true rfl, Nat.le_of_ble_eq_true rfl⟩) (fun r18 hr18 => ?_)
        have hzr18 : r18 = 0 := by rw [hr18, ev17, inq_i (y := 4) (z := 7) (by decide) (by decide)]; exact if_neg (by rw [nI_toInt (by omega)]; omega)
        subst hzr18
        refine lv_if_eq (tgt := 31) hx hb dX9_copy_16 (by decide) (fun c19 => ?_) (fun c19 => absurd (by decide) c19)
        refine lv_sipush (v := -1001) hx hb dX9_copy_31 (by decide) ?_
        exact W.iret (v := -1001) hx hb hr (fun t ht hW => ⟨⟨-1001, F16, rfl, (by subst ev17; have hsp : sp_copy Sl Xx (nI j_dd) ff bk = (-1001, Sl, Xx) := (by unfold sp_copy; rw [hi_dd, hi_ff]); rw [hsp]; exact ⟨rfl, (by exact ⟨⟨_, _, hmo, hFo_16⟩, ⟨hm0, hFqm0_16⟩, ⟨hm1, hFqm1_16⟩, ⟨hm2, hFqm2_16⟩, ⟨hm3, hFqm3_16⟩, ⟨hm4, hFqm4_16⟩, ⟨hm5, hFqm5_16⟩, ⟨hm6, hFqm6_16⟩, ⟨hm7, hFqm7_16⟩, ⟨hm8, hFqm8_16⟩, ⟨hm9, hFqm9_16⟩, ⟨hm10, hFqm10_16⟩, ⟨hm11, hFqm11_16⟩, ⟨hm12, hFqm12_16⟩, ⟨hm13, hFqm13_16⟩, ⟨hm14, hFqm14_16⟩, ⟨hm15, hFqm15_16⟩, hne⟩)⟩), (by show va_P _ _ _ t.heap; rw [ht]; exact hP)⟩, hS.F ht⟩) hS.2.2 dX9_copy_34
    · subst ei_ff
      by_cases hd4 : 4 ≤ j_dd
      · by_cases hf4 : j_ff < 4
        · by_cases hbk : bk = 0
          · refine lv_aload_n hx hb dX9_copy_0 rfl (lv_at hl 0 rfl) ?_
            refine lv_iconst (v := 0) hx hb dX9_copy_1 (by decide) ?_
            refine pg_put (ci := 8) (v := .int 0) (ty := .int) (C := RX9) (T := TX9) (N := 20) hx hb hts hinX9 tyX9 tyX9_ok nmX9 hown hK hP hD hS hmo hFo rfl 0 (by decide) (hts (.fieldLink RX9 61 "RopeDrumsModel" "thrown" "I") (by decide +kernel)) (fun _ h9 => h9) rfl (by decide +kernel) (rfl) (rfl) (Nat.le_of_ble_eq_true rfl) dX9_copy_2 (fun H locs F20 eF20 hP hS => ?_)
            have eF20 : F20 = va_up F o (.inr (8, [.int 0, .ref (qm 0), .ref (qm 1), .ref (qm 2), .ref (qm 3), .ref (qm 4), .ref (qm 5), .ref (qm 6), .ref (qm 7), .int Pp.1, .ref (qm 8), .ref (qm 9), .ref (qm 10), .ref (qm 11), .ref (qm 12), .ref (qm 13), .ref (qm 14), .int Xx.1, .ref (qm 15), .long oc])) := eF20
            have hFo_20 : F20 o = .inr (8, [.int 0, .ref (qm 0), .ref (qm 1), .ref (qm 2), .ref (qm 3), .ref (qm 4), .ref (qm 5), .ref (qm 6), .ref (qm 7), .int Pp.1, .ref (qm 8), .ref (qm 9), .ref (qm 10), .ref (qm 11), .ref (qm 12), .ref (qm 13), .ref (qm 14), .int Xx.1, .ref (qm 15), .long oc]) := by rw [eF20]; exact va_up_self _ _ _
            have hFqm0_20 : F20 (qm 0) = cI (cy 1) 10 Mm.1 := by rw [eF20, va_up_ne _ _ (pl_ne hF0 hFo rfl)]; exact hF0
            have hFqm1_20 : F20 (qm 1) = cJ (cy 2) 10 Mm.2 := by rw [eF20, va_up_ne _ _ (pl_ne hF1 hFo rfl)]; exact hF1
            have hFqm2_20 : F20 (qm 2) = cD (cy 0) 6 Dd.1 := by rw [eF20, va_up_ne _ _ (pl_ne hF2 hFo rfl)]; exact hF2
            have hFqm3_20 : F20 (qm 3) = cD (cy 0) 6 Dd.2.1 := by rw [eF20, va_up_ne _ _ (pl_ne hF3 hFo rfl)]; exact hF3
            have hFqm4_20 : F20 (qm 4) = cD (cy 0) 6 Dd.2.2.1 := by rw [eF20, va_up_ne _ _ (pl_ne hF4 hFo rfl)]; exact hF4
            have hFqm5_20 : F20 (qm 5) = cJ (cy 2) 6 Dd.2.2.2 := by rw [eF20, va_up_ne _ _ (pl_ne hF5 hFo rfl)]; exact hF5
            have hFqm6_20 : F20 (qm 6) = cI (cy 1) 8 Sl.1 := by rw [eF20, va_up_ne _ _ (pl_ne hF6 hFo rfl)]; exact hF6
            have hFqm7_20 : F20 (qm 7) = cJ (cy 2) 128 Sl.2 := by rw [eF20, va_up_ne _ _ (pl_ne hF7 hFo rfl)]; exact hF7
            have hFqm8_20 : F20 (qm 8) = cI (cy 1) 30 Pp.2.1 := by rw [eF20, va_up_ne _ _ (pl_ne hF8 hFo rfl)]; exact hF8
            have hFqm9_20 : F20 (qm 9) = cI (cy 3) 30 Pp.2.2 := by rw [eF20, va_up_ne _ _ (pl_ne hF9 hFo rfl)]; exact hF9
            have hFqm10_20 : F20 (qm 10) = cI (cy 1) 5 Kr.1 := by rw [eF20, va_up_ne _ _ (pl_ne hF10 hFo rfl)]; exact hF10
            have hFqm11_20 : F20 (qm 11) = cI (cy 3) 5 Kr.2.1 := by rw [eF20, va_up_ne _ _ (pl_ne hF11 hFo rfl)]; exact hF11
            have hFqm12_20 : F20 (qm 12) = cI (cy 1) 60 Kr.2.2 := by rw [eF20, va_up_ne _ _ (pl_ne hF12 hFo rfl)]; exact hF12
            have hFqm13_20 : F20 (qm 13) = cI (cy 1) 4 Bk.1 := by rw [eF20, va_up_ne _ _ (pl_ne hF13 hFo rfl)]; exact hF13
            have hFqm14_20 : F20 (qm 14) = cD (cy 0) 4 Bk.2 := by rw [eF20, va_up_ne _ _ (pl_ne hF14 hFo rfl)]; exact hF14
            have hFqm15_20 : F20 (qm 15) = cI (cy 1) 6 Xx.2 := by rw [eF20, va_up_ne _ _ (pl_ne hF15 hFo rfl)]; exact hF15
            refine lv_iload_n hx hb dX9_copy_5 rfl (lv_at hl 1 rfl) ?_
            refine lv_i2l hx hb dX9_copy_6 rfl ?_
            refine lv_topl (fun v21 ev21 => ?_)
            refine lv_ldc2 hx hb hown (hts (.constantLong RX9 143 (4)) (by decide +kernel)) dX9_copy_7 ?_
            refine lv_ldc2 hx hb hown (hts (.constantLong RX9 176 (7)) (by decide +kernel)) dX9_copy_10 ?_
            refine vp_callSi (W.runS (As := [.long v21, .long 4, .long 7]) (rest := []) ⟨hx, hb, hml, hown, hts⟩ (c9_in l v21 4 7) (va_cwS 3 hts gX9_copy_X9_in rfl rfl rfl (by decide +kernel) ⟨Nat.le_of_ble_eq_true rfl, Nat.le_of_ble_eq_true rfl⟩) (preS_of okT (trivial)) rfl rfl hl.1 rfl (lv_room (Nat.le_of_ble_eq_true rfl)) dX9_copy_13 ⟨Nat.le_of_ble_eq_true rfl, Nat.le_of_ble_eq_true rfl⟩) (fun r22 hr22 => ?_)
            have hzr22 : r22 = 1 := by rw [hr22, ev21, inq_i (y := 4) (z := 7) (by decide) (by decide)]; exact if_pos (by rw [nI_toInt (by omega)]; omega)
            subst hzr22
            refine lv_if_eq (tgt := 31) hx hb dX9_copy_16 (by decide) (fun c23 => absurd c23 (by decide)) (fun c23 => ?_)
            refine lv_iload_n hx hb dX9_copy_19 rfl (lv_at hl 2 rfl) ?_
            refine lv_i2l hx hb dX9_copy_20 rfl ?_
            refine lv_topl (fun v24 ev24 => ?_)
            refine lv_lconst (v := 0) hx hb dX9_copy_21 (by decide) ?_
            refine lv_ldc2 hx hb hown (hts (.constantLong RX9 123 (3)) (by decide +kernel)) dX9_copy_22 ?_
            refine vp_callSi (W.runS (As := [.long v24, .long 0, .long 3]) (rest := []) ⟨hx, hb, hml, hown, hts⟩ (c9_in l v24 0 3) (va_cwS 3 hts gX9_copy_X9_in rfl rfl rfl (by decide +kernel) ⟨Nat.le_of_ble_eq_true rfl, Nat.le_of_ble_eq_true rfl⟩) (preS_of okT (trivial)) rfl rfl hl.1 rfl (lv_room (Nat.le_of_ble_eq_true rfl)) dX9_copy_25 ⟨Nat.le_of_ble_eq_true rfl, Nat.le_of_ble_eq_true rfl⟩) (fun r25 hr25 => ?_)
            have hzr25 : r25 = 1 := by rw [hr25, ev24, inq_i (y := 0) (z := 3) (by decide) (by decide)]; exact if_pos (by rw [nI_toInt (by omega)]; omega)
            subst hzr25
            refine lv_if_ne (tgt := 35) hx hb dX9_copy_28 (by decide) (fun c26 => ?_) (fun c26 => absurd c26 (by decide))
            refine lv_iload_n hx hb dX9_copy_35 rfl (lv_at hl 3 rfl) ?_
            refine lv_if_eq (tgt := 43) hx hb dX9_copy_36 (by decide) (fun c27 => ?_) (fun c27 => absurd (hbk) c27)
            refine lv_iload_n hx hb dX9_copy_43 rfl (lv_at hl 1 rfl) ?_
            refine lv_istore (lv' := [(4, .int (nI j_dd)), (0, .ref o), (1, .int (nI j_dd)), (2, .int (nI j_ff)), (3, .int bk)]) hx hb dX9_copy_44 hl (by decide) rfl (fun ls hl => ?_)
            refine lv_iload_n hx hb dX9_copy_46 rfl (lv_at hl 4 rfl) ?_
            refine lv_if_eq (tgt := 54) hx hb dX9_copy_47 (by decide) (fun c28 => ?_) (fun c28 => absurd (hbk) c28)
            refine lv_iload_n hx hb dX9_copy_54 rfl (lv_at hl 3 rfl) ?_
            refine lv_istore (lv' := [(5, .int (nI j_ff)), (4, .int (nI j_dd)), (0, .ref o), (1, .int (nI j_dd)), (2, .int (nI j_ff)), (3, .int bk)]) hx hb dX9_copy_55 hl (by decide) rfl (fun ls hl => ?_)
            have hzi := (hVS j_dd hj_dd).1
            have hzj := (hVS j_ff hj_ff).1
            unfold szOK at hzi hzj
            have hij : ¬ j_dd = j_ff := by omega
            have hmm1 : (-1 : Int32).toInt = -1 := by decide
            have hmm0 : (0 : Int32).toInt = 0 := by decide
            refine lv_aload_n hx hb dX9_copy_57 rfl (lv_at hl 2 rfl) ?_
            refine lv_aload_n hx hb dX9_copy_58 rfl (lv_at hl 2 rfl) ?_
            refine pg_get (ci := 8) (C := RX9) (T := TX9) (N := 20) hx hb hts hinX9 hown hK hP hmo hFo_20 rfl 7 (by decide) (hts (.fieldLink RX9 30 "RopeDrumsModel" "logSize" "[I") (by decide +kernel)) (fun _ h9 => h9) rfl dX9_copy_59 ?_
            refine lv_iload hx hb dX9_copy_62 (lv_at hl 1 rfl) ?_
            refine pg_iald hx hb hK hP 1 hm6 hFqm6_20 rfl (vp_in_nI (by omega) (by decide)) dX9_copy_64 ?_
            refine lv_topi (fun v29 ev29 => ?_)
            rw [nI_clamp (by omega)] at ev29
            refine lv_iconst (v := -1) hx hb dX9_copy_65 (by decide) ?_
            refine lv_icmp_eq (tgt := 90) hx hb dX9_copy_66 (by decide) (fun c30 => ?_) (fun c30 => ?_)
            · refine lv_iconst (v := 1) hx hb dX9_copy_90 (by decide) ?_
              refine lv_goto (tgt := 95) hx hb dX9_copy_91 (by decide) ?_
              refine pg_put (ci := 8) (v := .int 1) (ty := .int) (C := RX9) (T := TX9) (N := 20) hx hb hts hinX9 tyX9 tyX9_ok nmX9 hown hK hP hD hS hmo hFo_20 rfl 17 (by decide) (hts (.fieldLink RX9 65 "RopeDrumsModel" "failed" "I") (by decide +kernel)) (fun _ h9 => h9) rfl (by decide +kernel) (rfl) (rfl) (Nat.le_of_ble_eq_true rfl) dX9_copy_95 (fun H locs F31 eF31 hP hS => ?_)
              have eF31 : F31 = va_up F20 o (.inr (8, [.int 0, .ref (qm 0), .ref (qm 1), .ref (qm 2), .ref (qm 3), .ref (qm 4), .ref (qm 5), .ref (qm 6), .ref (qm 7), .int Pp.1, .ref (qm 8), .ref (qm 9), .ref (qm 10), .ref (qm 11), .ref (qm 12), .ref (qm 13), .ref (qm 14), .int 1, .ref (qm 15), .long oc])) := eF31
              have hFo_31 : F31 o = .inr (8, [.int 0, .ref (qm 0), .ref (qm 1), .ref (qm 2), .ref (qm 3), .ref (qm 4), .ref (qm 5), .ref (qm 6), .ref (qm 7), .int Pp.1, .ref (qm 8), .ref (qm 9), .ref (qm 10), .ref (qm 11), .ref (qm 12), .ref (qm 13), .ref (qm 14), .int 1, .ref (qm 15), .long oc]) := by rw [eF31]; exact va_up_self _ _ _
              have hFqm0_31 : F31 (qm 0) = cI (cy 1) 10 Mm.1 := by rw [eF31, va_up_ne _ _ (pl_ne hFqm0_20 hFo_20 rfl)]; exact hFqm0_20
              have hFqm1_31 : F31 (qm 1) = cJ (cy 2) 10 Mm.2 := by rw [eF31, va_up_ne _ _ (pl_ne hFqm1_20 hFo_20 rfl)]; exact hFqm1_20
              have hFqm2_31 : F31 (qm 2) = cD (cy 0) 6 Dd.1 := by rw [eF31, va_up_ne _ _ (pl_ne hFqm2_20 hFo_20 rfl)]; exact hFqm2_20
              have hFqm3_31 : F31 (qm 3) = cD (cy 0) 6 Dd.2.1 := by rw [eF31, va_up_ne _ _ (pl_ne hFqm3_20 hFo_20 rfl)]; exact hFqm3_20
              have hFqm4_31 : F31 (qm 4) = cD (cy 0) 6 Dd.2.2.1 := by rw [eF31, va_up_ne _ _ (pl_ne hFqm4_20 hFo_20 rfl)]; exact hFqm4_20
              have hFqm5_31 : F31 (qm 5) = cJ (cy 2) 6 Dd.2.2.2 := by rw [eF31, va_up_ne _ _ (pl_ne hFqm5_20 hFo_20 rfl)]; exact hFqm5_20
              have hFqm6_31 : F31 (qm 6) = cI (cy 1) 8 Sl.1 := by rw [eF31, va_up_ne _ _ (pl_ne hFqm6_20 hFo_20 rfl)]; exact hFqm6_20
              have hFqm7_31 : F31 (qm 7) = cJ (cy 2) 128 Sl.2 := by rw [eF31, va_up_ne _ _ (pl_ne hFqm7_20 hFo_20 rfl)]; exact hFqm7_20
              have hFqm8_31 : F31 (qm 8) = cI (cy 1) 30 Pp.2.1 := by rw [eF31, va_up_ne _ _ (pl_ne hFqm8_20 hFo_20 rfl)]; exact hFqm8_20
              have hFqm9_31 : F31 (qm 9) = cI (cy 3) 30 Pp.2.2 := by rw [eF31, va_up_ne _ _ (pl_ne hFqm9_20 hFo_20 rfl)]; exact hFqm9_20
              have hFqm10_31 : F31 (qm 10) = cI (cy 1) 5 Kr.1 := by rw [eF31, va_up_ne _ _ (pl_ne hFqm10_20 hFo_20 rfl)]; exact hFqm10_20
              have hFqm11_31 : F31 (qm 11) = cI (cy 3) 5 Kr.2.1 := by rw [eF31, va_up_ne _ _ (pl_ne hFqm11_20 hFo_20 rfl)]; exact hFqm11_20
              have hFqm12_31 : F31 (qm 12) = cI (cy 1) 60 Kr.2.2 := by rw [eF31, va_up_ne _ _ (pl_ne hFqm12_20 hFo_20 rfl)]; exact hFqm12_20
              have hFqm13_31 : F31 (qm 13) = cI (cy 1) 4 Bk.1 := by rw [eF31, va_up_ne _ _ (pl_ne hFqm13_20 hFo_20 rfl)]; exact hFqm13_20
              have hFqm14_31 : F31 (qm 14) = cD (cy 0) 4 Bk.2 := by rw [eF31, va_up_ne _ _ (pl_ne hFqm14_20 hFo_20 rfl)]; exact hFqm14_20
              have hFqm15_31 : F31 (qm 15) = cI (cy 1) 6 Xx.2 := by rw [eF31, va_up_ne _ _ (pl_ne hFqm15_20 hFo_20 rfl)]; exact hFqm15_20
              rw [ev29] at c30
              refine lv_aload_n hx hb dX9_copy_98 rfl (lv_at hl 2 rfl) ?_
              refine pg_get (ci := 8) (C := RX9) (T := TX9) (N := 20) hx hb hts hinX9 hown hK hP hmo hFo_31 rfl 17 (by decide) (hts (.fieldLink RX9 65 "RopeDrumsModel" "failed" "I") (by decide +kernel)) (fun _ h9 => h9) rfl dX9_copy_99 ?_
              refine lv_if_le (tgt := 111) hx hb dX9_copy_102 (by decide) (fun c32 => absurd c32 (by decide)) (fun c32 => ?_)
              refine lv_aload_n hx hb dX9_copy_105 rfl (lv_at hl 2 rfl) ?_
              refine lv_iconst (v := 0) hx hb dX9_copy_106 (by decide) ?_
              refine va_calli (va_runV (As := [.int 0]) (rest := []) ⟨hx, hb, hml, hown, hts⟩ (c9_answers_1 l G cy L F31 H.size o qm 0 Pp.1 oc hmo hFo_31 Xx.2 hm15 hFqm15_31 0) (cwV 1 hts gX9_copy_X9_answers rfl rfl rfl (by decide +kernel) ⟨Nat.le_of_ble_eq_true rfl, Nat.le_of_ble_eq_true rfl⟩) (preV_of okQ (⟨rfl, hP, hK, hD.top⟩) (pl_recv hK hP (ci := 8) rfl hmo hFo_31)) rfl rfl hl.1 rfl (lv_room (Nat.le_of_ble_eq_true rfl)) dX9_copy_107 ⟨Nat.le_of_ble_eq_true rfl, Nat.le_of_ble_eq_true rfl⟩) hS (fun q _ h => pl_free hD hS hA q h) (pl_free hD hS hA) (fun r34 F33 t H1 locs ht hvm hw hP1 hz1 hk1 hS => ?_)
              have hP1 : va_P G vwCl (va_pl L F33) t.heap := hP1
              rw [ht] at hP1
              have hP := hP1
              generalize H1 = H at hP hS ⊢
              obtain ⟨hqr34, eF33⟩ := hw
              have eF33 : F33 = va_up F31 (qm 15) (cI (cy 1) 6 (upd Xx.2 1 (Xx.2 1 + 1))) := eF33
              have hFo_34 : F33 o = .inr (8, [.int 0, .ref (qm 0), .ref (qm 1), .ref (qm 2), .ref (qm 3), .ref (qm 4), .ref (qm 5), .ref (qm 6), .ref (qm 7), .int Pp.1, .ref (qm 8), .ref (qm 9), .ref (qm 10), .ref (qm 11), .ref (qm 12), .ref (qm 13), .ref (qm 14), .int 1, .ref (qm 15), .long oc]) := by rw [eF33, va_up_ne _ _ (pl_ne hFo_31 hFqm15_31 rfl)]; exact hFo_31
              have hFqm0_34 : F33 (qm 0) = cI (cy 1) 10 Mm.1 := by rw [eF33, va_up_ne _ _ (pl_ne hFqm0_31 hFqm15_31 rfl)]; exact hFqm0_31
              have hFqm1_34 : F33 (qm 1) = cJ (cy 2) 10 Mm.2 := by rw [eF33, va_up_ne _ _ (pl_ne hFqm1_31 hFqm15_31 rfl)]; exact hFqm1_31
              have hFqm2_34 : F33 (qm 2) = cD (cy 0) 6 Dd.1 := by rw [eF33, va_up_ne _ _ (pl_ne hFqm2_31 hFqm15_31 rfl)]; exact hFqm2_31
              have hFqm3_34 : F33 (qm 3) = cD (cy 0) 6 Dd.2.1 := by rw [eF33, va_up_ne _ _ (pl_ne hFqm3_31 hFqm15_31 rfl)]; exact hFqm3_31
              have hFqm4_34 : F33 (qm 4) = cD (cy 0) 6 Dd.2.2.1 := by rw [eF33, va_up_ne _ _ (pl_ne hFqm4_31 hFqm15_31 rfl)]; exact hFqm4_31
              have hFqm5_34 : F33 (qm 5) = cJ (cy 2) 6 Dd.2.2.2 := by rw [eF33, va_up_ne _ _ (pl_ne hFqm5_31 hFqm15_31 rfl)]; exact hFqm5_31
              have hFqm6_34 : F33 (qm 6) = cI (cy 1) 8 Sl.1 := by rw [eF33, va_up_ne _ _ (pl_ne hFqm6_31 hFqm15_31 rfl)]; exact hFqm6_31
              have hFqm7_34 : F33 (qm 7) = cJ (cy 2) 128 Sl.2 := by rw [eF33, va_up_ne _ _ (pl_ne hFqm7_31 hFqm15_31 rfl)]; exact hFqm7_31
              have hFqm8_34 : F33 (qm 8) = cI (cy 1) 30 Pp.2.1 := by rw [eF33, va_up_ne _ _ (pl_ne hFqm8_31 hFqm15_31 rfl)]; exact hFqm8_31
              have hFqm9_34 : F33 (qm 9) = cI (cy 3) 30 Pp.2.2 := by rw [eF33, va_up_ne _ _ (pl_ne hFqm9_31 hFqm15_31 rfl)]; exact hFqm9_31
              have hFqm10_34 : F33 (qm 10) = cI (cy 1) 5 Kr.1 := by rw [eF33, va_up_ne _ _ (pl_ne hFqm10_31 hFqm15_31 rfl)]; exact hFqm10_31
              have hFqm11_34 : F33 (qm 11) = cI (cy 3) 5 Kr.2.1 := by rw [eF33, va_up_ne _ _ (pl_ne hFqm11_31 hFqm15_31 rfl)]; exact hFqm11_31
              have hFqm12_34 : F33 (qm 12) = cI (cy 1) 60 Kr.2.2 := by rw [eF33, va_up_ne _ _ (pl_ne hFqm12_31 hFqm15_31 rfl)]; exact hFqm12_31
              have hFqm13_34 : F33 (qm 13) = cI (cy 1) 4 Bk.1 := by rw [eF33, va_up_ne _ _ (pl_ne hFqm13_31 hFqm15_31 rfl)]; exact hFqm13_31
              have hFqm14_34 : F33 (qm 14) = cD (cy 0) 4 Bk.2 := by rw [eF33, va_up_ne _ _ (pl_ne hFqm14_31 hFqm15_31 rfl)]; exact hFqm14_31
              have hFqm15_34 : F33 (qm 15) = cI (cy 1) 6 (upd Xx.2 1 (Xx.2 1 + 1)) := by rw [eF33]; exact va_up_self _ _ _
              have hr34 := hqr34
              exact W.iret (v := r34) hx hb hr (fun t ht hW => ⟨⟨r34, F33, rfl, (by subst hr34 ev29 ev24 ev21; have hc66 := c30; have hsp : sp_copy Sl Xx (nI j_dd) (nI j_ff) bk = (-11, Sl, failX Xx 1) := (by unfold sp_copy; rw [hi_dd, hi_ff]; refine (if_pos ⟨hd4, hf4⟩).trans ((if_pos hbk).trans ?_); unfold cp; exact if_pos hc66); rw [hsp]; exact ⟨(by show (-10 - 1 : Int32) = -11; decide), (by exact ⟨⟨_, _, hmo, hFo_34⟩, ⟨hm0, hFqm0_34⟩, ⟨hm1, hFqm1_34⟩, ⟨hm2, hFqm2_34⟩, ⟨hm3, hFqm3_34⟩, ⟨hm4, hFqm4_34⟩, ⟨hm5, hFqm5_34⟩, ⟨hm6, hFqm6_34⟩, ⟨hm7, hFqm7_34⟩, ⟨hm8, hFqm8_34⟩, ⟨hm9, hFqm9_34⟩, ⟨hm10, hFqm10_34⟩, ⟨hm11, hFqm11_34⟩, ⟨hm12, hFqm12_34⟩, ⟨hm13, hFqm13_34⟩, ⟨hm14, hFqm14_34⟩, ⟨hm15, hFqm15_34⟩, hne⟩)⟩), (by show va_P _ _ _ t.heap; rw [ht]; exact hP)⟩, hS.F ht⟩) hS.2.2 dX9_copy_110
            · refine lv_aload_n hx hb dX9_copy_69 rfl (lv_at hl 2 rfl) ?_
              refine pg_get (ci := 8) (C := RX9) (T := TX9) (N := 20) hx hb hts hinX9 hown hK hP hmo hFo_20 rfl 7 (by decide) (hts (.fieldLink RX9 30 "RopeDrumsModel" "logSize" "[I") (by decide +kernel)) (fun _ h9 => h9) rfl dX9_copy_70 ?_
              refine lv_iload hx hb dX9_copy_73 (lv_at hl 1 rfl) ?_
              refine pg_iald hx hb hK hP 1 hm6 hFqm6_20 rfl (vp_in_nI (by omega) (by decide)) dX9_copy_75 ?_
              refine lv_topi (fun v35 ev35 => ?_)
              rw [nI_clamp (by omega)] at ev35
              refine lv_if_le (tgt := 94) hx hb dX9_copy_76 (by decide) (fun c36 => ?_) (fun c36 => ?_)
              · refine lv_iconst (v := 0) hx hb dX9_copy_94 (by decide) ?_
                refine pg_put (ci := 8) (v := .int 0) (ty := .int) (C := RX9) (T := TX9) (N := 20) hx hb hts hinX9 tyX9 tyX9_ok nmX9 hown hK hP hD hS hmo hFo_20 rfl 17 (by decide) (hts (.fieldLink RX9 65 "RopeDrumsModel" "failed" "I") (by decide +kernel)) (fun _ h9 => h9) rfl (by decide +kernel) (rfl) (rfl) (Nat.le_of_ble_eq_true rfl) dX9_copy_95 (fun H locs F37 eF37 hP hS => ?_)
                have eF37 : F37 = va_up F20 o (.inr (8, [.int 0, .ref (qm 0), .ref (qm 1), .ref (qm 2), .ref (qm 3), .ref (qm 4), .ref (qm 5), .ref (qm 6), .ref (qm 7), .int Pp.1, .ref (qm 8), .ref (qm 9), .ref (qm 10), .ref (qm 11), .ref (qm 12), .ref (qm 13), .ref (qm 14), .int 0, .ref (qm 15), .long oc])) := eF37
                have hFo_37 : F37 o = .inr (8, [.int 0, .ref (qm 0), .ref (qm 1), .ref (qm 2), .ref (qm 3), .ref (qm 4), .ref (qm 5), .ref (qm 6), .ref (qm 7), .int Pp.1, .ref (qm 8), .ref (qm 9), .ref (qm 10), .ref (qm 11), .ref (qm 12), .ref (qm 13), .ref (qm 14), .int 0, .ref (qm 15), .long oc]) := by rw [eF37]; exact va_up_self _ _ _
                have hFqm0_37 : F37 (qm 0) = cI (cy 1) 10 Mm.1 := by rw [eF37, va_up_ne _ _ (pl_ne hFqm0_20 hFo_20 rfl)]; exact hFqm0_20
                have hFqm1_37 : F37 (qm 1) = cJ (cy 2) 10 Mm.2 := by rw [eF37, va_up_ne _ _ (pl_ne hFqm1_20 hFo_20 rfl)]; exact hFqm1_20
                have hFqm2_37 : F37 (qm 2) = cD (cy 0) 6 Dd.1 := by rw [eF37, va_up_ne _ _ (pl_ne hFqm2_20 hFo_20 rfl)]; exact hFqm2_20
                have hFqm3_37 : F37 (qm 3) = cD (cy 0) 6 Dd.2.1 := by rw [eF37, va_up_ne _ _ (pl_ne hFqm3_20 hFo_20 rfl)]; exact hFqm3_20
                have hFqm4_37 : F37 (qm 4) = cD (cy 0) 6 Dd.2.2.1 := by rw [eF37, va_up_ne _ _ (pl_ne hFqm4_20 hFo_20 rfl)]; exact hFqm4_20
                have hFqm5_37 : F37 (qm 5) = cJ (cy 2) 6 Dd.2.2.2 := by rw [eF37, va_up_ne _ _ (pl_ne hFqm5_20 hFo_20 rfl)]; exact hFqm5_20
                have hFqm6_37 : F37 (qm 6) = cI (cy 1) 8 Sl.1 := by rw [eF37, va_up_ne _ _ (pl_ne hFqm6_20 hFo_20 rfl)]; exact hFqm6_20
                have hFqm7_37 : F37 (qm 7) = cJ (cy 2) 128 Sl.2 := by rw [eF37, va_up_ne _ _ (pl_ne hFqm7_20 hFo_20 rfl)]; exact hFqm7_20
                have hFqm8_37 : F37 (qm 8) = cI (cy 1) 30 Pp.2.1 := by rw [eF37, va_up_ne _ _ (pl_ne hFqm8_20 hFo_20 rfl)]; exact hFqm8_20
                have hFqm9_37 : F37 (qm 9) = cI (cy 3) 30 Pp.2.2 := by rw [eF37, va_up_ne _ _ (pl_ne hFqm9_20 hFo_20 rfl)]; exact hFqm9_20
                have hFqm10_37 : F37 (qm 10) = cI (cy 1) 5 Kr.1 := by rw [eF37, va_up_ne _ _ (pl_ne hFqm10_20 hFo_20 rfl)]; exact hFqm10_20
                have hFqm11_37 : F37 (qm 11) = cI (cy 3) 5 Kr.2.1 := by rw [eF37, va_up_ne _ _ (pl_ne hFqm11_20 hFo_20 rfl)]; exact hFqm11_20
                have hFqm12_37 : F37 (qm 12) = cI (cy 1) 60 Kr.2.2 := by rw [eF37, va_up_ne _ _ (pl_ne hFqm12_20 hFo_20 rfl)]; exact hFqm12_20
                have hFqm13_37 : F37 (qm 13) = cI (cy 1) 4 Bk.1 := by rw [eF37, va_up_ne _ _ (pl_ne hFqm13_20 hFo_20 rfl)]; exact hFqm13_20
                have hFqm14_37 : F37 (qm 14) = cD (cy 0) 4 Bk.2 := by rw [eF37, va_up_ne _ _ (pl_ne hFqm14_20 hFo_20 rfl)]; exact hFqm14_20
                have hFqm15_37 : F37 (qm 15) = cI (cy 1) 6 Xx.2 := by rw [eF37, va_up_ne _ _ (pl_ne hFqm15_20 hFo_20 rfl)]; exact hFqm15_20
                rw [ev29] at c30
                rw [ev35] at c36
                refine lv_aload_n hx hb dX9_copy_98 rfl (lv_at hl 2 rfl) ?_
                refine pg_get (ci := 8) (C := RX9) (T := TX9) (N := 20) hx hb hts hinX9 hown hK hP hmo hFo_37 rfl 17 (by decide) (hts (.fieldLink RX9 65 "RopeDrumsModel" "failed" "I") (by decide +kernel)) (fun _ h9 => h9) rfl dX9_copy_99 ?_
                refine lv_if_le (tgt := 111) hx hb dX9_copy_102 (by decide) (fun c38 => ?_) (fun c38 => absurd (by decide) c38)
                refine lv_iconst (v := 0) hx hb dX9_copy_111 (by decide) ?_
                refine lv_istore (lv' := [(6, .int 0), (5, .int (nI j_ff)), (4, .int (nI j_dd)), (0, .ref o), (1, .int (nI j_dd)), (2, .int (nI j_ff)), (3, .int bk)]) hx hb dX9_copy_112 hl (by decide) rfl (fun ls hl => ?_)
                refine lp_w (pc := 114) (nL := 7) (α := Nat) (fun xx => (xx = 0 ∨ ((xx : Int) ≤ (Sl.1 j_dd).toInt ∧ (xx : Int) ≤ (Sl.1 j_ff).toInt))) (fun xx => [(6, .int (nI xx)), (0, .ref o), (4, .int (nI j_dd)), (5, .int (nI j_ff))]) (fun xx => va_pl L (va_up F37 (qm 7) (cJ (cy 2) 128 (cpy Sl j_dd j_ff xx)))) (fun xx => 16 - xx) (fun kk ls H locs hI hP hS hl K => ?_) 0 ls (Or.inl rfl) (by rw [show va_up F37 (qm 7) (cJ (cy 2) 128 (cpy Sl j_dd j_ff 0)) = F37 from (by rw [cpy0]; exact upid hFqm7_37)]; exact hP) hS (lv_sub hl [0, 3, 2, 1] rfl)
                obtain ⟨F39, eF39⟩ : ∃ y : Nat → va_E, y = va_up F37 (qm 7) (cJ (cy 2) 128 (cpy Sl j_dd j_ff kk)) := ⟨_, rfl⟩
                rw [← eF39] at hP
                have hFo_39 : F39 o = .inr (8, [.int 0, .ref (qm 0), .ref (qm 1), .ref (qm 2), .ref (qm 3), .ref (qm 4), .ref (qm 5), .ref (qm 6), .ref (qm 7), .int Pp.1, .ref (qm 8), .ref (qm 9), .ref (qm 10), .ref (qm 11), .ref (qm 12), .ref (qm 13), .ref (qm 14), .int 0, .ref (qm 15), .long oc]) := by rw [eF39, va_up_ne _ _ (pl_ne hFo_37 hFqm7_37 rfl)]; exact hFo_37
                have hFqm0_39 : F39 (qm 0) = cI (cy 1) 10 Mm.1 := by rw [eF39, va_up_ne _ _ (pl_ne hFqm0_37 hFqm7_37 rfl)]; exact hFqm0_37
                have hFqm1_39 : F39 (qm 1) = cJ (cy 2) 10 Mm.2 := by rw [eF39, va_up_ne _ _ (pl_ne hFqm1_37 hFqm7_37 rfl)]; exact hFqm1_37
                have hFqm2_39 : F39 (qm 2) = cD (cy 0) 6 Dd.1 := by rw [eF39, va_up_ne _ _ (pl_ne hFqm2_37 hFqm7_37 rfl)]; exact hFqm2_37
                have hFqm3_39 : F39 (qm 3) = cD (cy 0) 6 Dd.2.1 := by rw [eF39, va_up_ne _ _ (pl_ne hFqm3_37 hFqm7_37 rfl)]; exact hFqm3_37
                have hFqm4_39 : F39 (qm 4) = cD (cy 0) 6 Dd.2.2.1 := by rw [eF39, va_up_ne _ _ (pl_ne hFqm4_37 hFqm7_37 rfl)]; exact hFqm4_37
                have hFqm5_39 : F39 (qm 5) = cJ (cy 2) 6 Dd.2.2.2 := by rw [eF39, va_up_ne _ _ (pl_ne hFqm5_37 hFqm7_37 rfl)]; exact hFqm5_37
                have hFqm6_39 : F39 (qm 6) = cI (cy 1) 8 Sl.1 := by rw [eF39, va_up_ne _ _ (pl_ne hFqm6_37 hFqm7_37 rfl)]; exact hFqm6_37
                have hFqm7_39 : F39 (qm 7) = cJ (cy 2) 128 (cpy Sl j_dd j_ff kk) := by rw [eF39]; exact va_up_self _ _ _
                have hFqm8_39 : F39 (qm 8) = cI (cy 1) 30 Pp.2.1 := by rw [eF39, va_up_ne _ _ (pl_ne hFqm8_37 hFqm7_37 rfl)]; exact hFqm8_37
                have hFqm9_39 : F39 (qm 9) = cI (cy 3) 30 Pp.2.2 := by rw [eF39, va_up_ne _ _ (pl_ne hFqm9_37 hFqm7_37 rfl)]; exact hFqm9_37
                have hFqm10_39 : F39 (qm 10) = cI (cy 1) 5 Kr.1 := by rw [eF39, va_up_ne _ _ (pl_ne hFqm10_37 hFqm7_37 rfl)]; exact hFqm10_37
                have hFqm11_39 : F39 (qm 11) = cI (cy 3) 5 Kr.2.1 := by rw [eF39, va_up_ne _ _ (pl_ne hFqm11_37 hFqm7_37 rfl)]; exact hFqm11_37
                have hFqm12_39 : F39 (qm 12) = cI (cy 1) 60 Kr.2.2 := by rw [eF39, va_up_ne _ _ (pl_ne hFqm12_37 hFqm7_37 rfl)]; exact hFqm12_37
                have hFqm13_39 : F39 (qm 13) = cI (cy 1) 4 Bk.1 := by rw [eF39, va_up_ne _ _ (pl_ne hFqm13_37 hFqm7_37 rfl)]; exact hFqm13_37
                have hFqm14_39 : F39 (qm 14) = cD (cy 0) 4 Bk.2 := by rw [eF39, va_up_ne _ _ (pl_ne hFqm14_37 hFqm7_37 rfl)]; exact hFqm14_37
                have hFqm15_39 : F39 (qm 15) = cI (cy 1) 6 Xx.2 := by rw [eF39, va_up_ne _ _ (pl_ne hFqm15_37 hFqm7_37 rfl)]; exact hFqm15_37
                have hl : lv_has ls 7 [(6, .int (nI kk)), (0, .ref o), (4, .int (nI j_dd)), (5, .int (nI j_ff))] := hl
                refine lv_iload hx hb dX9_copy_114 (lv_at hl 0 rfl) ?_
                refine lv_aload_n hx hb dX9_copy_116 rfl (lv_at hl 1 rfl) ?_
                refine pg_get (ci := 8) (C := RX9) (T := TX9) (N := 20) hx hb hts hinX9 hown hK hP hmo hFo_39 rfl 7 (by decide) (hts (.fieldLink RX9 30 "RopeDrumsModel" "logSize" "[I") (by decide +kernel)) (fun _ h9 => h9) rfl dX9_copy_117 ?_
                refine lv_iload hx hb dX9_copy_120 (lv_at hl 2 rfl) ?_
                refine pg_iald hx hb hK hP 1 hm6 hFqm6_39 rfl (vp_in_nI (by omega) (by decide)) dX9_copy_122 ?_
                refine lv_topi (fun v40 ev40 => ?_)
                rw [nI_clamp (by omega)] at ev40
                refine lv_icmp_ge (tgt := 183) hx hb dX9_copy_123 (by decide) (fun c41 => ?_) (fun c41 => ?_)
                · have hex : (Sl.1 j_dd).toInt ≤ (kk : Int) := by have hc := c41; rw [ev40, fa_le, nI_toInt (by omega)] at hc; omega
                  refine lv_aload_n hx hb dX9_copy_183 rfl (lv_at hl 1 rfl) ?_
                  refine lv_iload hx hb dX9_copy_184 (lv_at hl 0 rfl) ?_
                  refine lv_aload_n hx hb dX9_copy_186 rfl (lv_at hl 1 rfl) ?_
                  refine pg_get (ci := 8) (C := RX9) (T := TX9) (N := 20) hx hb hts hinX9 hown hK hP hmo hFo_39 rfl 7 (by decide) (hts (.fieldLink RX9 30 "RopeDrumsModel" "logSize" "[I") (by decide +kernel)) (fun _ h9 => h9) rfl dX9_copy_187 ?_
                  refine lv_iload hx hb dX9_copy_190 (lv_at hl 2 rfl) ?_
                  refine pg_iald hx hb hK hP 1 hm6 hFqm6_39 rfl (vp_in_nI (by omega) (by decide)) dX9_copy_192 ?_
                  refine lv_topi (fun v42 ev42 => ?_)
                  rw [nI_clamp (by omega)] at ev42
                  refine lv_icmp_ge (tgt := 200) hx hb dX9_copy_193 (by decide) (fun c43 => ?_) (fun c43 => ?_)
                  · refine lv_iconst (v := 0) hx hb dX9_copy_200 (by decide) ?_
                    refine pg_put (ci := 8) (v := .int 0) (ty := .int) (C := RX9) (T := TX9) (N := 20) hx hb hts hinX9 tyX9 tyX9_ok nmX9 hown hK hP hD hS hmo hFo_39 rfl 17 (by decide) (hts (.fieldLink RX9 65 "RopeDrumsModel" "failed" "I") (by decide +kernel)) (fun _ h9 => h9) rfl (by decide +kernel) (rfl) (rfl) (Nat.le_of_ble_eq_true rfl) dX9_copy_201 (fun H locs F44 eF44 hP hS => ?_)
                    have eF44 : F44 = va_up F39 o (.inr (8, [.int 0, .ref (qm 0), .ref (qm 1), .ref (qm 2), .ref (qm 3), .ref (qm 4), .ref (qm 5), .ref (qm 6), .ref (qm 7), .int Pp.1, .ref (qm 8), .ref (qm 9), .ref (qm 10), .ref (qm 11), .ref (qm 12), .ref (qm 13), .ref (qm 14), .int 0, .ref (qm 15), .long oc])) := eF44
                    have hFo_44 : F44 o = .inr (8, [.int 0, .ref (qm 0), .ref (qm 1), .ref (qm 2), .ref (qm 3), .ref (qm 4), .ref (qm 5), .ref (qm 6), .ref (qm 7), .int Pp.1, .ref (qm 8), .ref (qm 9), .ref (qm 10), .ref (qm 11), .ref (qm 12), .ref (qm 13), .ref (qm 14), .int 0, .ref (qm 15), .long oc]) := by rw [eF44]; exact va_up_self _ _ _
                    have hFqm0_44 : F44 (qm 0) = cI (cy 1) 10 Mm.1 := by rw [eF44, va_up_ne _ _ (pl_ne hFqm0_39 hFo_39 rfl)]; exact hFqm0_39
                    have hFqm1_44 : F44 (qm 1) = cJ (cy 2) 10 Mm.2 := by rw [eF44, va_up_ne _ _ (pl_ne hFqm1_39 hFo_39 rfl)]; exact hFqm1_39
                    have hFqm2_44 : F44 (qm 2) = cD (cy 0) 6 Dd.1 := by rw [eF44, va_up_ne _ _ (pl_ne hFqm2_39 hFo_39 rfl)]; exact hFqm2_39
                    have hFqm3_44 : F44 (qm 3) = cD (cy 0) 6 Dd.2.1 := by rw [eF44, va_up_ne _ _ (pl_ne hFqm3_39 hFo_39 rfl)]; exact hFqm3_39
                    have hFqm4_44 : F44 (qm 4) = cD (cy 0) 6 Dd.2.2.1 := by rw [eF44, va_up_ne _ _ (pl_ne hFqm4_39 hFo_39 rfl)]; exact hFqm4_39
                    have hFqm5_44 : F44 (qm 5) = cJ (cy 2) 6 Dd.2.2.2 := by rw [eF44, va_up_ne _ _ (pl_ne hFqm5_39 hFo_39 rfl)]; exact hFqm5_39
                    have hFqm6_44 : F44 (qm 6) = cI (cy 1) 8 Sl.1 := by rw [eF44, va_up_ne _ _ (pl_ne hFqm6_39 hFo_39 rfl)]; exact hFqm6_39
                    have hFqm7_44 : F44 (qm 7) = cJ (cy 2) 128 (cpy Sl j_dd j_ff kk) := by rw [eF44, va_up_ne _ _ (pl_ne hFqm7_39 hFo_39 rfl)]; exact hFqm7_39
                    have hFqm8_44 : F44 (qm 8) = cI (cy 1) 30 Pp.2.1 := by rw [eF44, va_up_ne _ _ (pl_ne hFqm8_39 hFo_39 rfl)]; exact hFqm8_39
                    have hFqm9_44 : F44 (qm 9) = cI (cy 3) 30 Pp.2.2 := by rw [eF44, va_up_ne _ _ (pl_ne hFqm9_39 hFo_39 rfl)]; exact hFqm9_39
                    have hFqm10_44 : F44 (qm 10) = cI (cy 1) 5 Kr.1 := by rw [eF44, va_up_ne _ _ (pl_ne hFqm10_39 hFo_39 rfl)]; exact hFqm10_39
                    have hFqm11_44 : F44 (qm 11) = cI (cy 3) 5 Kr.2.1 := by rw [eF44, va_up_ne _ _ (pl_ne hFqm11_39 hFo_39 rfl)]; exact hFqm11_39
                    have hFqm12_44 : F44 (qm 12) = cI (cy 1) 60 Kr.2.2 := by rw [eF44, va_up_ne _ _ (pl_ne hFqm12_39 hFo_39 rfl)]; exact hFqm12_39
                    have hFqm13_44 : F44 (qm 13) = cI (cy 1) 4 Bk.1 := by rw [eF44, va_up_ne _ _ (pl_ne hFqm13_39 hFo_39 rfl)]; exact hFqm13_39
                    have hFqm14_44 : F44 (qm 14) = cD (cy 0) 4 Bk.2 := by rw [eF44, va_up_ne _ _ (pl_ne hFqm14_39 hFo_39 rfl)]; exact hFqm14_39
                    have hFqm15_44 : F44 (qm 15) = cI (cy 1) 6 Xx.2 := by rw [eF44, va_up_ne _ _ (pl_ne hFqm15_39 hFo_39 rfl)]; exact hFqm15_39
                    refine lv_aload_n hx hb dX9_copy_204 rfl (lv_at hl 1 rfl) ?_
                    refine pg_get (ci := 8) (C := RX9) (T := TX9) (N := 20) hx hb hts hinX9 hown hK hP hmo hFo_44 rfl 18 (by decide) (hts (.fieldLink RX9 58 "RopeDrumsModel" "counted" "[I") (by decide +kernel)) (fun _ h9 => h9) rfl dX9_copy_205 ?_
                    refine lv_iconst (v := 2) hx hb dX9_copy_208 (by decide) ?_
                    refine lv_dup2_11 hx hb dX9_copy_209 rfl rfl ?_
                    refine pg_iald hx hb hK hP 1 hm15 hFqm15_44 rfl (vp_in_nI (n := 2) (N := 6) (by decide) (by decide)) dX9_copy_210 ?_
                    refine lv_topi (fun v45 ev45 => ?_)
                    refine lv_aload_n hx hb dX9_copy_211 rfl (lv_at hl 1 rfl) ?_
                    refine pg_get (ci := 8) (C := RX9) (T := TX9) (N := 20) hx hb hts hinX9 hown hK hP hmo hFo_44 rfl 17 (by decide) (hts (.fieldLink RX9 65 "RopeDrumsModel" "failed" "I") (by decide +kernel)) (fun _ h9 => h9) rfl dX9_copy_212 ?_
                    refine lv_if_le (tgt := 222) hx hb dX9_copy_215 (by decide) (fun c46 => ?_) (fun c46 => absurd (by decide) c46)
                    refine lv_iconst (v := 0) hx hb dX9_copy_222 (by decide) ?_
                    refine lv_iadd hx hb dX9_copy_223 ?_
                    refine lv_topi (fun v47 ev47 => ?_)
                    refine pg_iast hx hb hK hP hD hS 1 hm15 hFqm15_44 rfl (vp_in_nI (n := 2) (N := 6) (by decide) (by decide)) dX9_copy_224 (fun H locs F48 eF48 hP hS => ?_)
                    have hFo_48 : F48 o = .inr (8, [.int 0, .ref (qm 0), .ref (qm 1), .ref (qm 2), .ref (qm 3), .ref (qm 4), .ref (qm 5), .ref (qm 6), .ref (qm 7), .int Pp.1, .ref (qm 8), .ref (qm 9), .ref (qm 10), .ref (qm 11), .ref (qm 12), .ref (qm 13), .ref (qm 14), .int 0, .ref (qm 15), .long oc]) := by rw [eF48, va_up_ne _ _ (pl_ne hFo_44 hFqm15_44 rfl)]; exact hFo_44
                    have hFqm0_48 : F48 (qm 0) = cI (cy 1) 10 Mm.1 := by rw [eF48, va_up_ne _ _ (pl_ne hFqm0_44 hFqm15_44 rfl)]; exact hFqm0_44
                    have hFqm1_48 : F48 (qm 1) = cJ (cy 2) 10 Mm.2 := by rw [eF48, va_up_ne _ _ (pl_ne hFqm1_44 hFqm15_44 rfl)]; exact hFqm1_44
                    have hFqm2_48 : F48 (qm 2) = cD (cy 0) 6 Dd.1 := by rw [eF48, va_up_ne _ _ (pl_ne hFqm2_44 hFqm15_44 rfl)]; exact hFqm2_44
                    have hFqm3_48 : F48 (qm 3) = cD (cy 0) 6 Dd.2.1 := by rw [eF48, va_up_ne _ _ (pl_ne hFqm3_44 hFqm15_44 rfl)]; exact hFqm3_44
                    have hFqm4_48 : F48 (qm 4) = cD (cy 0) 6 Dd.2.2.1 := by rw [eF48, va_up_ne _ _ (pl_ne hFqm4_44 hFqm15_44 rfl)]; exact hFqm4_44
                    have hFqm5_48 : F48 (qm 5) = cJ (cy 2) 6 Dd.2.2.2 := by rw [eF48, va_up_ne _ _ (pl_ne hFqm5_44 hFqm15_44 rfl)]; exact hFqm5_44
                    have hFqm6_48 : F48 (qm 6) = cI (cy 1) 8 Sl.1 := by rw [eF48, va_up_ne _ _ (pl_ne hFqm6_44 hFqm15_44 rfl)]; exact hFqm6_44
                    have hFqm7_48 : F48 (qm 7) = cJ (cy 2) 128 (cpy Sl j_dd j_ff kk) := by rw [eF48, va_up_ne _ _ (pl_ne hFqm7_44 hFqm15_44 rfl)]; exact hFqm7_44
                    have hFqm8_48 : F48 (qm 8) = cI (cy 1) 30 Pp.2.1 := by rw [eF48, va_up_ne _ _ (pl_ne hFqm8_44 hFqm15_44 rfl)]; exact hFqm8_44
                    have hFqm9_48 : F48 (qm 9) = cI (cy 3) 30 Pp.2.2 := by rw [eF48, va_up_ne _ _ (pl_ne hFqm9_44 hFqm15_44 rfl)]; exact hFqm9_44
                    have hFqm10_48 : F48 (qm 10) = cI (cy 1) 5 Kr.1 := by rw [eF48, va_up_ne _ _ (pl_ne hFqm10_44 hFqm15_44 rfl)]; exact hFqm10_44
                    have hFqm11_48 : F48 (qm 11) = cI (cy 3) 5 Kr.2.1 := by rw [eF48, va_up_ne _ _ (pl_ne hFqm11_44 hFqm15_44 rfl)]; exact hFqm11_44
                    have hFqm12_48 : F48 (qm 12) = cI (cy 1) 60 Kr.2.2 := by rw [eF48, va_up_ne _ _ (pl_ne hFqm12_44 hFqm15_44 rfl)]; exact hFqm12_44
                    have hFqm13_48 : F48 (qm 13) = cI (cy 1) 4 Bk.1 := by rw [eF48, va_up_ne _ _ (pl_ne hFqm13_44 hFqm15_44 rfl)]; exact hFqm13_44
                    have hFqm14_48 : F48 (qm 14) = cD (cy 0) 4 Bk.2 := by rw [eF48, va_up_ne _ _ (pl_ne hFqm14_44 hFqm15_44 rfl)]; exact hFqm14_44
                    have hFqm15_48 : F48 (qm 15) = cI (cy 1) 6 (upd Xx.2 (2 : Int32).toNatClampNeg v47) := by rw [eF48]; exact va_up_self _ _ _
                    refine lv_iload hx hb dX9_copy_225 (lv_at hl 0 rfl) ?_
                    exact W.iret (v := nI kk) hx hb hr (fun t ht hW => ⟨⟨nI kk, F48, rfl, (by subst ev47 ev45 ev42 ev40; have hc66 := c30; have hc76 := c36; have hc193 := c43; have hk0 : kk = 0 := (by rw [fa_eq] at hc66; rw [fa_le] at hc76; rw [fa_le, nI_toInt (by omega)] at hc193; omega); have hz0 : Sl.1 j_dd = 0 := (by rw [fa_eq] at hc66; rw [fa_le] at hc76; rw [fa_le, nI_toInt (by omega)] at hc193; rw [fa_eq]; omega); subst hk0; rw [cpy0] at hFqm7_48; rw [updid0] at hFqm15_48; have hsp : sp_copy Sl Xx (nI j_dd) (nI j_ff) bk = (0, Sl, goodX Xx) := (by unfold sp_copy; rw [hi_dd, hi_ff]; refine (if_pos ⟨hd4, hf4⟩).trans ((if_pos hbk).trans ?_); unfold cp; rw [if_neg hc66, if_pos hz0]); rw [hsp]; exact ⟨rfl, (by exact ⟨⟨_, _, hmo, hFo_48⟩, ⟨hm0, hFqm0_48⟩, ⟨hm1, hFqm1_48⟩, ⟨hm2, hFqm2_48⟩, ⟨hm3, hFqm3_48⟩, ⟨hm4, hFqm4_48⟩, ⟨hm5, hFqm5_48⟩, ⟨hm6, hFqm6_48⟩, ⟨hm7, hFqm7_48⟩, ⟨hm8, hFqm8_48⟩, ⟨hm9, hFqm9_48⟩, ⟨hm10, hFqm10_48⟩, ⟨hm11, hFqm11_48⟩, ⟨hm12, hFqm12_48⟩, ⟨hm13, hFqm13_48⟩, ⟨hm14, hFqm14_48⟩, ⟨hm15, hFqm15_48⟩, hne⟩)⟩), (by show va_P _ _ _ t.heap; rw [ht]; exact hP)⟩, hS.F ht⟩) hS.2.2 dX9_copy_227
                  · refine lv_iconst (v := 2) hx hb dX9_copy_196 (by decide) ?_
                    refine lv_goto (tgt := 201) hx hb dX9_copy_197 (by decide) ?_
                    refine pg_put (ci := 8) (v := .int 2) (ty := .int) (C := RX9) (T := TX9) (N := 20) hx hb hts hinX9 tyX9 tyX9_ok nmX9 hown hK hP hD hS hmo hFo_39 rfl 17 (by decide) (hts (.fieldLink RX9 65 "RopeDrumsModel" "failed" "I") (by decide +kernel)) (fun _ h9 => h9) rfl (by decide +kernel) (rfl) (rfl) (Nat.le_of_ble_eq_true rfl) dX9_copy_201 (fun H locs F49 eF49 hP hS => ?_)
                    have eF49 : F49 = va_up F39 o (.inr (8, [.int 0, .ref (qm 0), .ref (qm 1), .ref (qm 2), .ref (qm 3), .ref (qm 4), .ref (qm 5), .ref (qm 6), .ref (qm 7), .int Pp.1, .ref (qm 8), .ref (qm 9), .ref (qm 10), .ref (qm 11), .ref (qm 12), .ref (qm 13), .ref (qm 14), .int 2, .ref (qm 15), .long oc])) := eF49
                    have hFo_49 : F49 o = .inr (8, [.int 0, .ref (qm 0), .ref (qm 1), .ref (qm 2), .ref (qm 3), .ref (qm 4), .ref (qm 5), .ref (qm 6), .ref (qm 7), .int Pp.1, .ref (qm 8), .ref (qm 9), .ref (qm 10), .ref (qm 11), .ref (qm 12), .ref (qm 13), .ref (qm 14), .int 2, .ref (qm 15), .long oc]) := by rw [eF49]; exact va_up_self _ _ _
                    have hFqm0_49 : F49 (qm 0) = cI (cy 1) 10 Mm.1 := by rw [eF49, va_up_ne _ _ (pl_ne hFqm0_39 hFo_39 rfl)]; exact hFqm0_39
                    have hFqm1_49 : F49 (qm 1) = cJ (cy 2) 10 Mm.2 := by rw [eF49, va_up_ne _ _ (pl_ne hFqm1_39 hFo_39 rfl)]; exact hFqm1_39
                    have hFqm2_49 : F49 (qm 2) = cD (cy 0) 6 Dd.1 := by rw [eF49, va_up_ne _ _ (pl_ne hFqm2_39 hFo_39 rfl)]; exact hFqm2_39
                    have hFqm3_49 : F49 (qm 3) = cD (cy 0) 6 Dd.2.1 := by rw [eF49, va_up_ne _ _ (pl_ne hFqm3_39 hFo_39 rfl)]; exact hFqm3_39
                    have hFqm4_49 : F49 (qm 4) = cD (cy 0) 6 Dd.2.2.1 := by rw [eF49, va_up_ne _ _ (pl_ne hFqm4_39 hFo_39 rfl)]; exact hFqm4_39
                    have hFqm5_49 : F49 (qm 5) = cJ (cy 2) 6 Dd.2.2.2 := by rw [eF49, va_up_ne _ _ (pl_ne hFqm5_39 hFo_39 rfl)]; exact hFqm5_39
                    have hFqm6_49 : F49 (qm 6) = cI (cy 1) 8 Sl.1 := by rw [eF49, va_up_ne _ _ (pl_ne hFqm6_39 hFo_39 rfl)]; exact hFqm6_39
                    have hFqm7_49 : F49 (qm 7) = cJ (cy 2) 128 (cpy Sl j_dd j_ff kk) := by rw [eF49, va_up_ne _ _ (pl_ne hFqm7_39 hFo_39 rfl)]; exact hFqm7_39
                    have hFqm8_49 : F49 (qm 8) = cI (cy 1) 30 Pp.2.1 := by rw [eF49, va_up_ne _ _ (pl_ne hFqm8_39 hFo_39 rfl)]; exact hFqm8_39
                    have hFqm9_49 : F49 (qm 9) = cI (cy 3) 30 Pp.2.2 := by rw [eF49, va_up_ne _ _ (pl_ne hFqm9_39 hFo_39 rfl)]; exact hFqm9_39
                    have hFqm10_49 : F49 (qm 10) = cI (cy 1) 5 Kr.1 := by rw [eF49, va_up_ne _ _ (pl_ne hFqm10_39 hFo_39 rfl)]; exact hFqm10_39
                    have hFqm11_49 : F49 (qm 11) = cI (cy 3) 5 Kr.2.1 := by rw [eF49, va_up_ne _ _ (pl_ne hFqm11_39 hFo_39 rfl)]; exact hFqm11_39
                    have hFqm12_49 : F49 (qm 12) = cI (cy 1) 60 Kr.2.2 := by rw [eF49, va_up_ne _ _ (pl_ne hFqm12_39 hFo_39 rfl)]; exact hFqm12_39
                    have hFqm13_49 : F49 (qm 13) = cI (cy 1) 4 Bk.1 := by rw [eF49, va_up_ne _ _ (pl_ne hFqm13_39 hFo_39 rfl)]; exact hFqm13_39
                    have hFqm14_49 : F49 (qm 14) = cD (cy 0) 4 Bk.2 := by rw [eF49, va_up_ne _ _ (pl_ne hFqm14_39 hFo_39 rfl)]; exact hFqm14_39
                    have hFqm15_49 : F49 (qm 15) = cI (cy 1) 6 Xx.2 := by rw [eF49, va_up_ne _ _ (pl_ne hFqm15_39 hFo_39 rfl)]; exact hFqm15_39
                    refine lv_aload_n hx hb dX9_copy_204 rfl (lv_at hl 1 rfl) ?_
                    refine pg_get (ci := 8) (C := RX9) (T := TX9) (N := 20) hx hb hts hinX9 hown hK hP hmo hFo_49 rfl 18 (by decide) (hts (.fieldLink RX9 58 "RopeDrumsModel" "counted" "[I") (by decide +kernel)) (fun _ h9 => h9) rfl dX9_copy_205 ?_
                    refine lv_iconst (v := 2) hx hb dX9_copy_208 (by decide) ?_
                    refine lv_dup2_11 hx hb dX9_copy_209 rfl rfl ?_
                    refine pg_iald hx hb hK hP 1 hm15 hFqm15_49 rfl (vp_in_nI (n := 2) (N := 6) (by decide) (by decide)) dX9_copy_210 ?_
                    refine lv_topi (fun v50 ev50 => ?_)
                    refine lv_aload_n hx hb dX9_copy_211 rfl (lv_at hl 1 rfl) ?_
                    refine pg_get (ci := 8) (C := RX9) (T := TX9) (N := 20) hx hb hts hinX9 hown hK hP hmo hFo_49 rfl 17 (by decide) (hts (.fieldLink RX9 65 "RopeDrumsModel" "failed" "I") (by decide +kernel)) (fun _ h9 => h9) rfl dX9_copy_212 ?_
                    refine lv_if_le (tgt := 222) hx hb dX9_copy_215 (by decide) (fun c51 => absurd c51 (by decide)) (fun c51 => ?_)
                    refine lv_iconst (v := 1) hx hb dX9_copy_218 (by decide) ?_
                    refine lv_goto (tgt := 223) hx hb dX9_copy_219 (by decide) ?_
                    refine lv_iadd hx hb dX9_copy_223 ?_
                    refine lv_topi (fun v52 ev52 => ?_)
                    refine pg_iast hx hb hK hP hD hS 1 hm15 hFqm15_49 rfl (vp_in_nI (n := 2) (N := 6) (by decide) (by decide)) dX9_copy_224 (fun H locs F53 eF53 hP hS => ?_)
                    have hFo_53 : F53 o = .inr (8, [.int 0, .ref (qm 0), .ref (qm 1), .ref (qm 2), .ref (qm 3), .ref (qm 4), .ref (qm 5), .ref (qm 6), .ref (qm 7), .int Pp.1, .ref (qm 8), .ref (qm 9), .ref (qm 10), .ref (qm 11), .ref (qm 12), .ref (qm 13), .ref (qm 14), .int 2, .ref (qm 15), .long oc]) := by rw [eF53, va_up_ne _ _ (pl_ne hFo_49 hFqm15_49 rfl)]; exact hFo_49
                    have hFqm0_53 : F53 (qm 0) = cI (cy 1) 10 Mm.1 := by rw [eF53, va_up_ne _ _ (pl_ne hFqm0_49 hFqm15_49 rfl)]; exact hFqm0_49
                    have hFqm1_53 : F53 (qm 1) = cJ (cy 2) 10 Mm.2 := by rw [eF53, va_up_ne _ _ (pl_ne hFqm1_49 hFqm15_49 rfl)]; exact hFqm1_49
                    have hFqm2_53 : F53 (qm 2) = cD (cy 0) 6 Dd.1 := by rw [eF53, va_up_ne _ _ (pl_ne hFqm2_49 hFqm15_49 rfl)]; exact hFqm2_49
                    have hFqm3_53 : F53 (qm 3) = cD (cy 0) 6 Dd.2.1 := by rw [eF53, va_up_ne _ _ (pl_ne hFqm3_49 hFqm15_49 rfl)]; exact hFqm3_49
                    have hFqm4_53 : F53 (qm 4) = cD (cy 0) 6 Dd.2.2.1 := by rw [eF53, va_up_ne _ _ (pl_ne hFqm4_49 hFqm15_49 rfl)]; exact hFqm4_49
                    have hFqm5_53 : F53 (qm 5) = cJ (cy 2) 6 Dd.2.2.2 := by rw [eF53, va_up_ne _ _ (pl_ne hFqm5_49 hFqm15_49 rfl)]; exact hFqm5_49
                    have hFqm6_53 : F53 (qm 6) = cI (cy 1) 8 Sl.1 := by rw [eF53, va_up_ne _ _ (pl_ne hFqm6_49 hFqm15_49 rfl)]; exact hFqm6_49
                    have hFqm7_53 : F53 (qm 7) = cJ (cy 2) 128 (cpy Sl j_dd j_ff kk) := by rw [eF53, va_up_ne _ _ (pl_ne hFqm7_49 hFqm15_49 rfl)]; exact hFqm7_49
                    have hFqm8_53 : F53 (qm 8) = cI (cy 1) 30 Pp.2.1 := by rw [eF53, va_up_ne _ _ (pl_ne hFqm8_49 hFqm15_49 rfl)]; exact hFqm8_49
                    have hFqm9_53 : F53 (qm 9) = cI (cy 3) 30 Pp.2.2 := by rw [eF53, va_up_ne _ _ (pl_ne hFqm9_49 hFqm15_49 rfl)]; exact hFqm9_49
                    have hFqm10_53 : F53 (qm 10) = cI (cy 1) 5 Kr.1 := by rw [eF53, va_up_ne _ _ (pl_ne hFqm10_49 hFqm15_49 rfl)]; exact hFqm10_49
                    have hFqm11_53 : F53 (qm 11) = cI (cy 3) 5 Kr.2.1 := by rw [eF53, va_up_ne _ _ (pl_ne hFqm11_49 hFqm15_49 rfl)]; exact hFqm11_49
                    have hFqm12_53 : F53 (qm 12) = cI (cy 1) 60 Kr.2.2 := by rw [eF53, va_up_ne _ _ (pl_ne hFqm12_49 hFqm15_49 rfl)]; exact hFqm12_49
                    have hFqm13_53 : F53 (qm 13) = cI (cy 1) 4 Bk.1 := by rw [eF53, va_up_ne _ _ (pl_ne hFqm13_49 hFqm15_49 rfl)]; exact hFqm13_49
                    have hFqm14_53 : F53 (qm 14) = cD (cy 0) 4 Bk.2 := by rw [eF53, va_up_ne _ _ (pl_ne hFqm14_49 hFqm15_49 rfl)]; exact hFqm14_49
                    have hFqm15_53 : F53 (qm 15) = cI (cy 1) 6 (upd Xx.2 (2 : Int32).toNatClampNeg v52) := by rw [eF53]; exact va_up_self _ _ _
                    refine lv_iload hx hb dX9_copy_225 (lv_at hl 0 rfl) ?_
                    exact W.iret (v := nI kk) hx hb hr (fun t ht hW => ⟨⟨nI kk, F53, rfl, (by subst ev52 ev50 ev42 ev40; have hc66 := c30; have hc76 := c36; have hc193 := c43; rw [fa_eq] at hc66; rw [fa_le] at hc76; rw [fa_le, nI_toInt (by omega)] at hc193; exact absurd trivial (by omega)), (by show va_P _ _ _ t.heap; rw [ht]; exact hP)⟩, hS.F ht⟩) hS.2.2 dX9_copy_227
                · have hlt1 : (kk : Int) < (Sl.1 j_dd).toInt := by have hc := c41; rw [ev40, fa_le, nI_toInt (by omega)] at hc; omega
                  refine lv_iload hx hb dX9_copy_126 (lv_at hl 0 rfl) ?_
                  refine lv_aload_n hx hb dX9_copy_128 rfl (lv_at hl 1 rfl) ?_
                  refine pg_get (ci := 8) (C := RX9) (T := TX9) (N := 20) hx hb hts hinX9 hown hK hP hmo hFo_39 rfl 7 (by decide) (hts (.fieldLink RX9 30 "RopeDrumsModel" "logSize" "[I") (by decide +kernel)) (fun _ h9 => h9) rfl dX9_copy_129 ?_
                  refine lv_iload hx hb dX9_copy_132 (lv_at hl 3 rfl) ?_
                  refine pg_iald hx hb hK hP 1 hm6 hFqm6_39 rfl (vp_in_nI (by omega) (by decide)) dX9_copy_134 ?_
                  refine lv_topi (fun v54 ev54 => ?_)
                  rw [nI_clamp (by omega)] at ev54
                  refine lv_icmp_ge (tgt := 183) hx hb dX9_copy_135 (by decide) (fun c55 => ?_) (fun c55 => ?_)
                  · have hex : (Sl.1 j_ff).toInt ≤ (kk : Int) := by have hc := c55; rw [ev54, fa_le, nI_toInt (by omega)] at hc; omega
                    refine lv_aload_n hx hb dX9_copy_183 rfl (lv_at hl 1 rfl) ?_
                    refine lv_iload hx hb dX9_copy_184 (lv_at hl 0 rfl) ?_
                    refine lv_aload_n hx hb dX9_copy_186 rfl (lv_at hl 1 rfl) ?_
                    refine pg_get (ci := 8) (C := RX9) (T := TX9) (N := 20) hx hb hts hinX9 hown hK hP hmo hFo_39 rfl 7 (by decide) (hts (.fieldLink RX9 30 "RopeDrumsModel" "logSize" "[I") (by decide +kernel)) (fun _ h9 => h9) rfl dX9_copy_187 ?_
                    refine lv_iload hx hb dX9_copy_190 (lv_at hl 2 rfl) ?_
                    refine pg_iald hx hb hK hP 1 hm6 hFqm6_39 rfl (vp_in_nI (by omega) (by decide)) dX9_copy_192 ?_
                    refine lv_topi (fun v56 ev56 => ?_)
                    rw [nI_clamp (by omega)] at ev56
                    refine lv_icmp_ge (tgt := 200) hx hb dX9_copy_193 (by decide) (fun c57 => ?_) (fun c57 => ?_)
                    · refine lv_iconst (v := 0) hx hb dX9_copy_200 (by decide) ?_
                      refine pg_put (ci := 8) (v := .int 0) (ty := .int) (C := RX9) (T := TX9) (N := 20) hx hb hts hinX9 tyX9 tyX9_ok nmX9 hown hK hP hD hS hmo hFo_39 rfl 17 (by decide) (hts (.fieldLink RX9 65 "RopeDrumsModel" "failed" "I") (by decide +kernel)) (fun _ h9 => h9) rfl (by decide +kernel) (rfl) (rfl) (Nat.le_of_ble_eq_true rfl) dX9_copy_201 (fun H locs F58 eF58 hP hS => ?_)
                      have eF58 : F58 = va_up F39 o (.inr (8, [.int 0, .ref (qm 0), .ref (qm 1), .ref (qm 2), .ref (qm 3), .ref (qm 4), .ref (qm 5), .ref (qm 6), .ref (qm 7), .int Pp.1, .ref (qm 8), .ref (qm 9), .ref (qm 10), .ref (qm 11), .ref (qm 12), .ref (qm 13), .ref (qm 14), .int 0, .ref (qm 15), .long oc])) := eF58
                      have hFo_58 : F58 o = .inr (8, [.int 0, .ref (qm 0), .ref (qm 1), .ref (qm 2), .ref (qm 3), .ref (qm 4), .ref (qm 5), .ref (qm 6), .ref (qm 7), .int Pp.1, .ref (qm 8), .ref (qm 9), .ref (qm 10), .ref (qm 11), .ref (qm 12), .ref (qm 13), .ref (qm 14), .int 0, .ref (qm 15), .long oc]) := by rw [eF58]; exact va_up_self _ _ _
                      have hFqm0_58 : F58 (qm 0) = cI (cy 1) 10 Mm.1 := by rw [eF58, va_up_ne _ _ (pl_ne hFqm0_39 hFo_39 rfl)]; exact hFqm0_39
                      have hFqm1_58 : F58 (qm 1) = cJ (cy 2) 10 Mm.2 := by rw [eF58, va_up_ne _ _ (pl_ne hFqm1_39 hFo_39 rfl)]; exact hFqm1_39
                      have hFqm2_58 : F58 (qm 2) = cD (cy 0) 6 Dd.1 := by rw [eF58, va_up_ne _ _ (pl_ne hFqm2_39 hFo_39 rfl)]; exact hFqm2_39
                      have hFqm3_58 : F58 (qm 3) = cD (cy 0) 6 Dd.2.1 := by rw [eF58, va_up_ne _ _ (pl_ne hFqm3_39 hFo_39 rfl)]; exact hFqm3_39
                      have hFqm4_58 : F58 (qm 4) = cD (cy 0) 6 Dd.2.2.1 := by rw [eF58, va_up_ne _ _ (pl_ne hFqm4_39 hFo_39 rfl)]; exact hFqm4_39
                      have hFqm5_58 : F58 (qm 5) = cJ (cy 2) 6 Dd.2.2.2 := by rw [eF58, va_up_ne _ _ (pl_ne hFqm5_39 hFo_39 rfl)]; exact hFqm5_39
                      have hFqm6_58 : F58 (qm 6) = cI (cy 1) 8 Sl.1 := by rw [eF58, va_up_ne _ _ (pl_ne hFqm6_39 hFo_39 rfl)]; exact hFqm6_39
                      have hFqm7_58 : F58 (qm 7) = cJ (cy 2) 128 (cpy Sl j_dd j_ff kk) := by rw [eF58, va_up_ne _ _ (pl_ne hFqm7_39 hFo_39 rfl)]; exact hFqm7_39
                      have hFqm8_58 : F58 (qm 8) = cI (cy 1) 30 Pp.2.1 := by rw [eF58, va_up_ne _ _ (pl_ne hFqm8_39 hFo_39 rfl)]; exact hFqm8_39
                      have hFqm9_58 : F58 (qm 9) = cI (cy 3) 30 Pp.2.2 := by rw [eF58, va_up_ne _ _ (pl_ne hFqm9_39 hFo_39 rfl)]; exact hFqm9_39
                      have hFqm10_58 : F58 (qm 10) = cI (cy 1) 5 Kr.1 := by rw [eF58, va_up_ne _ _ (pl_ne hFqm10_39 hFo_39 rfl)]; exact hFqm10_39
                      have hFqm11_58 : F58 (qm 11) = cI (cy 3) 5 Kr.2.1 := by rw [eF58, va_up_ne _ _ (pl_ne hFqm11_39 hFo_39 rfl)]; exact hFqm11_39
                      have hFqm12_58 : F58 (qm 12) = cI (cy 1) 60 Kr.2.2 := by rw [eF58, va_up_ne _ _ (pl_ne hFqm12_39 hFo_39 rfl)]; exact hFqm12_39
                      have hFqm13_58 : F58 (qm 13) = cI (cy 1) 4 Bk.1 := by rw [eF58, va_up_ne _ _ (pl_ne hFqm13_39 hFo_39 rfl)]; exact hFqm13_39
                      have hFqm14_58 : F58 (qm 14) = cD (cy 0) 4 Bk.2 := by rw [eF58, va_up_ne _ _ (pl_ne hFqm14_39 hFo_39 rfl)]; exact hFqm14_39
                      have hFqm15_58 : F58 (qm 15) = cI (cy 1) 6 Xx.2 := by rw [eF58, va_up_ne _ _ (pl_ne hFqm15_39 hFo_39 rfl)]; exact hFqm15_39
                      refine lv_aload_n hx hb dX9_copy_204 rfl (lv_at hl 1 rfl) ?_
                      refine pg_get (ci := 8) (C := RX9) (T := TX9) (N := 20) hx hb hts hinX9 hown hK hP hmo hFo_58 rfl 18 (by decide) (hts (.fieldLink RX9 58 "RopeDrumsModel" "counted" "[I") (by decide +kernel)) (fun _ h9 => h9) rfl dX9_copy_205 ?_
                      refine lv_iconst (v := 2) hx hb dX9_copy_208 (by decide) ?_
                      refine lv_dup2_11 hx hb dX9_copy_209 rfl rfl ?_
                      refine pg_iald hx hb hK hP 1 hm15 hFqm15_58 rfl (vp_in_nI (n := 2) (N := 6) (by decide) (by decide)) dX9_copy_210 ?_
                      refine lv_topi (fun v59 ev59 => ?_)
                      refine lv_aload_n hx hb dX9_copy_211 rfl (lv_at hl 1 rfl) ?_
                      refine pg_get (ci := 8) (C := RX9) (T := TX9) (N := 20) hx hb hts hinX9 hown hK hP hmo hFo_58 rfl 17 (by decide) (hts (.fieldLink RX9 65 "RopeDrumsModel" "failed" "I") (by decide +kernel)) (fun _ h9 => h9) rfl dX9_copy_212 ?_
                      refine lv_if_le (tgt := 222) hx hb dX9_copy_215 (by decide) (fun c60 => ?_) (fun c60 => absurd (by decide) c60)
                      refine lv_iconst (v := 0) hx hb dX9_copy_222 (by decide) ?_
                      refine lv_iadd hx hb dX9_copy_223 ?_
                      refine lv_topi (fun v61 ev61 => ?_)
                      refine pg_iast hx hb hK hP hD hS 1 hm15 hFqm15_58 rfl (vp_in_nI (n := 2) (N := 6) (by decide) (by decide)) dX9_copy_224 (fun H locs F62 eF62 hP hS => ?_)
                      have hFo_62 : F62 o = .inr (8, [.int 0, .ref (qm 0), .ref (qm 1), .ref (qm 2), .ref (qm 3), .ref (qm 4), .ref (qm 5), .ref (qm 6), .ref (qm 7), .int Pp.1, .ref (qm 8), .ref (qm 9), .ref (qm 10), .ref (qm 11), .ref (qm 12), .ref (qm 13), .ref (qm 14), .int 0, .ref (qm 15), .long oc]) := by rw [eF62, va_up_ne _ _ (pl_ne hFo_58 hFqm15_58 rfl)]; exact hFo_58
                      have hFqm0_62 : F62 (qm 0) = cI (cy 1) 10 Mm.1 := by rw [eF62, va_up_ne _ _ (pl_ne hFqm0_58 hFqm15_58 rfl)]; exact hFqm0_58
                      have hFqm1_62 : F62 (qm 1) = cJ (cy 2) 10 Mm.2 := by rw [eF62, va_up_ne _ _ (pl_ne hFqm1_58 hFqm15_58 rfl)]; exact hFqm1_58
                      have hFqm2_62 : F62 (qm 2) = cD (cy 0) 6 Dd.1 := by rw [eF62, va_up_ne _ _ (pl_ne hFqm2_58 hFqm15_58 rfl)]; exact hFqm2_58
                      have hFqm3_62 : F62 (qm 3) = cD (cy 0) 6 Dd.2.1 := by rw [eF62, va_up_ne _ _ (pl_ne hFqm3_58 hFqm15_58 rfl)]; exact hFqm3_58
                      have hFqm4_62 : F62 (qm 4) = cD (cy 0) 6 Dd.2.2.1 := by rw [eF62, va_up_ne _ _ (pl_ne hFqm4_58 hFqm15_58 rfl)]; exact hFqm4_58
                      have hFqm5_62 : F62 (qm 5) = cJ (cy 2) 6 Dd.2.2.2 := by rw [eF62, va_up_ne _ _ (pl_ne hFqm5_58 hFqm15_58 rfl)]; exact hFqm5_58
                      have hFqm6_62 : F62 (qm 6) = cI (cy 1) 8 Sl.1 := by rw [eF62, va_up_ne _ _ (pl_ne hFqm6_58 hFqm15_58 rfl)]; exact hFqm6_58
                      have hFqm7_62 : F62 (qm 7) = cJ (cy 2) 128 (cpy Sl j_dd j_ff kk) := by rw [eF62, va_up_ne _ _ (pl_ne hFqm7_58 hFqm15_58 rfl)]; exact hFqm7_58
                      have hFqm8_62 : F62 (qm 8) = cI (cy 1) 30 Pp.2.1 := by rw [eF62, va_up_ne _ _ (pl_ne hFqm8_58 hFqm15_58 rfl)]; exact hFqm8_58
                      have hFqm9_62 : F62 (qm 9) = cI (cy 3) 30 Pp.2.2 := by rw [eF62, va_up_ne _ _ (pl_ne hFqm9_58 hFqm15_58 rfl)]; exact hFqm9_58
                      have hFqm10_62 : F62 (qm 10) = cI (cy 1) 5 Kr.1 := by rw [eF62, va_up_ne _ _ (pl_ne hFqm10_58 hFqm15_58 rfl)]; exact hFqm10_58
                      have hFqm11_62 : F62 (qm 11) = cI (cy 3) 5 Kr.2.1 := by rw [eF62, va_up_ne _ _ (pl_ne hFqm11_58 hFqm15_58 rfl)]; exact hFqm11_58
                      have hFqm12_62 : F62 (qm 12) = cI (cy 1) 60 Kr.2.2 := by rw [eF62, va_up_ne _ _ (pl_ne hFqm12_58 hFqm15_58 rfl)]; exact hFqm12_58
                      have hFqm13_62 : F62 (qm 13) = cI (cy 1) 4 Bk.1 := by rw [eF62, va_up_ne _ _ (pl_ne hFqm13_58 hFqm15_58 rfl)]; exact hFqm13_58
                      have hFqm14_62 : F62 (qm 14) = cD (cy 0) 4 Bk.2 := by rw [eF62, va_up_ne _ _ (pl_ne hFqm14_58 hFqm15_58 rfl)]; exact hFqm14_58
                      have hFqm15_62 : F62 (qm 15) = cI (cy 1) 6 (upd Xx.2 (2 : Int32).toNatClampNeg v61) := by rw [eF62]; exact va_up_self _ _ _
                      refine lv_iload hx hb dX9_copy_225 (lv_at hl 0 rfl) ?_
                      exact W.iret (v := nI kk) hx hb hr (fun t ht hW => ⟨⟨nI kk, F62, rfl, (by subst ev61 ev59 ev56 ev54 ev40; have hc66 := c30; have hc76 := c36; have hc193 := c57; have hk0 : kk = 0 := (by rw [fa_eq] at hc66; rw [fa_le] at hc76; rw [fa_le, nI_toInt (by omega)] at hc193; omega); have hz0 : Sl.1 j_dd = 0 := (by rw [fa_eq] at hc66; rw [fa_le] at hc76; rw [fa_le, nI_toInt (by omega)] at hc193; rw [fa_eq]; omega); subst hk0; rw [cpy0] at hFqm7_62; rw [updid0] at hFqm15_62; have hsp : sp_copy Sl Xx (nI j_dd) (nI j_ff) bk = (0, Sl, goodX Xx) := (by unfold sp_copy; rw [hi_dd, hi_ff]; refine (if_pos ⟨hd4, hf4⟩).trans ((if_pos hbk).trans ?_); unfold cp; rw [if_neg hc66, if_pos hz0]); rw [hsp]; exact ⟨rfl, (by exact ⟨⟨_, _, hmo, hFo_62⟩, ⟨hm0, hFqm0_62⟩, ⟨hm1, hFqm1_62⟩, ⟨hm2, hFqm2_62⟩, ⟨hm3, hFqm3_62⟩, ⟨hm4, hFqm4_62⟩, ⟨hm5, hFqm5_62⟩, ⟨hm6, hFqm6_62⟩, ⟨hm7, hFqm7_62⟩, ⟨hm8, hFqm8_62⟩, ⟨hm9, hFqm9_62⟩, ⟨hm10, hFqm10_62⟩, ⟨hm11, hFqm11_62⟩, ⟨hm12, hFqm12_62⟩, ⟨hm13, hFqm13_62⟩, ⟨hm14, hFqm14_62⟩, ⟨hm15, hFqm15_62⟩, hne⟩)⟩), (by show va_P _ _ _ t.heap; rw [ht]; exact hP)⟩, hS.F ht⟩) hS.2.2 dX9_copy_227
                    · refine lv_iconst (v := 2) hx hb dX9_copy_196 (by decide) ?_
                      refine lv_goto (tgt := 201) hx hb dX9_copy_197 (by decide) ?_
                      refine pg_put (ci := 8) (v := .int 2) (ty := .int) (C := RX9) (T := TX9) (N := 20) hx hb hts hinX9 tyX9 tyX9_ok nmX9 hown hK hP hD hS hmo hFo_39 rfl 17 (by decide) (hts (.fieldLink RX9 65 "RopeDrumsModel" "failed" "I") (by decide +kernel)) (fun _ h9 => h9) rfl (by decide +kernel) (rfl) (rfl) (Nat.le_of_ble_eq_true rfl) dX9_copy_201 (fun H locs F63 eF63 hP hS => ?_)
                      have eF63 : F63 = va_up F39 o (.inr (8, [.int 0, .ref (qm 0), .ref (qm 1), .ref (qm 2), .ref (qm 3), .ref (qm 4), .ref (qm 5), .ref (qm 6), .ref (qm 7), .int Pp.1, .ref (qm 8), .ref (qm 9), .ref (qm 10), .ref (qm 11), .ref (qm 12), .ref (qm 13), .ref (qm 14), .int 2, .ref (qm 15), .long oc])) := eF63
                      have hFo_63 : F63 o = .inr (8, [.int 0, .ref (qm 0), .ref (qm 1), .ref (qm 2), .ref (qm 3), .ref (qm 4), .ref (qm 5), .ref (qm 6), .ref (qm 7), .int Pp.1, .ref (qm 8), .ref (qm 9), .ref (qm 10), .ref (qm 11), .ref (qm 12), .ref (qm 13), .ref (qm 14), .int 2, .ref (qm 15), .long oc]) := by rw [eF63]; exact va_up_self _ _ _
                      have hFqm0_63 : F63 (qm 0) = cI (cy 1) 10 Mm.1 := by rw [eF63, va_up_ne _ _ (pl_ne hFqm0_39 hFo_39 rfl)]; exact hFqm0_39
                      have hFqm1_63 : F63 (qm 1) = cJ (cy 2) 10 Mm.2 := by rw [eF63, va_up_ne _ _ (pl_ne hFqm1_39 hFo_39 rfl)]; exact hFqm1_39
                      have hFqm2_63 : F63 (qm 2) = cD (cy 0) 6 Dd.1 := by rw [eF63, va_up_ne _ _ (pl_ne hFqm2_39 hFo_39 rfl)]; exact hFqm2_39
                      have hFqm3_63 : F63 (qm 3) = cD (cy 0) 6 Dd.2.1 := by rw [eF63, va_up_ne _ _ (pl_ne hFqm3_39 hFo_39 rfl)]; exact hFqm3_39
                      have hFqm4_63 : F63 (qm 4) = cD (cy 0) 6 Dd.2.2.1 := by rw [eF63, va_up_ne _ _ (pl_ne hFqm4_39 hFo_39 rfl)]; exact hFqm4_39
                      have hFqm5_63 : F63 (qm 5) = cJ (cy 2) 6 Dd.2.2.2 := by rw [eF63, va_up_ne _ _ (pl_ne hFqm5_39 hFo_39 rfl)]; exact hFqm5_39
                      have hFqm6_63 : F63 (qm 6) = cI (cy 1) 8 Sl.1 := by rw [eF63, va_up_ne _ _ (pl_ne hFqm6_39 hFo_39 rfl)]; exact hFqm6_39
                      have hFqm7_63 : F63 (qm 7) = cJ (cy 2) 128 (cpy Sl j_dd j_ff kk) := by rw [eF63, va_up_ne _ _ (pl_ne hFqm7_39 hFo_39 rfl)]; exact hFqm7_39
                      have hFqm8_63 : F63 (qm 8) = cI (cy 1) 30 Pp.2.1 := by rw [eF63, va_up_ne _ _ (pl_ne hFqm8_39 hFo_39 rfl)]; exact hFqm8_39
                      have hFqm9_63 : F63 (qm 9) = cI (cy 3) 30 Pp.2.2 := by rw [eF63, va_up_ne _ _ (pl_ne hFqm9_39 hFo_39 rfl)]; exact hFqm9_39
                      have hFqm10_63 : F63 (qm 10) = cI (cy 1) 5 Kr.1 := by rw [eF63, va_up_ne _ _ (pl_ne hFqm10_39 hFo_39 rfl)]; exact hFqm10_39
                      have hFqm11_63 : F63 (qm 11) = cI (cy 3) 5 Kr.2.1 := by rw [eF63, va_up_ne _ _ (pl_ne hFqm11_39 hFo_39 rfl)]; exact hFqm11_39
                      have hFqm12_63 : F63 (qm 12) = cI (cy 1) 60 Kr.2.2 := by rw [eF63, va_up_ne _ _ (pl_ne hFqm12_39 hFo_39 rfl)]; exact hFqm12_39
                      have hFqm13_63 : F63 (qm 13) = cI (cy 1) 4 Bk.1 := by rw [eF63, va_up_ne _ _ (pl_ne hFqm13_39 hFo_39 rfl)]; exact hFqm13_39
                      have hFqm14_63 : F63 (qm 14) = cD (cy 0) 4 Bk.2 := by rw [eF63, va_up_ne _ _ (pl_ne hFqm14_39 hFo_39 rfl)]; exact hFqm14_39
                      have hFqm15_63 : F63 (qm 15) = cI (cy 1) 6 Xx.2 := by rw [eF63, va_up_ne _ _ (pl_ne hFqm15_39 hFo_39 rfl)]; exact hFqm15_39
                      refine lv_aload_n hx hb dX9_copy_204 rfl (lv_at hl 1 rfl) ?_
                      refine pg_get (ci := 8) (C := RX9) (T := TX9) (N := 20) hx hb hts hinX9 hown hK hP hmo hFo_63 rfl 18 (by decide) (hts (.fieldLink RX9 58 "RopeDrumsModel" "counted" "[I") (by decide +kernel)) (fun _ h9 => h9) rfl dX9_copy_205 ?_
                      refine lv_iconst (v := 2) hx hb dX9_copy_208 (by decide) ?_
                      refine lv_dup2_11 hx hb dX9_copy_209 rfl rfl ?_
                      refine pg_iald hx hb hK hP 1 hm15 hFqm15_63 rfl (vp_in_nI (n := 2) (N := 6) (by decide) (by decide)) dX9_copy_210 ?_
                      refine lv_topi (fun v64 ev64 => ?_)
                      refine lv_aload_n hx hb dX9_copy_211 rfl (lv_at hl 1 rfl) ?_
                      refine pg_get (ci := 8) (C := RX9) (T := TX9) (N := 20) hx hb hts hinX9 hown hK hP hmo hFo_63 rfl 17 (by decide) (hts (.fieldLink RX9 65 "RopeDrumsModel" "failed" "I") (by decide +kernel)) (fun _ h9 => h9) rfl dX9_copy_212 ?_
                      refine lv_if_le (tgt := 222) hx hb dX9_copy_215 (by decide) (fun c65 => absurd c65 (by decide)) (fun c65 => ?_)
                      refine lv_iconst (v := 1) hx hb dX9_copy_218 (by decide) ?_
                      refine lv_goto (tgt := 223) hx hb dX9_copy_219 (by decide) ?_
                      refine lv_iadd hx hb dX9_copy_223 ?_
                      refine lv_topi (fun v66 ev66 => ?_)
                      refine pg_iast hx hb hK hP hD hS 1 hm15 hFqm15_63 rfl (vp_in_nI (n := 2) (N := 6) (by decide) (by decide)) dX9_copy_224 (fun H locs F67 eF67 hP hS => ?_)
                      have hFo_67 : F67 o = .inr (8, [.int 0, .ref (qm 0), .ref (qm 1), .ref (qm 2), .ref (qm 3), .ref (qm 4), .ref (qm 5), .ref (qm 6), .ref (qm 7), .int Pp.1, .ref (qm 8), .ref (qm 9), .ref (qm 10), .ref (qm 11), .ref (qm 12), .ref (qm 13), .ref (qm 14), .int 2, .ref (qm 15), .long oc]) := by rw [eF67, va_up_ne _ _ (pl_ne hFo_63 hFqm15_63 rfl)]; exact hFo_63
                      have hFqm0_67 : F67 (qm 0) = cI (cy 1) 10 Mm.1 := by rw [eF67, va_up_ne _ _ (pl_ne hFqm0_63 hFqm15_63 rfl)]; exact hFqm0_63
                      have hFqm1_67 : F67 (qm 1) = cJ (cy 2) 10 Mm.2 := by rw [eF67, va_up_ne _ _ (pl_ne hFqm1_63 hFqm15_63 rfl)]; exact hFqm1_63
                      have hFqm2_67 : F67 (qm 2) = cD (cy 0) 6 Dd.1 := by rw [eF67, va_up_ne _ _ (pl_ne hFqm2_63 hFqm15_63 rfl)]; exact hFqm2_63
                      have hFqm3_67 : F67 (qm 3) = cD (cy 0) 6 Dd.2.1 := by rw [eF67, va_up_ne _ _ (pl_ne hFqm3_63 hFqm15_63 rfl)]; exact hFqm3_63
                      have hFqm4_67 : F67 (qm 4) = cD (cy 0) 6 Dd.2.2.1 := by rw [eF67, va_up_ne _ _ (pl_ne hFqm4_63 hFqm15_63 rfl)]; exact hFqm4_63
                      have hFqm5_67 : F67 (qm 5) = cJ (cy 2) 6 Dd.2.2.2 := by rw [eF67, va_up_ne _ _ (pl_ne hFqm5_63 hFqm15_63 rfl)]; exact hFqm5_63
                      have hFqm6_67 : F67 (qm 6) = cI (cy 1) 8 Sl.1 := by rw [eF67, va_up_ne _ _ (pl_ne hFqm6_63 hFqm15_63 rfl)]; exact hFqm6_63
                      have hFqm7_67 : F67 (qm 7) = cJ (cy 2) 128 (cpy Sl j_dd j_ff kk) := by rw [eF67, va_up_ne _ _ (pl_ne hFqm7_63 hFqm15_63 rfl)]; exact hFqm7_63
                      have hFqm8_67 : F67 (qm 8) = cI (cy 1) 30 Pp.2.1 := by rw [eF67, va_up_ne _ _ (pl_ne hFqm8_63 hFqm15_63 rfl)]; exact hFqm8_63
                      have hFqm9_67 : F67 (qm 9) = cI (cy 3) 30 Pp.2.2 := by rw [eF67, va_up_ne _ _ (pl_ne hFqm9_63 hFqm15_63 rfl)]; exact hFqm9_63
                      have hFqm10_67 : F67 (qm 10) = cI (cy 1) 5 Kr.1 := by rw [eF67, va_up_ne _ _ (pl_ne hFqm10_63 hFqm15_63 rfl)]; exact hFqm10_63
                      have hFqm11_67 : F67 (qm 11) = cI (cy 3) 5 Kr.2.1 := by rw [eF67, va_up_ne _ _ (pl_ne hFqm11_63 hFqm15_63 rfl)]; exact hFqm11_63
                      have hFqm12_67 : F67 (qm 12) = cI (cy 1) 60 Kr.2.2 := by rw [eF67, va_up_ne _ _ (pl_ne hFqm12_63 hFqm15_63 rfl)]; exact hFqm12_63
                      have hFqm13_67 : F67 (qm 13) = cI (cy 1) 4 Bk.1 := by rw [eF67, va_up_ne _ _ (pl_ne hFqm13_63 hFqm15_63 rfl)]; exact hFqm13_63
                      have hFqm14_67 : F67 (qm 14) = cD (cy 0) 4 Bk.2 := by rw [eF67, va_up_ne _ _ (pl_ne hFqm14_63 hFqm15_63 rfl)]; exact hFqm14_63
                      have hFqm15_67 : F67 (qm 15) = cI (cy 1) 6 (upd Xx.2 (2 : Int32).toNatClampNeg v66) := by rw [eF67]; exact va_up_self _ _ _
                      refine lv_iload hx hb dX9_copy_225 (lv_at hl 0 rfl) ?_
                      exact W.iret (v := nI kk) hx hb hr (fun t ht hW => ⟨⟨nI kk, F67, rfl, (by subst ev66 ev64 ev56 ev54 ev40; have hc66 := c30; have hc76 := c36; have hc193 := c57; rw [fa_eq] at hc66; rw [fa_le] at hc76; rw [fa_le, nI_toInt (by omega)] at hc193; exact absurd trivial (by omega)), (by show va_P _ _ _ t.heap; rw [ht]; exact hP)⟩, hS.F ht⟩) hS.2.2 dX9_copy_227
                  · have hlt2 : (kk : Int) < (Sl.1 j_ff).toInt := by have hc := c55; rw [ev54, fa_le, nI_toInt (by omega)] at hc; omega
                    refine lv_aload_n hx hb dX9_copy_138 rfl (lv_at hl 1 rfl) ?_
                    refine pg_get (ci := 8) (C := RX9) (T := TX9) (N := 20) hx hb hts hinX9 hown hK hP hmo hFo_39 rfl 8 (by decide) (hts (.fieldLink RX9 33 "RopeDrumsModel" "logBits" "[J") (by decide +kernel)) (fun _ h9 => h9) rfl dX9_copy_139 ?_
                    refine lv_bipush (v := 16) hx hb dX9_copy_142 (by decide) ?_
                    refine lv_iload hx hb dX9_copy_144 (lv_at hl 3 rfl) ?_
                    refine lv_imul hx hb dX9_copy_146 ?_
                    refine lv_topi (fun v68 ev68 => ?_)
                    refine lv_iload hx hb dX9_copy_147 (lv_at hl 0 rfl) ?_
                    refine lv_iadd hx hb dX9_copy_149 ?_
                    refine lv_topi (fun v69 ev69 => ?_)
                    rw [ev68, nI16] at ev69
                    subst ev69
                    refine lv_iload hx hb dX9_copy_150 (lv_at hl 2 rfl) ?_
                    refine vp_callSi (W.runS (As := [.int (nI j_dd)]) (rest := [.int (nI (16 * j_ff + kk)), .ref (qm 7)]) ⟨hx, hb, hml, hown, hts⟩ (c9_laneOfLog l j_dd hj_dd) (va_cwS 1 hts gX9_copy_X9_laneOfLog rfl rfl rfl (by decide +kernel) ⟨Nat.le_of_ble_eq_true rfl, Nat.le_of_ble_eq_true rfl⟩) (preS_of okT (trivial)) rfl rfl hl.1 rfl (lv_room (Nat.le_of_ble_eq_true rfl)) dX9_copy_152 ⟨Nat.le_of_ble_eq_true rfl, Nat.le_of_ble_eq_true rfl⟩) (fun r70 hr70 => ?_)
                    subst hr70
                    refine lv_aload_n hx hb dX9_copy_155 rfl (lv_at hl 1 rfl) ?_
                    refine pg_get (ci := 8) (C := RX9) (T := TX9) (N := 20) hx hb hts hinX9 hown hK hP hmo hFo_39 rfl 8 (by decide) (hts (.fieldLink RX9 33 "RopeDrumsModel" "logBits" "[J") (by decide +kernel)) (fun _ h9 => h9) rfl dX9_copy_156 ?_
                    refine lv_bipush (v := 16) hx hb dX9_copy_159 (by decide) ?_
                    refine lv_iload hx hb dX9_copy_161 (lv_at hl 2 rfl) ?_
                    refine lv_imul hx hb dX9_copy_163 ?_
                    refine lv_topi (fun v71 ev71 => ?_)
                    refine lv_iload hx hb dX9_copy_164 (lv_at hl 0 rfl) ?_
                    refine lv_iadd hx hb dX9_copy_166 ?_
                    refine lv_topi (fun v72 ev72 => ?_)
                    rw [ev71, nI16] at ev72
                    subst ev72
                    refine pg_lald hx hb hK hP 2 hm7 hFqm7_39 rfl (vp_in_nI (by omega) (by decide)) dX9_copy_167 ?_
                    refine lv_topl (fun v73 ev73 => ?_)
                    rw [nI_clamp (by omega)] at ev73
                    refine lv_iload hx hb dX9_copy_168 (lv_at hl 3 rfl) ?_
                    refine vp_callSi (W.runS (As := [.int (nI j_ff)]) (rest := [.long v73, .int (lw j_dd), .int (nI (16 * j_ff + kk)), .ref (qm 7)]) ⟨hx, hb, hml, hown, hts⟩ (c9_laneOfLog l j_ff hj_ff) (va_cwS 1 hts gX9_copy_X9_laneOfLog rfl rfl rfl (by decide +kernel) ⟨Nat.le_of_ble_eq_true rfl, Nat.le_of_ble_eq_true rfl⟩) (preS_of okT (trivial)) rfl rfl hl.1 rfl (lv_room (Nat.le_of_ble_eq_true rfl)) dX9_copy_170 ⟨Nat.le_of_ble_eq_true rfl, Nat.le_of_ble_eq_true rfl⟩) (fun r74 hr74 => ?_)
                    subst hr74
                    refine vp_callSl (W.runS (As := [.int (lw j_dd), .long v73, .int (lw j_ff)]) (rest := [.int (nI (16 * j_ff + kk)), .ref (qm 7)]) ⟨hx, hb, hml, hown, hts⟩ (c9_turned l (lw j_dd) (lw j_ff) v73 (by rw [ev73]; exact (by rw [cpyf hij (by omega)]; exact (hVS j_dd hj_dd).2 kk hlt1))) (va_cwS 3 hts gX9_copy_X9_turned rfl rfl rfl (by decide +kernel) ⟨Nat.le_of_ble_eq_true rfl, Nat.le_of_ble_eq_true rfl⟩) (preS_of okT (trivial)) rfl rfl hl.1 rfl (lv_room (Nat.le_of_ble_eq_true rfl)) dX9_copy_173 ⟨Nat.le_of_ble_eq_true rfl, Nat.le_of_ble_eq_true rfl⟩) (fun r75 hr75 => ?_)
                    refine pg_last hx hb hK hP hD hS 2 hm7 hFqm7_39 rfl (vp_in_nI (by omega) (by decide)) dX9_copy_176 (fun H locs F76 eF76 hP hS => ?_)
                    rw [nI_clamp (by omega)] at eF76
                    have hFo_76 : F76 o = .inr (8, [.int 0, .ref (qm 0), .ref (qm 1), .ref (qm 2), .ref (qm 3), .ref (qm 4), .ref (qm 5), .ref (qm 6), .ref (qm 7), .int Pp.1, .ref (qm 8), .ref (qm 9), .ref (qm 10), .ref (qm 11), .ref (qm 12), .ref (qm 13), .ref (qm 14), .int 0, .ref (qm 15), .long oc]) := by rw [eF76, va_up_ne _ _ (pl_ne hFo_39 hFqm7_39 rfl)]; exact hFo_39
                    have hFqm0_76 : F76 (qm 0) = cI (cy 1) 10 Mm.1 := by rw [eF76, va_up_ne _ _ (pl_ne hFqm0_39 hFqm7_39 rfl)]; exact hFqm0_39
                    have hFqm1_76 : F76 (qm 1) = cJ (cy 2) 10 Mm.2 := by rw [eF76, va_up_ne _ _ (pl_ne hFqm1_39 hFqm7_39 rfl)]; exact hFqm1_39
                    have hFqm2_76 : F76 (qm 2) = cD (cy 0) 6 Dd.1 := by rw [eF76, va_up_ne _ _ (pl_ne hFqm2_39 hFqm7_39 rfl)]; exact hFqm2_39
                    have hFqm3_76 : F76 (qm 3) = cD (cy 0) 6 Dd.2.1 := by rw [eF76, va_up_ne _ _ (pl_ne hFqm3_39 hFqm7_39 rfl)]; exact hFqm3_39
                    have hFqm4_76 : F76 (qm 4) = cD (cy 0) 6 Dd.2.2.1 := by rw [eF76, va_up_ne _ _ (pl_ne hFqm4_39 hFqm7_39 rfl)]; exact hFqm4_39
                    have hFqm5_76 : F76 (qm 5) = cJ (cy 2) 6 Dd.2.2.2 := by rw [eF76, va_up_ne _ _ (pl_ne hFqm5_39 hFqm7_39 rfl)]; exact hFqm5_39
                    have hFqm6_76 : F76 (qm 6) = cI (cy 1) 8 Sl.1 := by rw [eF76, va_up_ne _ _ (pl_ne hFqm6_39 hFqm7_39 rfl)]; exact hFqm6_39
                    have hFqm7_76 : F76 (qm 7) = cJ (cy 2) 128 (vp_updL (cpy Sl j_dd j_ff kk) (16 * j_ff + kk) r75) := by rw [eF76]; exact va_up_self _ _ _
                    have hFqm8_76 : F76 (qm 8) = cI (cy 1) 30 Pp.2.1 := by rw [eF76, va_up_ne _ _ (pl_ne hFqm8_39 hFqm7_39 rfl)]; exact hFqm8_39
                    have hFqm9_76 : F76 (qm 9) = cI (cy 3) 30 Pp.2.2 := by rw [eF76, va_up_ne _ _ (pl_ne hFqm9_39 hFqm7_39 rfl)]; exact hFqm9_39
                    have hFqm10_76 : F76 (qm 10) = cI (cy 1) 5 Kr.1 := by rw [eF76, va_up_ne _ _ (pl_ne hFqm10_39 hFqm7_39 rfl)]; exact hFqm10_39
                    have hFqm11_76 : F76 (qm 11) = cI (cy 3) 5 Kr.2.1 := by rw [eF76, va_up_ne _ _ (pl_ne hFqm11_39 hFqm7_39 rfl)]; exact hFqm11_39
                    have hFqm12_76 : F76 (qm 12) = cI (cy 1) 60 Kr.2.2 := by rw [eF76, va_up_ne _ _ (pl_ne hFqm12_39 hFqm7_39 rfl)]; exact hFqm12_39
                    have hFqm13_76 : F76 (qm 13) = cI (cy 1) 4 Bk.1 := by rw [eF76, va_up_ne _ _ (pl_ne hFqm13_39 hFqm7_39 rfl)]; exact hFqm13_39
                    have hFqm14_76 : F76 (qm 14) = cD (cy 0) 4 Bk.2 := by rw [eF76, va_up_ne _ _ (pl_ne hFqm14_39 hFqm7_39 rfl)]; exact hFqm14_39
                    have hFqm15_76 : F76 (qm 15) = cI (cy 1) 6 Xx.2 := by rw [eF76, va_up_ne _ _ (pl_ne hFqm15_39 hFqm7_39 rfl)]; exact hFqm15_39
                    obtain ⟨v77, ev77⟩ : ∃ y : Int32, y = (nI kk) + (1) := ⟨_, rfl⟩
                    refine lv_iinc (v := v77) (lv' := [(6, .int v77), (0, .ref o), (4, .int (nI j_dd)), (5, .int (nI j_ff))]) hx hb dX9_copy_177 hl (k := 0) rfl (by rw [ev77]; rfl) (by decide) rfl (fun ls hl => ?_)
                    refine lv_goto (tgt := 114) hx hb dX9_copy_180 (by decide) ?_
                    have hv : v77 = nI (kk + 1) := by rw [ev77, nI_succ]
                    rw [hv] at hl
                    exact K (kk + 1) ls H locs (Or.inr (by omega)) (by omega) (by rw [← show F76 = va_up F37 (qm 7) (cJ (cy 2) 128 (cpy Sl j_dd j_ff (kk + 1))) from (by rw [eF76, eF39, upup]; exact congrArg (fun x => va_up F37 (qm 7) (cJ (cy 2) 128 x)) (by rw [hr75, ev73, cpyf hij (by omega)]; exact cpys Sl j_dd j_ff kk))]; exact hP) hS (lv_sub hl [0, 1, 2, 3] rfl)
              · refine lv_aload_n hx hb dX9_copy_79 rfl (lv_at hl 2 rfl) ?_
                refine pg_get (ci := 8) (C := RX9) (T := TX9) (N := 20) hx hb hts hinX9 hown hK hP hmo hFo_20 rfl 7 (by decide) (hts (.fieldLink RX9 30 "RopeDrumsModel" "logSize" "[I") (by decide +kernel)) (fun _ h9 => h9) rfl dX9_copy_80 ?_
                refine lv_iload hx hb dX9_copy_83 (lv_at hl 0 rfl) ?_
                refine pg_iald hx hb hK hP 1 hm6 hFqm6_20 rfl (vp_in_nI (by omega) (by decide)) dX9_copy_85 ?_
                refine lv_topi (fun v78 ev78 => ?_)
                rw [nI_clamp (by omega)] at ev78
                refine lv_iconst (v := -1) hx hb dX9_copy_86 (by decide) ?_
                refine lv_icmp_ne (tgt := 94) hx hb dX9_copy_87 (by decide) (fun c79 => ?_) (fun c79 => ?_)
                · refine lv_iconst (v := 0) hx hb dX9_copy_94 (by decide) ?_
                  refine pg_put (ci := 8) (v := .int 0) (ty := .int) (C := RX9) (T := TX9) (N := 20) hx hb hts hinX9 tyX9 tyX9_ok nmX9 hown hK hP hD hS hmo hFo_20 rfl 17 (by decide) (hts (.fieldLink RX9 65 "RopeDrumsModel" "failed" "I") (by decide +kernel)) (fun _ h9 => h9) rfl (by decide +kernel) (rfl) (rfl) (Nat.le_of_ble_eq_true rfl) dX9_copy_95 (fun H locs F80 eF80 hP hS => ?_)
                  have eF80 : F80 = va_up F20 o (.inr (8, [.int 0, .ref (qm 0), .ref (qm 1), .ref (qm 2), .ref (qm 3), .ref (qm 4), .ref (qm 5), .ref (qm 6), .ref (qm 7), .int Pp.1, .ref (qm 8), .ref (qm 9), .ref (qm 10), .ref (qm 11), .ref (qm 12), .ref (qm 13), .ref (qm 14), .int 0, .ref (qm 15), .long oc])) := eF80
                  have hFo_80 : F80 o = .inr (8, [.int 0, .ref (qm 0), .ref (qm 1), .ref (qm 2), .ref (qm 3), .ref (qm 4), .ref (qm 5), .ref (qm 6), .ref (qm 7), .int Pp.1, .ref (qm 8), .ref (qm 9), .ref (qm 10), .ref (qm 11), .ref (qm 12), .ref (qm 13), .ref (qm 14), .int 0, .ref (qm 15), .long oc]) := by rw [eF80]; exact va_up_self _ _ _
                  have hFqm0_80 : F80 (qm 0) = cI (cy 1) 10 Mm.1 := by rw [eF80, va_up_ne _ _ (pl_ne hFqm0_20 hFo_20 rfl)]; exact hFqm0_20
                  have hFqm1_80 : F80 (qm 1) = cJ (cy 2) 10 Mm.2 := by rw [eF80, va_up_ne _ _ (pl_ne hFqm1_20 hFo_20 rfl)]; exact hFqm1_20
                  have hFqm2_80 : F80 (qm 2) = cD (cy 0) 6 Dd.1 := by rw [eF80, va_up_ne _ _ (pl_ne hFqm2_20 hFo_20 rfl)]; exact hFqm2_20
                  have hFqm3_80 : F80 (qm 3) = cD (cy 0) 6 Dd.2.1 := by rw [eF80, va_up_ne _ _ (pl_ne hFqm3_20 hFo_20 rfl)]; exact hFqm3_20
                  have hFqm4_80 : F80 (qm 4) = cD (cy 0) 6 Dd.2.2.1 := by rw [eF80, va_up_ne _ _ (pl_ne hFqm4_20 hFo_20 rfl)]; exact hFqm4_20
                  have hFqm5_80 : F80 (qm 5) = cJ (cy 2) 6 Dd.2.2.2 := by rw [eF80, va_up_ne _ _ (pl_ne hFqm5_20 hFo_20 rfl)]; exact hFqm5_20
                  have hFqm6_80 : F80 (qm 6) = cI (cy 1) 8 Sl.1 := by rw [eF80, va_up_ne _ _ (pl_ne hFqm6_20 hFo_20 rfl)]; exact hFqm6_20
                  have hFqm7_80 : F80 (qm 7) = cJ (cy 2) 128 Sl.2 := by rw [eF80, va_up_ne _ _ (pl_ne hFqm7_20 hFo_20 rfl)]; exact hFqm7_20
                  have hFqm8_80 : F80 (qm 8) = cI (cy 1) 30 Pp.2.1 := by rw [eF80, va_up_ne _ _ (pl_ne hFqm8_20 hFo_20 rfl)]; exact hFqm8_20
                  have hFqm9_80 : F80 (qm 9) = cI (cy 3) 30 Pp.2.2 := by rw [eF80, va_up_ne _ _ (pl_ne hFqm9_20 hFo_20 rfl)]; exact hFqm9_20
                  have hFqm10_80 : F80 (qm 10) = cI (cy 1) 5 Kr.1 := by rw [eF80, va_up_ne _ _ (pl_ne hFqm10_20 hFo_20 rfl)]; exact hFqm10_20
                  have hFqm11_80 : F80 (qm 11) = cI (cy 3) 5 Kr.2.1 := by rw [eF80, va_up_ne _ _ (pl_ne hFqm11_20 hFo_20 rfl)]; exact hFqm11_20
                  have hFqm12_80 : F80 (qm 12) = cI (cy 1) 60 Kr.2.2 := by rw [eF80, va_up_ne _ _ (pl_ne hFqm12_20 hFo_20 rfl)]; exact hFqm12_20
                  have hFqm13_80 : F80 (qm 13) = cI (cy 1) 4 Bk.1 := by rw [eF80, va_up_ne _ _ (pl_ne hFqm13_20 hFo_20 rfl)]; exact hFqm13_20
                  have hFqm14_80 : F80 (qm 14) = cD (cy 0) 4 Bk.2 := by rw [eF80, va_up_ne _ _ (pl_ne hFqm14_20 hFo_20 rfl)]; exact hFqm14_20
                  have hFqm15_80 : F80 (qm 15) = cI (cy 1) 6 Xx.2 := by rw [eF80, va_up_ne _ _ (pl_ne hFqm15_20 hFo_20 rfl)]; exact hFqm15_20
                  rw [ev29] at c30
                  rw [ev35] at c36
                  rw [ev78] at c79
                  refine lv_aload_n hx hb dX9_copy_98 rfl (lv_at hl 2 rfl) ?_
                  refine pg_get (ci := 8) (C := RX9) (T := TX9) (N := 20) hx hb hts hinX9 hown hK hP hmo hFo_80 rfl 17 (by decide) (hts (.fieldLink RX9 65 "RopeDrumsModel" "failed" "I") (by decide +kernel)) (fun _ h9 => h9) rfl dX9_copy_99 ?_
                  refine lv_if_le (tgt := 111) hx hb dX9_copy_102 (by decide) (fun c81 => ?_) (fun c81 => absurd (by decide) c81)
                  refine lv_iconst (v := 0) hx hb dX9_copy_111 (by decide) ?_
                  refine lv_istore (lv' := [(6, .int 0), (5, .int (nI j_ff)), (4, .int (nI j_dd)), (0, .ref o), (1, .int (nI j_dd)), (2, .int (nI j_ff)), (3, .int bk)]) hx hb dX9_copy_112 hl (by decide) rfl (fun ls hl => ?_)
                  refine lp_w (pc := 114) (nL := 7) (α := Nat) (fun xx => (xx = 0 ∨ ((xx : Int) ≤ (Sl.1 j_dd).toInt ∧ (xx : Int) ≤ (Sl.1 j_ff).toInt))) (fun xx => [(6, .int (nI xx)), (0, .ref o), (4, .int (nI j_dd)), (5, .int (nI j_ff))]) (fun xx => va_pl L (va_up F80 (qm 7) (cJ (cy 2) 128 (cpy Sl j_dd j_ff xx)))) (fun xx => 16 - xx) (fun kk ls H locs hI hP hS hl K => ?_) 0 ls (Or.inl rfl) (by rw [show va_up F80 (qm 7) (cJ (cy 2) 128 (cpy Sl j_dd j_ff 0)) = F80 from (by rw [cpy0]; exact upid hFqm7_80)]; exact hP) hS (lv_sub hl [0, 3, 2, 1] rfl)
                  obtain ⟨F82, eF82⟩ : ∃ y : Nat → va_E, y = va_up F80 (qm 7) (cJ (cy 2) 128 (cpy Sl j_dd j_ff kk)) := ⟨_, rfl⟩
                  rw [← eF82] at hP
                  have hFo_82 : F82 o = .inr (8, [.int 0, .ref (qm 0), .ref (qm 1), .ref (qm 2), .ref (qm 3), .ref (qm 4), .ref (qm 5), .ref (qm 6), .ref (qm 7), .int Pp.1, .ref (qm 8), .ref (qm 9), .ref (qm 10), .ref (qm 11), .ref (qm 12), .ref (qm 13), .ref (qm 14), .int 0, .ref (qm 15), .long oc]) := by rw [eF82, va_up_ne _ _ (pl_ne hFo_80 hFqm7_80 rfl)]; exact hFo_80
                  have hFqm0_82 : F82 (qm 0) = cI (cy 1) 10 Mm.1 := by rw [eF82, va_up_ne _ _ (pl_ne hFqm0_80 hFqm7_80 rfl)]; exact hFqm0_80
                  have hFqm1_82 : F82 (qm 1) = cJ (cy 2) 10 Mm.2 := by rw [eF82, va_up_ne _ _ (pl_ne hFqm1_80 hFqm7_80 rfl)]; exact hFqm1_80
                  have hFqm2_82 : F82 (qm 2) = cD (cy 0) 6 Dd.1 := by rw [eF82, va_up_ne _ _ (pl_ne hFqm2_80 hFqm7_80 rfl)]; exact hFqm2_80
                  have hFqm3_82 : F82 (qm 3) = cD (cy 0) 6 Dd.2.1 := by rw [eF82, va_up_ne _ _ (pl_ne hFqm3_80 hFqm7_80 rfl)]; exact hFqm3_80
                  have hFqm4_82 : F82 (qm 4) = cD (cy 0) 6 Dd.2.2.1 := by rw [eF82, va_up_ne _ _ (pl_ne hFqm4_80 hFqm7_80 rfl)]; exact hFqm4_80
                  have hFqm5_82 : F82 (qm 5) = cJ (cy 2) 6 Dd.2.2.2 := by rw [eF82, va_up_ne _ _ (pl_ne hFqm5_80 hFqm7_80 rfl)]; exact hFqm5_80
                  have hFqm6_82 : F82 (qm 6) = cI (cy 1) 8 Sl.1 := by rw [eF82, va_up_ne _ _ (pl_ne hFqm6_80 hFqm7_80 rfl)]; exact hFqm6_80
                  have hFqm7_82 : F82 (qm 7) = cJ (cy 2) 128 (cpy Sl j_dd j_ff kk) := by rw [eF82]; exact va_up_self _ _ _
                  have hFqm8_82 : F82 (qm 8) = cI (cy 1) 30 Pp.2.1 := by rw [eF82, va_up_ne _ _ (pl_ne hFqm8_80 hFqm7_80 rfl)]; exact hFqm8_80
                  have hFqm9_82 : F82 (qm 9) = cI (cy 3) 30 Pp.2.2 := by rw [eF82, va_up_ne _ _ (pl_ne hFqm9_80 hFqm7_80 rfl)]; exact hFqm9_80
                  have hFqm10_82 : F82 (qm 10) = cI (cy 1) 5 Kr.1 := by rw [eF82, va_up_ne _ _ (pl_ne hFqm10_80 hFqm7_80 rfl)]; exact hFqm10_80
                  have hFqm11_82 : F82 (qm 11) = cI (cy 3) 5 Kr.2.1 := by rw [eF82, va_up_ne _ _ (pl_ne hFqm11_80 hFqm7_80 rfl)]; exact hFqm11_80
                  have hFqm12_82 : F82 (qm 12) = cI (cy 1) 60 Kr.2.2 := by rw [eF82, va_up_ne _ _ (pl_ne hFqm12_80 hFqm7_80 rfl)]; exact hFqm12_80
                  have hFqm13_82 : F82 (qm 13) = cI (cy 1) 4 Bk.1 := by rw [eF82, va_up_ne _ _ (pl_ne hFqm13_80 hFqm7_80 rfl)]; exact hFqm13_80
                  have hFqm14_82 : F82 (qm 14) = cD (cy 0) 4 Bk.2 := by rw [eF82, va_up_ne _ _ (pl_ne hFqm14_80 hFqm7_80 rfl)]; exact hFqm14_80
                  have hFqm15_82 : F82 (qm 15) = cI (cy 1) 6 Xx.2 := by rw [eF82, va_up_ne _ _ (pl_ne hFqm15_80 hFqm7_80 rfl)]; exact hFqm15_80
                  have hl : lv_has ls 7 [(6, .int (nI kk)), (0, .ref o), (4, .int (nI j_dd)), (5, .int (nI j_ff))] := hl
                  refine lv_iload hx hb dX9_copy_114 (lv_at hl 0 rfl) ?_
                  refine lv_aload_n hx hb dX9_copy_116 rfl (lv_at hl 1 rfl) ?_
                  refine pg_get (ci := 8) (C := RX9) (T := TX9) (N := 20) hx hb hts hinX9 hown hK hP hmo hFo_82 rfl 7 (by decide) (hts (.fieldLink RX9 30 "RopeDrumsModel" "logSize" "[I") (by decide +kernel)) (fun _ h9 => h9) rfl dX9_copy_117 ?_
                  refine lv_iload hx hb dX9_copy_120 (lv_at hl 2 rfl) ?_
                  refine pg_iald hx hb hK hP 1 hm6 hFqm6_82 rfl (vp_in_nI (by omega) (by decide)) dX9_copy_122 ?_
                  refine lv_topi (fun v83 ev83 => ?_)
                  rw [nI_clamp (by omega)] at ev83
                  refine lv_icmp_ge (tgt := 183) hx hb dX9_copy_123 (by decide) (fun c84 => ?_) (fun c84 => ?_)
                  · have hex : (Sl.1 j_dd).toInt ≤ (kk : Int) := by have hc := c84; rw [ev83, fa_le, nI_toInt (by omega)] at hc; omega
                    refine lv_aload_n hx hb dX9_copy_183 rfl (lv_at hl 1 rfl) ?_
                    refine lv_iload hx hb dX9_copy_184 (lv_at hl 0 rfl) ?_
                    refine lv_aload_n hx hb dX9_copy_186 rfl (lv_at hl 1 rfl) ?_
                    refine pg_get (ci := 8) (C := RX9) (T := TX9) (N := 20) hx hb hts hinX9 hown hK hP hmo hFo_82 rfl 7 (by decide) (hts (.fieldLink RX9 30 "RopeDrumsModel" "logSize" "[I") (by decide +kernel)) (fun _ h9 => h9) rfl dX9_copy_187 ?_
                    refine lv_iload hx hb dX9_copy_190 (lv_at hl 2 rfl) ?_
                    refine pg_iald hx hb hK hP 1 hm6 hFqm6_82 rfl (vp_in_nI (by omega) (by decide)) dX9_copy_192 ?_
                    refine lv_topi (fun v85 ev85 => ?_)
                    rw [nI_clamp (by omega)] at ev85
                    refine lv_icmp_ge (tgt := 200) hx hb dX9_copy_193 (by decide) (fun c86 => ?_) (fun c86 => ?_)
                    · refine lv_iconst (v := 0) hx hb dX9_copy_200 (by decide) ?_
                      refine pg_put (ci := 8) (v := .int 0) (ty := .int) (C := RX9) (T := TX9) (N := 20) hx hb hts hinX9 tyX9 tyX9_ok nmX9 hown hK hP hD hS hmo hFo_82 rfl 17 (by decide) (hts (.fieldLink RX9 65 "RopeDrumsModel" "failed" "I") (by decide +kernel)) (fun _ h9 => h9) rfl (by decide +kernel) (rfl) (rfl) (Nat.le_of_ble_eq_true rfl) dX9_copy_201 (fun H locs F87 eF87 hP hS => ?_)
                      have eF87 : F87 = va_up F82 o (.inr (8, [.int 0, .ref (qm 0), .ref (qm 1), .ref (qm 2), .ref (qm 3), .ref (qm 4), .ref (qm 5), .ref (qm 6), .ref (qm 7), .int Pp.1, .ref (qm 8), .ref (qm 9), .ref (qm 10), .ref (qm 11), .ref (qm 12), .ref (qm 13), .ref (qm 14), .int 0, .ref (qm 15), .long oc])) := eF87
                      have hFo_87 : F87 o = .inr (8, [.int 0, .ref (qm 0), .ref (qm 1), .ref (qm 2), .ref (qm 3), .ref (qm 4), .ref (qm 5), .ref (qm 6), .ref (qm 7), .int Pp.1, .ref (qm 8), .ref (qm 9), .ref (qm 10), .ref (qm 11), .ref (qm 12), .ref (qm 13), .ref (qm 14), .int 0, .ref (qm 15), .long oc]) := by rw [eF87]; exact va_up_self _ _ _
                      have hFqm0_87 : F87 (qm 0) = cI (cy 1) 10 Mm.1 := by rw [eF87, va_up_ne _ _ (pl_ne hFqm0_82 hFo_82 rfl)]; exact hFqm0_82
                      have hFqm1_87 : F87 (qm 1) = cJ (cy 2) 10 Mm.2 := by rw [eF87, va_up_ne _ _ (pl_ne hFqm1_82 hFo_82 rfl)]; exact hFqm1_82
                      have hFqm2_87 : F87 (qm 2) = cD (cy 0) 6 Dd.1 := by rw [eF87, va_up_ne _ _ (pl_ne hFqm2_82 hFo_82 rfl)]; exact hFqm2_82
                      have hFqm3_87 : F87 (qm 3) = cD (cy 0) 6 Dd.2.1 := by rw [eF87, va_up_ne _ _ (pl_ne hFqm3_82 hFo_82 rfl)]; exact hFqm3_82
                      have hFqm4_87 : F87 (qm 4) = cD (cy 0) 6 Dd.2.2.1 := by rw [eF87, va_up_ne _ _ (pl_ne hFqm4_82 hFo_82 rfl)]; exact hFqm4_82
                      have hFqm5_87 : F87 (qm 5) = cJ (cy 2) 6 Dd.2.2.2 := by rw [eF87, va_up_ne _ _ (pl_ne hFqm5_82 hFo_82 rfl)]; exact hFqm5_82
                      have hFqm6_87 : F87 (qm 6) = cI (cy 1) 8 Sl.1 := by rw [eF87, va_up_ne _ _ (pl_ne hFqm6_82 hFo_82 rfl)]; exact hFqm6_82
                      have hFqm7_87 : F87 (qm 7) = cJ (cy 2) 128 (cpy Sl j_dd j_ff kk) := by rw [eF87, va_up_ne _ _ (pl_ne hFqm7_82 hFo_82 rfl)]; exact hFqm7_82
                      have hFqm8_87 : F87 (qm 8) = cI (cy 1) 30 Pp.2.1 := by rw [eF87, va_up_ne _ _ (pl_ne hFqm8_82 hFo_82 rfl)]; exact hFqm8_82
                      have hFqm9_87 : F87 (qm 9) = cI (cy 3) 30 Pp.2.2 := by rw [eF87, va_up_ne _ _ (pl_ne hFqm9_82 hFo_82 rfl)]; exact hFqm9_82
                      have hFqm10_87 : F87 (qm 10) = cI (cy 1) 5 Kr.1 := by rw [eF87, va_up_ne _ _ (pl_ne hFqm10_82 hFo_82 rfl)]; exact hFqm10_82
                      have hFqm11_87 : F87 (qm 11) = cI (cy 3) 5 Kr.2.1 := by rw [eF87, va_up_ne _ _ (pl_ne hFqm11_82 hFo_82 rfl)]; exact hFqm11_82
                      have hFqm12_87 : F87 (qm 12) = cI (cy 1) 60 Kr.2.2 := by rw [eF87, va_up_ne _ _ (pl_ne hFqm12_82 hFo_82 rfl)]; exact hFqm12_82
                      have hFqm13_87 : F87 (qm 13) = cI (cy 1) 4 Bk.1 := by rw [eF87, va_up_ne _ _ (pl_ne hFqm13_82 hFo_82 rfl)]; exact hFqm13_82
                      have hFqm14_87 : F87 (qm 14) = cD (cy 0) 4 Bk.2 := by rw [eF87, va_up_ne _ _ (pl_ne hFqm14_82 hFo_82 rfl)]; exact hFqm14_82
                      have hFqm15_87 : F87 (qm 15) = cI (cy 1) 6 Xx.2 := by rw [eF87, va_up_ne _ _ (pl_ne hFqm15_82 hFo_82 rfl)]; exact hFqm15_82
                      refine lv_aload_n hx hb dX9_copy_204 rfl (lv_at hl 1 rfl) ?_
                      refine pg_get (ci := 8) (C := RX9) (T := TX9) (N := 20) hx hb hts hinX9 hown hK hP hmo hFo_87 rfl 18 (by decide) (hts (.fieldLink RX9 58 "RopeDrumsModel" "counted" "[I") (by decide +kernel)) (fun _ h9 => h9) rfl dX9_copy_205 ?_
                      refine lv_iconst (v := 2) hx hb dX9_copy_208 (by decide) ?_
                      refine lv_dup2_11 hx hb dX9_copy_209 rfl rfl ?_
                      refine pg_iald hx hb hK hP 1 hm15 hFqm15_87 rfl (vp_in_nI (n := 2) (N := 6) (by decide) (by decide)) dX9_copy_210 ?_
                      refine lv_topi (fun v88 ev88 => ?_)
                      refine lv_aload_n hx hb dX9_copy_211 rfl (lv_at hl 1 rfl) ?_
                      refine pg_get (ci := 8) (C := RX9) (T := TX9) (N := 20) hx hb hts hinX9 hown hK hP hmo hFo_87 rfl 17 (by decide) (hts (.fieldLink RX9 65 "RopeDrumsModel" "failed" "I") (by decide +kernel)) (fun _ h9 => h9) rfl dX9_copy_212 ?_
                      refine lv_if_le (tgt := 222) hx hb dX9_copy_215 (by decide) (fun c89 => ?_) (fun c89 => absurd (by decide) c89)
                      refine lv_iconst (v := 0) hx hb dX9_copy_222 (by decide) ?_
                      refine lv_iadd hx hb dX9_copy_223 ?_
                      refine lv_topi (fun v90 ev90 => ?_)
                      refine pg_iast hx hb hK hP hD hS 1 hm15 hFqm15_87 rfl (vp_in_nI (n := 2) (N := 6) (by decide) (by decide)) dX9_copy_224 (fun H locs F91 eF91 hP hS => ?_)
                      have hFo_91 : F91 o = .inr (8, [.int 0, .ref (qm 0), .ref (qm 1), .ref (qm 2), .ref (qm 3), .ref (qm 4), .ref (qm 5), .ref (qm 6), .ref (qm 7), .int Pp.1, .ref (qm 8), .ref (qm 9), .ref (qm 10), .ref (qm 11), .ref (qm 12), .ref (qm 13), .ref (qm 14), .int 0, .ref (qm 15), .long oc]) := by rw [eF91, va_up_ne _ _ (pl_ne hFo_87 hFqm15_87 rfl)]; exact hFo_87
                      have hFqm0_91 : F91 (qm 0) = cI (cy 1) 10 Mm.1 := by rw [eF91, va_up_ne _ _ (pl_ne hFqm0_87 hFqm15_87 rfl)]; exact hFqm0_87
                      have hFqm1_91 : F91 (qm 1) = cJ (cy 2) 10 Mm.2 := by rw [eF91, va_up_ne _ _ (pl_ne hFqm1_87 hFqm15_87 rfl)]; exact hFqm1_87
                      have hFqm2_91 : F91 (qm 2) = cD (cy 0) 6 Dd.1 := by rw [eF91, va_up_ne _ _ (pl_ne hFqm2_87 hFqm15_87 rfl)]; exact hFqm2_87
                      have hFqm3_91 : F91 (qm 3) = cD (cy 0) 6 Dd.2.1 := by rw [eF91, va_up_ne _ _ (pl_ne hFqm3_87 hFqm15_87 rfl)]; exact hFqm3_87
                      have hFqm4_91 : F91 (qm 4) = cD (cy 0) 6 Dd.2.2.1 := by rw [eF91, va_up_ne _ _ (pl_ne hFqm4_87 hFqm15_87 rfl)]; exact hFqm4_87
                      have hFqm5_91 : F91 (qm 5) = cJ (cy 2) 6 Dd.2.2.2 := by rw [eF91, va_up_ne _ _ (pl_ne hFqm5_87 hFqm15_87 rfl)]; exact hFqm5_87
                      have hFqm6_91 : F91 (qm 6) = cI (cy 1) 8 Sl.1 := by rw [eF91, va_up_ne _ _ (pl_ne hFqm6_87 hFqm15_87 rfl)]; exact hFqm6_87
                      have hFqm7_91 : F91 (qm 7) = cJ (cy 2) 128 (cpy Sl j_dd j_ff kk) := by rw [eF91, va_up_ne _ _ (pl_ne hFqm7_87 hFqm15_87 rfl)]; exact hFqm7_87
                      have hFqm8_91 : F91 (qm 8) = cI (cy 1) 30 Pp.2.1 := by rw [eF91, va_up_ne _ _ (pl_ne hFqm8_87 hFqm15_87 rfl)]; exact hFqm8_87
                      have hFqm9_91 : F91 (qm 9) = cI (cy 3) 30 Pp.2.2 := by rw [eF91, va_up_ne _ _ (pl_ne hFqm9_87 hFqm15_87 rfl)]; exact hFqm9_87
                      have hFqm10_91 : F91 (qm 10) = cI (cy 1) 5 Kr.1 := by rw [eF91, va_up_ne _ _ (pl_ne hFqm10_87 hFqm15_87 rfl)]; exact hFqm10_87
                      have hFqm11_91 : F91 (qm 11) = cI (cy 3) 5 Kr.2.1 := by rw [eF91, va_up_ne _ _ (pl_ne hFqm11_87 hFqm15_87 rfl)]; exact hFqm11_87
                      have hFqm12_91 : F91 (qm 12) = cI (cy 1) 60 Kr.2.2 := by rw [eF91, va_up_ne _ _ (pl_ne hFqm12_87 hFqm15_87 rfl)]; exact hFqm12_87
                      have hFqm13_91 : F91 (qm 13) = cI (cy 1) 4 Bk.1 := by rw [eF91, va_up_ne _ _ (pl_ne hFqm13_87 hFqm15_87 rfl)]; exact hFqm13_87
                      have hFqm14_91 : F91 (qm 14) = cD (cy 0) 4 Bk.2 := by rw [eF91, va_up_ne _ _ (pl_ne hFqm14_87 hFqm15_87 rfl)]; exact hFqm14_87
                      have hFqm15_91 : F91 (qm 15) = cI (cy 1) 6 (upd Xx.2 (2 : Int32).toNatClampNeg v90) := by rw [eF91]; exact va_up_self _ _ _
                      refine lv_iload hx hb dX9_copy_225 (lv_at hl 0 rfl) ?_
                      exact W.iret (v := nI kk) hx hb hr (fun t ht hW => ⟨⟨nI kk, F91, rfl, (by subst ev90 ev88 ev85 ev83; have hc66 := c30; have hc76 := c36; have hc193 := c86; have hc87 := c79; have hmn : mn (Sl.1 j_dd) (Sl.1 j_ff) = nI kk := (by have hd := hc87; rw [fa_eq] at hd; rw [fa_eq] at hc66; rw [fa_le] at hc76; rw [fa_le, nI_toInt (by omega)] at hc193; unfold mn; rw [fa_eq, nI_toInt (by omega)]; split; (rename_i hq; rw [fa_lt] at hq; omega); rename_i hq; rw [fa_lt] at hq; omega); rw [updid0] at hFqm15_91; have hsp : sp_copy Sl Xx (nI j_dd) (nI j_ff) bk = (nI kk, (Sl.1, cpy Sl j_dd j_ff kk), goodX Xx) := (by unfold sp_copy; rw [hi_dd, hi_ff]; refine (if_pos ⟨hd4, hf4⟩).trans ((if_pos hbk).trans ?_); unfold cp; rw [if_neg hc66, if_neg (fun q => hc76 (by rw [q]; decide)), if_neg hc87, hmn, nI_tn (by omega), if_neg (by rw [fa_lt]; rw [fa_le] at hc193; omega)]); rw [hsp]; exact ⟨rfl, (by exact ⟨⟨_, _, hmo, hFo_91⟩, ⟨hm0, hFqm0_91⟩, ⟨hm1, hFqm1_91⟩, ⟨hm2, hFqm2_91⟩, ⟨hm3, hFqm3_91⟩, ⟨hm4, hFqm4_91⟩, ⟨hm5, hFqm5_91⟩, ⟨hm6, hFqm6_91⟩, ⟨hm7, hFqm7_91⟩, ⟨hm8, hFqm8_91⟩, ⟨hm9, hFqm9_91⟩, ⟨hm10, hFqm10_91⟩, ⟨hm11, hFqm11_91⟩, ⟨hm12, hFqm12_91⟩, ⟨hm13, hFqm13_91⟩, ⟨hm14, hFqm14_91⟩, ⟨hm15, hFqm15_91⟩, hne⟩)⟩), (by show va_P _ _ _ t.heap; rw [ht]; exact hP)⟩, hS.F ht⟩) hS.2.2 dX9_copy_227
                    · refine lv_iconst (v := 2) hx hb dX9_copy_196 (by decide) ?_
                      refine lv_goto (tgt := 201) hx hb dX9_copy_197 (by decide) ?_
                      refine pg_put (ci := 8) (v := .int 2) (ty := .int) (C := RX9) (T := TX9) (N := 20) hx hb hts hinX9 tyX9 tyX9_ok nmX9 hown hK hP hD hS hmo hFo_82 rfl 17 (by decide) (hts (.fieldLink RX9 65 "RopeDrumsModel" "failed" "I") (by decide +kernel)) (fun _ h9 => h9) rfl (by decide +kernel) (rfl) (rfl) (Nat.le_of_ble_eq_true rfl) dX9_copy_201 (fun H locs F92 eF92 hP hS => ?_)
                      have eF92 : F92 = va_up F82 o (.inr (8, [.int 0, .ref (qm 0), .ref (qm 1), .ref (qm 2), .ref (qm 3), .ref (qm 4), .ref (qm 5), .ref (qm 6), .ref (qm 7), .int Pp.1, .ref (qm 8), .ref (qm 9), .ref (qm 10), .ref (qm 11), .ref (qm 12), .ref (qm 13), .ref (qm 14), .int 2, .ref (qm 15), .long oc])) := eF92
                      have hFo_92 : F92 o = .inr (8, [.int 0, .ref (qm 0), .ref (qm 1), .ref (qm 2), .ref (qm 3), .ref (qm 4), .ref (qm 5), .ref (qm 6), .ref (qm 7), .int Pp.1, .ref (qm 8), .ref (qm 9), .ref (qm 10), .ref (qm 11), .ref (qm 12), .ref (qm 13), .ref (qm 14), .int 2, .ref (qm 15), .long oc]) := by rw [eF92]; exact va_up_self _ _ _
                      have hFqm0_92 : F92 (qm 0) = cI (cy 1) 10 Mm.1 := by rw [eF92, va_up_ne _ _ (pl_ne hFqm0_82 hFo_82 rfl)]; exact hFqm0_82
                      have hFqm1_92 : F92 (qm 1) = cJ (cy 2) 10 Mm.2 := by rw [eF92, va_up_ne _ _ (pl_ne hFqm1_82 hFo_82 rfl)]; exact hFqm1_82
                      have hFqm2_92 : F92 (qm 2) = cD (cy 0) 6 Dd.1 := by rw [eF92, va_up_ne _ _ (pl_ne hFqm2_82 hFo_82 rfl)]; exact hFqm2_82
                      have hFqm3_92 : F92 (qm 3) = cD (cy 0) 6 Dd.2.1 := by rw [eF92, va_up_ne _ _ (pl_ne hFqm3_82 hFo_82 rfl)]; exact hFqm3_82
                      have hFqm4_92 : F92 (qm 4) = cD (cy 0) 6 Dd.2.2.1 := by rw [eF92, va_up_ne _ _ (pl_ne hFqm4_82 hFo_82 rfl)]; exact hFqm4_82
                      have hFqm5_92 : F92 (qm 5) = cJ (cy 2) 6 Dd.2.2.2 := by rw [eF92, va_up_ne _ _ (pl_ne hFqm5_82 hFo_82 rfl)]; exact hFqm5_82
                      have hFqm6_92 : F92 (qm 6) = cI (cy 1) 8 Sl.1 := by rw [eF92, va_up_ne _ _ (pl_ne hFqm6_82 hFo_82 rfl)]; exact hFqm6_82
                      have hFqm7_92 : F92 (qm 7) = cJ (cy 2) 128 (cpy Sl j_dd j_ff kk) := by rw [eF92, va_up_ne _ _ (pl_ne hFqm7_82 hFo_82 rfl)]; exact hFqm7_82
                      have hFqm8_92 : F92 (qm 8) = cI (cy 1) 30 Pp.2.1 := by rw [eF92, va_up_ne _ _ (pl_ne hFqm8_82 hFo_82 rfl)]; exact hFqm8_82
                      have hFqm9_92 : F92 (qm 9) = cI (cy 3) 30 Pp.2.2 := by rw [eF92, va_up_ne _ _ (pl_ne hFqm9_82 hFo_82 rfl)]; exact hFqm9_82
                      have hFqm10_92 : F92 (qm 10) = cI (cy 1) 5 Kr.1 := by rw [eF92, va_up_ne _ _ (pl_ne hFqm10_82 hFo_82 rfl)]; exact hFqm10_82
                      have hFqm11_92 : F92 (qm 11) = cI (cy 3) 5 Kr.2.1 := by rw [eF92, va_up_ne _ _ (pl_ne hFqm11_82 hFo_82 rfl)]; exact hFqm11_82
                      have hFqm12_92 : F92 (qm 12) = cI (cy 1) 60 Kr.2.2 := by rw [eF92, va_up_ne _ _ (pl_ne hFqm12_82 hFo_82 rfl)]; exact hFqm12_82
                      have hFqm13_92 : F92 (qm 13) = cI (cy 1) 4 Bk.1 := by rw [eF92, va_up_ne _ _ (pl_ne hFqm13_82 hFo_82 rfl)]; exact hFqm13_82
                      have hFqm14_92 : F92 (qm 14) = cD (cy 0) 4 Bk.2 := by rw [eF92, va_up_ne _ _ (pl_ne hFqm14_82 hFo_82 rfl)]; exact hFqm14_82
                      have hFqm15_92 : F92 (qm 15) = cI (cy 1) 6 Xx.2 := by rw [eF92, va_up_ne _ _ (pl_ne hFqm15_82 hFo_82 rfl)]; exact hFqm15_82
                      refine lv_aload_n hx hb dX9_copy_204 rfl (lv_at hl 1 rfl) ?_
                      refine pg_get (ci := 8) (C := RX9) (T := TX9) (N := 20) hx hb hts hinX9 hown hK hP hmo hFo_92 rfl 18 (by decide) (hts (.fieldLink RX9 58 "RopeDrumsModel" "counted" "[I") (by decide +kernel)) (fun _ h9 => h9) rfl dX9_copy_205 ?_
                      refine lv_iconst (v := 2) hx hb dX9_copy_208 (by decide) ?_
                      refine lv_dup2_11 hx hb dX9_copy_209 rfl rfl ?_
                      refine pg_iald hx hb hK hP 1 hm15 hFqm15_92 rfl (vp_in_nI (n := 2) (N := 6) (by decide) (by decide)) dX9_copy_210 ?_
                      refine lv_topi (fun v93 ev93 => ?_)
                      refine lv_aload_n hx hb dX9_copy_211 rfl (lv_at hl 1 rfl) ?_
                      refine pg_get (ci := 8) (C := RX9) (T := TX9) (N := 20) hx hb hts hinX9 hown hK hP hmo hFo_92 rfl 17 (by decide) (hts (.fieldLink RX9 65 "RopeDrumsModel" "failed" "I") (by decide +kernel)) (fun _ h9 => h9) rfl dX9_copy_212 ?_
                      refine lv_if_le (tgt := 222) hx hb dX9_copy_215 (by decide) (fun c94 => absurd c94 (by decide)) (fun c94 => ?_)
                      refine lv_iconst (v := 1) hx hb dX9_copy_218 (by decide) ?_
                      refine lv_goto (tgt := 223) hx hb dX9_copy_219 (by decide) ?_
                      refine lv_iadd hx hb dX9_copy_223 ?_
                      refine lv_topi (fun v95 ev95 => ?_)
                      refine pg_iast hx hb hK hP hD hS 1 hm15 hFqm15_92 rfl (vp_in_nI (n := 2) (N := 6) (by decide) (by decide)) dX9_copy_224 (fun H locs F96 eF96 hP hS => ?_)
                      have hFo_96 : F96 o = .inr (8, [.int 0, .ref (qm 0), .ref (qm 1), .ref (qm 2), .ref (qm 3), .ref (qm 4), .ref (qm 5), .ref (qm 6), .ref (qm 7), .int Pp.1, .ref (qm 8), .ref (qm 9), .ref (qm 10), .ref (qm 11), .ref (qm 12), .ref (qm 13), .ref (qm 14), .int 2, .ref (qm 15), .long oc]) := by rw [eF96, va_up_ne _ _ (pl_ne hFo_92 hFqm15_92 rfl)]; exact hFo_92
                      have hFqm0_96 : F96 (qm 0) = cI (cy 1) 10 Mm.1 := by rw [eF96, va_up_ne _ _ (pl_ne hFqm0_92 hFqm15_92 rfl)]; exact hFqm0_92
                      have hFqm1_96 : F96 (qm 1) = cJ (cy 2) 10 Mm.2 := by rw [eF96, va_up_ne _ _ (pl_ne hFqm1_92 hFqm15_92 rfl)]; exact hFqm1_92
                      have hFqm2_96 : F96 (qm 2) = cD (cy 0) 6 Dd.1 := by rw [eF96, va_up_ne _ _ (pl_ne hFqm2_92 hFqm15_92 rfl)]; exact hFqm2_92
                      have hFqm3_96 : F96 (qm 3) = cD (cy 0) 6 Dd.2.1 := by rw [eF96, va_up_ne _ _ (pl_ne hFqm3_92 hFqm15_92 rfl)]; exact hFqm3_92
                      have hFqm4_96 : F96 (qm 4) = cD (cy 0) 6 Dd.2.2.1 := by rw [eF96, va_up_ne _ _ (pl_ne hFqm4_92 hFqm15_92 rfl)]; exact hFqm4_92
                      have hFqm5_96 : F96 (qm 5) = cJ (cy 2) 6 Dd.2.2.2 := by rw [eF96, va_up_ne _ _ (pl_ne hFqm5_92 hFqm15_92 rfl)]; exact hFqm5_92
                      have hFqm6_96 : F96 (qm 6) = cI (cy 1) 8 Sl.1 := by rw [eF96, va_up_ne _ _ (pl_ne hFqm6_92 hFqm15_92 rfl)]; exact hFqm6_92
                      have hFqm7_96 : F96 (qm 7) = cJ (cy 2) 128 (cpy Sl j_dd j_ff kk) := by rw [eF96, va_up_ne _ _ (pl_ne hFqm7_92 hFqm15_92 rfl)]; exact hFqm7_92
                      have hFqm8_96 : F96 (qm 8) = cI (cy 1) 30 Pp.2.1 := by rw [eF96, va_up_ne _ _ (pl_ne hFqm8_92 hFqm15_92 rfl)]; exact hFqm8_92
                      have hFqm9_96 : F96 (qm 9) = cI (cy 3) 30 Pp.2.2 := by rw [eF96, va_up_ne _ _ (pl_ne hFqm9_92 hFqm15_92 rfl)]; exact hFqm9_92
                      have hFqm10_96 : F96 (qm 10) = cI (cy 1) 5 Kr.1 := by rw [eF96, va_up_ne _ _ (pl_ne hFqm10_92 hFqm15_92 rfl)]; exact hFqm10_92
                      have hFqm11_96 : F96 (qm 11) = cI (cy 3) 5 Kr.2.1 := by rw [eF96, va_up_ne _ _ (pl_ne hFqm11_92 hFqm15_92 rfl)]; exact hFqm11_92
                      have hFqm12_96 : F96 (qm 12) = cI (cy 1) 60 Kr.2.2 := by rw [eF96, va_up_ne _ _ (pl_ne hFqm12_92 hFqm15_92 rfl)]; exact hFqm12_92
                      have hFqm13_96 : F96 (qm 13) = cI (cy 1) 4 Bk.1 := by rw [eF96, va_up_ne _ _ (pl_ne hFqm13_92 hFqm15_92 rfl)]; exact hFqm13_92
                      have hFqm14_96 : F96 (qm 14) = cD (cy 0) 4 Bk.2 := by rw [eF96, va_up_ne _ _ (pl_ne hFqm14_92 hFqm15_92 rfl)]; exact hFqm14_92
                      have hFqm15_96 : F96 (qm 15) = cI (cy 1) 6 (upd Xx.2 (2 : Int32).toNatClampNeg v95) := by rw [eF96]; exact va_up_self _ _ _
                      refine lv_iload hx hb dX9_copy_225 (lv_at hl 0 rfl) ?_
                      exact W.iret (v := nI kk) hx hb hr (fun t ht hW => ⟨⟨nI kk, F96, rfl, (by subst ev95 ev93 ev85 ev83; have hc66 := c30; have hc76 := c36; have hc193 := c86; have hc87 := c79; have hmn : mn (Sl.1 j_dd) (Sl.1 j_ff) = nI kk := (by have hd := hc87; rw [fa_eq] at hd; rw [fa_eq] at hc66; rw [fa_le] at hc76; rw [fa_le, nI_toInt (by omega)] at hc193; unfold mn; rw [fa_eq, nI_toInt (by omega)]; split; (rename_i hq; rw [fa_lt] at hq; omega); rename_i hq; rw [fa_lt] at hq; omega); have hsp : sp_copy Sl Xx (nI j_dd) (nI j_ff) bk = (nI kk, (Sl.1, cpy Sl j_dd j_ff kk), failX Xx 2) := (by unfold sp_copy; rw [hi_dd, hi_ff]; refine (if_pos ⟨hd4, hf4⟩).trans ((if_pos hbk).trans ?_); unfold cp; rw [if_neg hc66, if_neg (fun q => hc76 (by rw [q]; decide)), if_neg hc87, hmn, nI_tn (by omega), if_pos (by rw [fa_lt]; rw [fa_le] at hc193; omega)]); rw [hsp]; exact ⟨rfl, (by exact ⟨⟨_, _, hmo, hFo_96⟩, ⟨hm0, hFqm0_96⟩, ⟨hm1, hFqm1_96⟩, ⟨hm2, hFqm2_96⟩, ⟨hm3, hFqm3_96⟩, ⟨hm4, hFqm4_96⟩, ⟨hm5, hFqm5_96⟩, ⟨hm6, hFqm6_96⟩, ⟨hm7, hFqm7_96⟩, ⟨hm8, hFqm8_96⟩, ⟨hm9, hFqm9_96⟩, ⟨hm10, hFqm10_96⟩, ⟨hm11, hFqm11_96⟩, ⟨hm12, hFqm12_96⟩, ⟨hm13, hFqm13_96⟩, ⟨hm14, hFqm14_96⟩, ⟨hm15, hFqm15_96⟩, hne⟩)⟩), (by show va_P _ _ _ t.heap; rw [ht]; exact hP)⟩, hS.F ht⟩) hS.2.2 dX9_copy_227
                  · have hlt1 : (kk : Int) < (Sl.1 j_dd).toInt := by have hc := c84; rw [ev83, fa_le, nI_toInt (by omega)] at hc; omega
                    refine lv_iload hx hb dX9_copy_126 (lv_at hl 0 rfl) ?_
                    refine lv_aload_n hx hb dX9_copy_128 rfl (lv_at hl 1 rfl) ?_
                    refine pg_get (ci := 8) (C := RX9) (T := TX9) (N := 20) hx hb hts hinX9 hown hK hP hmo hFo_82 rfl 7 (by decide) (hts (.fieldLink RX9 30 "RopeDrumsModel" "logSize" "[I") (by decide +kernel)) (fun _ h9 => h9) rfl dX9_copy_129 ?_
                    refine lv_iload hx hb dX9_copy_132 (lv_at hl 3 rfl) ?_
                    refine pg_iald hx hb hK hP 1 hm6 hFqm6_82 rfl (vp_in_nI (by omega) (by decide)) dX9_copy_134 ?_
                    refine lv_topi (fun v97 ev97 => ?_)
                    rw [nI_clamp (by omega)] at ev97
                    refine lv_icmp_ge (tgt := 183) hx hb dX9_copy_135 (by decide) (fun c98 => ?_) (fun c98 => ?_)
                    · have hex : (Sl.1 j_ff).toInt ≤ (kk : Int) := by have hc := c98; rw [ev97, fa_le, nI_toInt (by omega)] at hc; omega
                      refine lv_aload_n hx hb dX9_copy_183 rfl (lv_at hl 1 rfl) ?_
                      refine lv_iload hx hb dX9_copy_184 (lv_at hl 0 rfl) ?_
                      refine lv_aload_n hx hb dX9_copy_186 rfl (lv_at hl 1 rfl) ?_
                      refine pg_get (ci := 8) (C := RX9) (T := TX9) (N := 20) hx hb hts hinX9 hown hK hP hmo hFo_82 rfl 7 (by decide) (hts (.fieldLink RX9 30 "RopeDrumsModel" "logSize" "[I") (by decide +kernel)) (fun _ h9 => h9) rfl dX9_copy_187 ?_
                      refine lv_iload hx hb dX9_copy_190 (lv_at hl 2 rfl) ?_
                      refine pg_iald hx hb hK hP 1 hm6 hFqm6_82 rfl (vp_in_nI (by omega) (by decide)) dX9_copy_192 ?_
                      refine lv_topi (fun v99 ev99 => ?_)
                      rw [nI_clamp (by omega)] at ev99
                      refine lv_icmp_ge (tgt := 200) hx hb dX9_copy_193 (by decide) (fun c100 => ?_) (fun c100 => ?_)
                      · refine lv_iconst (v := 0) hx hb dX9_copy_200 (by decide) ?_
                        refine pg_put (ci := 8) (v := .int 0) (ty := .int) (C := RX9) (T := TX9) (N := 20) hx hb hts hinX9 tyX9 tyX9_ok nmX9 hown hK hP hD hS hmo hFo_82 rfl 17 (by decide) (hts (.fieldLink RX9 65 "RopeDrumsModel" "failed" "I") (by decide +kernel)) (fun _ h9 => h9) rfl (by decide +kernel) (rfl) (rfl) (Nat.le_of_ble_eq_true rfl) dX9_copy_201 (fun H locs F101 eF101 hP hS => ?_)
                        have eF101 : F101 = va_up F82 o (.inr (8, [.int 0, .ref (qm 0), .ref (qm 1), .ref (qm 2), .ref (qm 3), .ref (qm 4), .ref (qm 5), .ref (qm 6), .ref (qm 7), .int Pp.1, .ref (qm 8), .ref (qm 9), .ref (qm 10), .ref (qm 11), .ref (qm 12), .ref (qm 13), .ref (qm 14), .int 0, .ref (qm 15), .long oc])) := eF101
                        have hFo_101 : F101 o = .inr (8, [.int 0, .ref (qm 0), .ref (qm 1), .ref (qm 2), .ref (qm 3), .ref (qm 4), .ref (qm 5), .ref (qm 6), .ref (qm 7), .int Pp.1, .ref (qm 8), .ref (qm 9), .ref (qm 10), .ref (qm 11), .ref (qm 12), .ref (qm 13), .ref (qm 14), .int 0, .ref (qm 15), .long oc]) := by rw [eF101]; exact va_up_self _ _ _
                        have hFqm0_101 : F101 (qm 0) = cI (cy 1) 10 Mm.1 := by rw [eF101, va_up_ne _ _ (pl_ne hFqm0_82 hFo_82 rfl)]; exact hFqm0_82
                        have hFqm1_101 : F101 (qm 1) = cJ (cy 2) 10 Mm.2 := by rw [eF101, va_up_ne _ _ (pl_ne hFqm1_82 hFo_82 rfl)]; exact hFqm1_82
                        have hFqm2_101 : F101 (qm 2) = cD (cy 0) 6 Dd.1 := by rw [eF101, va_up_ne _ _ (pl_ne hFqm2_82 hFo_82 rfl)]; exact hFqm2_82
                        have hFqm3_101 : F101 (qm 3) = cD (cy 0) 6 Dd.2.1 := by rw [eF101, va_up_ne _ _ (pl_ne hFqm3_82 hFo_82 rfl)]; exact hFqm3_82
                        have hFqm4_101 : F101 (qm 4) = cD (cy 0) 6 Dd.2.2.1 := by rw [eF101, va_up_ne _ _ (pl_ne hFqm4_82 hFo_82 rfl)]; exact hFqm4_82
                        have hFqm5_101 : F101 (qm 5) = cJ (cy 2) 6 Dd.2.2.2 := by rw [eF101, va_up_ne _ _ (pl_ne hFqm5_82 hFo_82 rfl)]; exact hFqm5_82
                        have hFqm6_101 : F101 (qm 6) = cI (cy 1) 8 Sl.1 := by rw [eF101, va_up_ne _ _ (pl_ne hFqm6_82 hFo_82 rfl)]; exact hFqm6_82
                        have hFqm7_101 : F101 (qm 7) = cJ (cy 2) 128 (cpy Sl j_dd j_ff kk) := by rw [eF101, va_up_ne _ _ (pl_ne hFqm7_82 hFo_82 rfl)]; exact hFqm7_82
                        have hFqm8_101 : F101 (qm 8) = cI (cy 1) 30 Pp.2.1 := by rw [eF101, va_up_ne _ _ (pl_ne hFqm8_82 hFo_82 rfl)]; exact hFqm8_82
                        have hFqm9_101 : F101 (qm 9) = cI (cy 3) 30 Pp.2.2 := by rw [eF101, va_up_ne _ _ (pl_ne hFqm9_82 hFo_82 rfl)]; exact hFqm9_82
                        have hFqm10_101 : F101 (qm 10) = cI (cy 1) 5 Kr.1 := by rw [eF101, va_up_ne _ _ (pl_ne hFqm10_82 hFo_82 rfl)]; exact hFqm10_82
                        have hFqm11_101 : F101 (qm 11) = cI (cy 3) 5 Kr.2.1 := by rw [eF101, va_up_ne _ _ (pl_ne hFqm11_82 hFo_82 rfl)]; exact hFqm11_82
                        have hFqm12_101 : F101 (qm 12) = cI (cy 1) 60 Kr.2.2 := by rw [eF101, va_up_ne _ _ (pl_ne hFqm12_82 hFo_82 rfl)]; exact hFqm12_82
                        have hFqm13_101 : F101 (qm 13) = cI (cy 1) 4 Bk.1 := by rw [eF101, va_up_ne _ _ (pl_ne hFqm13_82 hFo_82 rfl)]; exact hFqm13_82
                        have hFqm14_101 : F101 (qm 14) = cD (cy 0) 4 Bk.2 := by rw [eF101, va_up_ne _ _ (pl_ne hFqm14_82 hFo_82 rfl)]; exact hFqm14_82
                        have hFqm15_101 : F101 (qm 15) = cI (cy 1) 6 Xx.2 := by rw [eF101, va_up_ne _ _ (pl_ne hFqm15_82 hFo_82 rfl)]; exact hFqm15_82
                        refine lv_aload_n hx hb dX9_copy_204 rfl (lv_at hl 1 rfl) ?_
                        refine pg_get (ci := 8) (C := RX9) (T := TX9) (N := 20) hx hb hts hinX9 hown hK hP hmo hFo_101 rfl 18 (by decide) (hts (.fieldLink RX9 58 "RopeDrumsModel" "counted" "[I") (by decide +kernel)) (fun _ h9 => h9) rfl dX9_copy_205 ?_
                        refine lv_iconst (v := 2) hx hb dX9_copy_208 (by decide) ?_
                        refine lv_dup2_11 hx hb dX9_copy_209 rfl rfl ?_
                        refine pg_iald hx hb hK hP 1 hm15 hFqm15_101 rfl (vp_in_nI (n := 2) (N := 6) (by decide) (by decide)) dX9_copy_210 ?_
                        refine lv_topi (fun v102 ev102 => ?_)
                        refine lv_aload_n hx hb dX9_copy_211 rfl (lv_at hl 1 rfl) ?_
                        refine pg_get (ci := 8) (C := RX9) (T := TX9) (N := 20) hx hb hts hinX9 hown hK hP hmo hFo_101 rfl 17 (by decide) (hts (.fieldLink RX9 65 "RopeDrumsModel" "failed" "I") (by decide +kernel)) (fun _ h9 => h9) rfl dX9_copy_212 ?_
                        refine lv_if_le (tgt := 222) hx hb dX9_copy_215 (by decide) (fun c103 => ?_) (fun c103 => absurd (by decide) c103)
                        refine lv_iconst (v := 0) hx hb dX9_copy_222 (by decide) ?_
                        refine lv_iadd hx hb dX9_copy_223 ?_
                        refine lv_topi (fun v104 ev104 => ?_)
                        refine pg_iast hx hb hK hP hD hS 1 hm15 hFqm15_101 rfl (vp_in_nI (n := 2) (N := 6) (by decide) (by decide)) dX9_copy_224 (fun H locs F105 eF105 hP hS => ?_)
                        have hFo_105 : F105 o = .inr (8, [.int 0, .ref (qm 0), .ref (qm 1), .ref (qm 2), .ref (qm 3), .ref (qm 4), .ref (qm 5), .ref (qm 6), .ref (qm 7), .int Pp.1, .ref (qm 8), .ref (qm 9), .ref (qm 10), .ref (qm 11), .ref (qm 12), .ref (qm 13), .ref (qm 14), .int 0, .ref (qm 15), .long oc]) := by rw [eF105, va_up_ne _ _ (pl_ne hFo_101 hFqm15_101 rfl)]; exact hFo_101
                        have hFqm0_105 : F105 (qm 0) = cI (cy 1) 10 Mm.1 := by rw [eF105, va_up_ne _ _ (pl_ne hFqm0_101 hFqm15_101 rfl)]; exact hFqm0_101
                        have hFqm1_105 : F105 (qm 1) = cJ (cy 2) 10 Mm.2 := by rw [eF105, va_up_ne _ _ (pl_ne hFqm1_101 hFqm15_101 rfl)]; exact hFqm1_101
                        have hFqm2_105 : F105 (qm 2) = cD (cy 0) 6 Dd.1 := by rw [eF105, va_up_ne _ _ (pl_ne hFqm2_101 hFqm15_101 rfl)]; exact hFqm2_101
                        have hFqm3_105 : F105 (qm 3) = cD (cy 0) 6 Dd.2.1 := by rw [eF105, va_up_ne _ _ (pl_ne hFqm3_101 hFqm15_101 rfl)]; exact hFqm3_101
                        have hFqm4_105 : F105 (qm 4) = cD (cy 0) 6 Dd.2.2.1 := by rw [eF105, va_up_ne _ _ (pl_ne hFqm4_101 hFqm15_101 rfl)]; exact hFqm4_101
                        have hFqm5_105 : F105 (qm 5) = cJ (cy 2) 6 Dd.2.2.2 := by rw [eF105, va_up_ne _ _ (pl_ne hFqm5_101 hFqm15_101 rfl)]; exact hFqm5_101
                        have hFqm6_105 : F105 (qm 6) = cI (cy 1) 8 Sl.1 := by rw [eF105, va_up_ne _ _ (pl_ne hFqm6_101 hFqm15_101 rfl)]; exact hFqm6_101
                        have hFqm7_105 : F105 (qm 7) = cJ (cy 2) 128 (cpy Sl j_dd j_ff kk) := by rw [eF105, va_up_ne _ _ (pl_ne hFqm7_101 hFqm15_101 rfl)]; exact hFqm7_101
                        have hFqm8_105 : F105 (qm 8) = cI (cy 1) 30 Pp.2.1 := by rw [eF105, va_up_ne _ _ (pl_ne hFqm8_101 hFqm15_101 rfl)]; exact hFqm8_101
                        have hFqm9_105 : F105 (qm 9) = cI (cy 3) 30 Pp.2.2 := by rw [eF105, va_up_ne _ _ (pl_ne hFqm9_101 hFqm15_101 rfl)]; exact hFqm9_101
                        have hFqm10_105 : F105 (qm 10) = cI (cy 1) 5 Kr.1 := by rw [eF105, va_up_ne _ _ (pl_ne hFqm10_101 hFqm15_101 rfl)]; exact hFqm10_101
                        have hFqm11_105 : F105 (qm 11) = cI (cy 3) 5 Kr.2.1 := by rw [eF105, va_up_ne _ _ (pl_ne hFqm11_101 hFqm15_101 rfl)]; exact hFqm11_101
                        have hFqm12_105 : F105 (qm 12) = cI (cy 1) 60 Kr.2.2 := by rw [eF105, va_up_ne _ _ (pl_ne hFqm12_101 hFqm15_101 rfl)]; exact hFqm12_101
                        have hFqm13_105 : F105 (qm 13) = cI (cy 1) 4 Bk.1 := by rw [eF105, va_up_ne _ _ (pl_ne hFqm13_101 hFqm15_101 rfl)]; exact hFqm13_101
                        have hFqm14_105 : F105 (qm 14) = cD (cy 0) 4 Bk.2 := by rw [eF105, va_up_ne _ _ (pl_ne hFqm14_101 hFqm15_101 rfl)]; exact hFqm14_101
                        have hFqm15_105 : F105 (qm 15) = cI (cy 1) 6 (upd Xx.2 (2 : Int32).toNatClampNeg v104) := by rw [eF105]; exact va_up_self _ _ _
                        refine lv_iload hx hb dX9_copy_225 (lv_at hl 0 rfl) ?_
                        exact W.iret (v := nI kk) hx hb hr (fun t ht hW => ⟨⟨nI kk, F105, rfl, (by subst ev104 ev102 ev99 ev97 ev83; have hc66 := c30; have hc76 := c36; have hc193 := c100; have hc87 := c79; have hmn : mn (Sl.1 j_dd) (Sl.1 j_ff) = nI kk := (by have hd := hc87; rw [fa_eq] at hd; rw [fa_eq] at hc66; rw [fa_le] at hc76; rw [fa_le, nI_toInt (by omega)] at hc193; unfold mn; rw [fa_eq, nI_toInt (by omega)]; split; (rename_i hq; rw [fa_lt] at hq; omega); rename_i hq; rw [fa_lt] at hq; omega); rw [updid0] at hFqm15_105; have hsp : sp_copy Sl Xx (nI j_dd) (nI j_ff) bk = (nI kk, (Sl.1, cpy Sl j_dd j_ff kk), goodX Xx) := (by unfold sp_copy; rw [hi_dd, hi_ff]; refine (if_pos ⟨hd4, hf4⟩).trans ((if_pos hbk).trans ?_); unfold cp; rw [if_neg hc66, if_neg (fun q => hc76 (by rw [q]; decide)), if_neg hc87, hmn, nI_tn (by omega), if_neg (by rw [fa_lt]; rw [fa_le] at hc193; omega)]); rw [hsp]; exact ⟨rfl, (by exact ⟨⟨_, _, hmo, hFo_105⟩, ⟨hm0, hFqm0_105⟩, ⟨hm1, hFqm1_105⟩, ⟨hm2, hFqm2_105⟩, ⟨hm3, hFqm3_105⟩, ⟨hm4, hFqm4_105⟩, ⟨hm5, hFqm5_105⟩, ⟨hm6, hFqm6_105⟩, ⟨hm7, hFqm7_105⟩, ⟨hm8, hFqm8_105⟩, ⟨hm9, hFqm9_105⟩, ⟨hm10, hFqm10_105⟩, ⟨hm11, hFqm11_105⟩, ⟨hm12, hFqm12_105⟩, ⟨hm13, hFqm13_105⟩, ⟨hm14, hFqm14_105⟩, ⟨hm15, hFqm15_105⟩, hne⟩)⟩), (by show va_P _ _ _ t.heap; rw [ht]; exact hP)⟩, hS.F ht⟩) hS.2.2 dX9_copy_227
                      · refine lv_iconst (v := 2) hx hb dX9_copy_196 (by decide) ?_
                        refine lv_goto (tgt := 201) hx hb dX9_copy_197 (by decide) ?_
                        refine pg_put (ci := 8) (v := .int 2) (ty := .int) (C := RX9) (T := TX9) (N := 20) hx hb hts hinX9 tyX9 tyX9_ok nmX9 hown hK hP hD hS hmo hFo_82 rfl 17 (by decide) (hts (.fieldLink RX9 65 "RopeDrumsModel" "failed" "I") (by decide +kernel)) (fun _ h9 => h9) rfl (by decide +kernel) (rfl) (rfl) (Nat.le_of_ble_eq_true rfl) dX9_copy_201 (fun H locs F106 eF106 hP hS => ?_)
                        have eF106 : F106 = va_up F82 o (.inr (8, [.int 0, .ref (qm 0), .ref (qm 1), .ref (qm 2), .ref (qm 3), .ref (qm 4), .ref (qm 5), .ref (qm 6), .ref (qm 7), .int Pp.1, .ref (qm 8), .ref (qm 9), .ref (qm 10), .ref (qm 11), .ref (qm 12), .ref (qm 13), .ref (qm 14), .int 2, .ref (qm 15), .long oc])) := eF106
                        have hFo_106 : F106 o = .inr (8, [.int 0, .ref (qm 0), .ref (qm 1), .ref (qm 2), .ref (qm 3), .ref (qm 4), .ref (qm 5), .ref (qm 6), .ref (qm 7), .int Pp.1, .ref (qm 8), .ref (qm 9), .ref (qm 10), .ref (qm 11), .ref (qm 12), .ref (qm 13), .ref (qm 14), .int 2, .ref (qm 15), .long oc]) := by rw [eF106]; exact va_up_self _ _ _
                        have hFqm0_106 : F106 (qm 0) = cI (cy 1) 10 Mm.1 := by rw [eF106, va_up_ne _ _ (pl_ne hFqm0_82 hFo_82 rfl)]; exact hFqm0_82
                        have hFqm1_106 : F106 (qm 1) = cJ (cy 2) 10 Mm.2 := by rw [eF106, va_up_ne _ _ (pl_ne hFqm1_82 hFo_82 rfl)]; exact hFqm1_82
                        have hFqm2_106 : F106 (qm 2) = cD (cy 0) 6 Dd.1 := by rw [eF106, va_up_ne _ _ (pl_ne hFqm2_82 hFo_82 rfl)]; exact hFqm2_82
                        have hFqm3_106 : F106 (qm 3) = cD (cy 0) 6 Dd.2.1 := by rw [eF106, va_up_ne _ _ (pl_ne hFqm3_82 hFo_82 rfl)]; exact hFqm3_82
                        have hFqm4_106 : F106 (qm 4) = cD (cy 0) 6 Dd.2.2.1 := by rw [eF106, va_up_ne _ _ (pl_ne hFqm4_82 hFo_82 rfl)]; exact hFqm4_82
                        have hFqm5_106 : F106 (qm 5) = cJ (cy 2) 6 Dd.2.2.2 := by rw [eF106, va_up_ne _ _ (pl_ne hFqm5_82 hFo_82 rfl)]; exact hFqm5_82
                        have hFqm6_106 : F106 (qm 6) = cI (cy 1) 8 Sl.1 := by rw [eF106, va_up_ne _ _ (pl_ne hFqm6_82 hFo_82 rfl)]; exact hFqm6_82
                        have hFqm7_106 : F106 (qm 7) = cJ (cy 2) 128 (cpy Sl j_dd j_ff kk) := by rw [eF106, va_up_ne _ _ (pl_ne hFqm7_82 hFo_82 rfl)]; exact hFqm7_82
                        have hFqm8_106 : F106 (qm 8) = cI (cy 1) 30 Pp.2.1 := by rw [eF106, va_up_ne _ _ (pl_ne hFqm8_82 hFo_82 rfl)]; exact hFqm8_82
                        have hFqm9_106 : F106 (qm 9) = cI (cy 3) 30 Pp.2.2 := by rw [eF106, va_up_ne _ _ (pl_ne hFqm9_82 hFo_82 rfl)]; exact hFqm9_82
                        have hFqm10_106 : F106 (qm 10) = cI (cy 1) 5 Kr.1 := by rw [eF106, va_up_ne _ _ (pl_ne hFqm10_82 hFo_82 rfl)]; exact hFqm10_82
                        have hFqm11_106 : F106 (qm 11) = cI (cy 3) 5 Kr.2.1 := by rw [eF106, va_up_ne _ _ (pl_ne hFqm11_82 hFo_82 rfl)]; exact hFqm11_82
                        have hFqm12_106 : F106 (qm 12) = cI (cy 1) 60 Kr.2.2 := by rw [eF106, va_up_ne _ _ (pl_ne hFqm12_82 hFo_82 rfl)]; exact hFqm12_82
                        have hFqm13_106 : F106 (qm 13) = cI (cy 1) 4 Bk.1 := by rw [eF106, va_up_ne _ _ (pl_ne hFqm13_82 hFo_82 rfl)]; exact hFqm13_82
                        have hFqm14_106 : F106 (qm 14) = cD (cy 0) 4 Bk.2 := by rw [eF106, va_up_ne _ _ (pl_ne hFqm14_82 hFo_82 rfl)]; exact hFqm14_82
                        have hFqm15_106 : F106 (qm 15) = cI (cy 1) 6 Xx.2 := by rw [eF106, va_up_ne _ _ (pl_ne hFqm15_82 hFo_82 rfl)]; exact hFqm15_82
                        refine lv_aload_n hx hb dX9_copy_204 rfl (lv_at hl 1 rfl) ?_
                        refine pg_get (ci := 8) (C := RX9) (T := TX9) (N := 20) hx hb hts hinX9 hown hK hP hmo hFo_106 rfl 18 (by decide) (hts (.fieldLink RX9 58 "RopeDrumsModel" "counted" "[I") (by decide +kernel)) (fun _ h9 => h9) rfl dX9_copy_205 ?_
                        refine lv_iconst (v := 2) hx hb dX9_copy_208 (by decide) ?_
                        refine lv_dup2_11 hx hb dX9_copy_209 rfl rfl ?_
                        refine pg_iald hx hb hK hP 1 hm15 hFqm15_106 rfl (vp_in_nI (n := 2) (N := 6) (by decide) (by decide)) dX9_copy_210 ?_
                        refine lv_topi (fun v107 ev107 => ?_)
                        refine lv_aload_n hx hb dX9_copy_211 rfl (lv_at hl 1 rfl) ?_
                        refine pg_get (ci := 8) (C := RX9) (T := TX9) (N := 20) hx hb hts hinX9 hown hK hP hmo hFo_106 rfl 17 (by decide) (hts (.fieldLink RX9 65 "RopeDrumsModel" "failed" "I") (by decide +kernel)) (fun _ h9 => h9) rfl dX9_copy_212 ?_
                        refine lv_if_le (tgt := 222) hx hb dX9_copy_215 (by decide) (fun c108 => absurd c108 (by decide)) (fun c108 => ?_)
                        refine lv_iconst (v := 1) hx hb dX9_copy_218 (by decide) ?_
                        refine lv_goto (tgt := 223) hx hb dX9_copy_219 (by decide) ?_
                        refine lv_iadd hx hb dX9_copy_223 ?_
                        refine lv_topi (fun v109 ev109 => ?_)
                        refine pg_iast hx hb hK hP hD hS 1 hm15 hFqm15_106 rfl (vp_in_nI (n := 2) (N := 6) (by decide) (by decide)) dX9_copy_224 (fun H locs F110 eF110 hP hS => ?_)
                        have hFo_110 : F110 o = .inr (8, [.int 0, .ref (qm 0), .ref (qm 1), .ref (qm 2), .ref (qm 3), .ref (qm 4), .ref (qm 5), .ref (qm 6), .ref (qm 7), .int Pp.1, .ref (qm 8), .ref (qm 9), .ref (qm 10), .ref (qm 11), .ref (qm 12), .ref (qm 13), .ref (qm 14), .int 2, .ref (qm 15), .long oc]) := by rw [eF110, va_up_ne _ _ (pl_ne hFo_106 hFqm15_106 rfl)]; exact hFo_106
                        have hFqm0_110 : F110 (qm 0) = cI (cy 1) 10 Mm.1 := by rw [eF110, va_up_ne _ _ (pl_ne hFqm0_106 hFqm15_106 rfl)]; exact hFqm0_106
                        have hFqm1_110 : F110 (qm 1) = cJ (cy 2) 10 Mm.2 := by rw [eF110, va_up_ne _ _ (pl_ne hFqm1_106 hFqm15_106 rfl)]; exact hFqm1_106
                        have hFqm2_110 : F110 (qm 2) = cD (cy 0) 6 Dd.1 := by rw [eF110, va_up_ne _ _ (pl_ne hFqm2_106 hFqm15_106 rfl)]; exact hFqm2_106
                        have hFqm3_110 : F110 (qm 3) = cD (cy 0) 6 Dd.2.1 := by rw [eF110, va_up_ne _ _ (pl_ne hFqm3_106 hFqm15_106 rfl)]; exact hFqm3_106
                        have hFqm4_110 : F110 (qm 4) = cD (cy 0) 6 Dd.2.2.1 := by rw [eF110, va_up_ne _ _ (pl_ne hFqm4_106 hFqm15_106 rfl)]; exact hFqm4_106
                        have hFqm5_110 : F110 (qm 5) = cJ (cy 2) 6 Dd.2.2.2 := by rw [eF110, va_up_ne _ _ (pl_ne hFqm5_106 hFqm15_106 rfl)]; exact hFqm5_106
                        have hFqm6_110 : F110 (qm 6) = cI (cy 1) 8 Sl.1 := by rw [eF110, va_up_ne _ _ (pl_ne hFqm6_106 hFqm15_106 rfl)]; exact hFqm6_106
                        have hFqm7_110 : F110 (qm 7) = cJ (cy 2) 128 (cpy Sl j_dd j_ff kk) := by rw [eF110, va_up_ne _ _ (pl_ne hFqm7_106 hFqm15_106 rfl)]; exact hFqm7_106
                        have hFqm8_110 : F110 (qm 8) = cI (cy 1) 30 Pp.2.1 := by rw [eF110, va_up_ne _ _ (pl_ne hFqm8_106 hFqm15_106 rfl)]; exact hFqm8_106
                        have hFqm9_110 : F110 (qm 9) = cI (cy 3) 30 Pp.2.2 := by rw [eF110, va_up_ne _ _ (pl_ne hFqm9_106 hFqm15_106 rfl)]; exact hFqm9_106
                        have hFqm10_110 : F110 (qm 10) = cI (cy 1) 5 Kr.1 := by rw [eF110, va_up_ne _ _ (pl_ne hFqm10_106 hFqm15_106 rfl)]; exact hFqm10_106
                        have hFqm11_110 : F110 (qm 11) = cI (cy 3) 5 Kr.2.1 := by rw [eF110, va_up_ne _ _ (pl_ne hFqm11_106 hFqm15_106 rfl)]; exact hFqm11_106
                        have hFqm12_110 : F110 (qm 12) = cI (cy 1) 60 Kr.2.2 := by rw [eF110, va_up_ne _ _ (pl_ne hFqm12_106 hFqm15_106 rfl)]; exact hFqm12_106
                        have hFqm13_110 : F110 (qm 13) = cI (cy 1) 4 Bk.1 := by rw [eF110, va_up_ne _ _ (pl_ne hFqm13_106 hFqm15_106 rfl)]; exact hFqm13_106
                        have hFqm14_110 : F110 (qm 14) = cD (cy 0) 4 Bk.2 := by rw [eF110, va_up_ne _ _ (pl_ne hFqm14_106 hFqm15_106 rfl)]; exact hFqm14_106
                        have hFqm15_110 : F110 (qm 15) = cI (cy 1) 6 (upd Xx.2 (2 : Int32).toNatClampNeg v109) := by rw [eF110]; exact va_up_self _ _ _
                        refine lv_iload hx hb dX9_copy_225 (lv_at hl 0 rfl) ?_
                        exact W.iret (v := nI kk) hx hb hr (fun t ht hW => ⟨⟨nI kk, F110, rfl, (by subst ev109 ev107 ev99 ev97 ev83; have hc66 := c30; have hc76 := c36; have hc193 := c100; have hc87 := c79; have hmn : mn (Sl.1 j_dd) (Sl.1 j_ff) = nI kk := (by have hd := hc87; rw [fa_eq] at hd; rw [fa_eq] at hc66; rw [fa_le] at hc76; rw [fa_le, nI_toInt (by omega)] at hc193; unfold mn; rw [fa_eq, nI_toInt (by omega)]; split; (rename_i hq; rw [fa_lt] at hq; omega); rename_i hq; rw [fa_lt] at hq; omega); have hsp : sp_copy Sl Xx (nI j_dd) (nI j_ff) bk = (nI kk, (Sl.1, cpy Sl j_dd j_ff kk), failX Xx 2) := (by unfold sp_copy; rw [hi_dd, hi_ff]; refine (if_pos ⟨hd4, hf4⟩).trans ((if_pos hbk).trans ?_); unfold cp; rw [if_neg hc66, if_neg (fun q => hc76 (by rw [q]; decide)), if_neg hc87, hmn, nI_tn (by omega), if_pos (by rw [fa_lt]; rw [fa_le] at hc193; omega)]); rw [hsp]; exact ⟨rfl, (by exact ⟨⟨_, _, hmo, hFo_110⟩, ⟨hm0, hFqm0_110⟩, ⟨hm1, hFqm1_110⟩, ⟨hm2, hFqm2_110⟩, ⟨hm3, hFqm3_110⟩, ⟨hm4, hFqm4_110⟩, ⟨hm5, hFqm5_110⟩, ⟨hm6, hFqm6_110⟩, ⟨hm7, hFqm7_110⟩, ⟨hm8, hFqm8_110⟩, ⟨hm9, hFqm9_110⟩, ⟨hm10, hFqm10_110⟩, ⟨hm11, hFqm11_110⟩, ⟨hm12, hFqm12_110⟩, ⟨hm13, hFqm13_110⟩, ⟨hm14, hFqm14_110⟩, ⟨hm15, hFqm15_110⟩, hne⟩)⟩), (by show va_P _ _ _ t.heap; rw [ht]; exact hP)⟩, hS.F ht⟩) hS.2.2 dX9_copy_227
                    · have hlt2 : (kk : Int) < (Sl.1 j_ff).toInt := by have hc := c98; rw [ev97, fa_le, nI_toInt (by omega)] at hc; omega
                      refine lv_aload_n hx hb dX9_copy_138 rfl (lv_at hl 1 rfl) ?_
                      refine pg_get (ci := 8) (C := RX9) (T := TX9) (N := 20) hx hb hts hinX9 hown hK hP hmo hFo_82 rfl 8 (by decide) (hts (.fieldLink RX9 33 "RopeDrumsModel" "logBits" "[J") (by decide +kernel)) (fun _ h9 => h9) rfl dX9_copy_139 ?_
                      refine lv_bipush (v := 16) hx hb dX9_copy_142 (by decide) ?_
                      refine lv_iload hx hb dX9_copy_144 (lv_at hl 3 rfl) ?_
                      refine lv_imul hx hb dX9_copy_146 ?_
                      refine lv_topi (fun v111 ev111 => ?_)
                      refine lv_iload hx hb dX9_copy_147 (lv_at hl 0 rfl) ?_
                      refine lv_iadd hx hb dX9_copy_149 ?_
                      refine lv_topi (fun v112 ev112 => ?_)
                      rw [ev111, nI16] at ev112
                      subst ev112
                      refine lv_iload hx hb dX9_copy_150 (lv_at hl 2 rfl) ?_
                      refine vp_callSi (W.runS (As := [.int (nI j_dd)]) (rest := [.int (nI (16 * j_ff + kk)), .ref (qm 7)]) ⟨hx, hb, hml, hown, hts⟩ (c9_laneOfLog l j_dd hj_dd) (va_cwS 1 hts gX9_copy_X9_laneOfLog rfl rfl rfl (by decide +kernel) ⟨Nat.le_of_ble_eq_true rfl, Nat.le_of_ble_eq_true rfl⟩) (preS_of okT (trivial)) rfl rfl hl.1 rfl (lv_room (Nat.le_of_ble_eq_true rfl)) dX9_copy_152 ⟨Nat.le_of_ble_eq_true rfl, Nat.le_of_ble_eq_true rfl⟩) (fun r113 hr113 => ?_)
                      subst hr113
                      refine lv_aload_n hx hb dX9_copy_155 rfl (lv_at hl 1 rfl) ?_
                      refine pg_get (ci := 8) (C := RX9) (T := TX9) (N := 20) hx hb hts hinX9 hown hK hP hmo hFo_82 rfl 8 (by decide) (hts (.fieldLink RX9 33 "RopeDrumsModel" "logBits" "[J") (by decide +kernel)) (fun _ h9 => h9) rfl dX9_copy_156 ?_
                      refine lv_bipush (v := 16) hx hb dX9_copy_159 (by decide) ?_
                      refine lv_iload hx hb dX9_copy_161 (lv_at hl 2 rfl) ?_
                      refine lv_imul hx hb dX9_copy_163 ?_
                      refine lv_topi (fun v114 ev114 => ?_)
                      refine lv_iload hx hb dX9_copy_164 (lv_at hl 0 rfl) ?_
                      refine lv_iadd hx hb dX9_copy_166 ?_
                      refine lv_topi (fun v115 ev115 => ?_)
                      rw [ev114, nI16] at ev115
                      subst ev115
                      refine pg_lald hx hb hK hP 2 hm7 hFqm7_82 rfl (vp_in_nI (by omega) (by decide)) dX9_copy_167 ?_
                      refine lv_topl (fun v116 ev116 => ?_)
                      rw [nI_clamp (by omega)] at ev116
                      refine lv_iload hx hb dX9_copy_168 (lv_at hl 3 rfl) ?_
                      refine vp_callSi (W.runS (As := [.int (nI j_ff)]) (rest := [.long v116, .int (lw j_dd), .int (nI (16 * j_ff + kk)), .ref (qm 7)]) ⟨hx, hb, hml, hown, hts⟩ (c9_laneOfLog l j_ff hj_ff) (va_cwS 1 hts gX9_copy_X9_laneOfLog rfl rfl rfl (by decide +kernel) ⟨Nat.le_of_ble_eq_true rfl, Nat.le_of_ble_eq_true rfl⟩) (preS_of okT (trivial)) rfl rfl hl.1 rfl (lv_room (Nat.le_of_ble_eq_true rfl)) dX9_copy_170 ⟨Nat.le_of_ble_eq_true rfl, Nat.le_of_ble_eq_true rfl⟩) (fun r117 hr117 => ?_)
                      subst hr117
                      refine vp_callSl (W.runS (As := [.int (lw j_dd), .long v116, .int (lw j_ff)]) (rest := [.int (nI (16 * j_ff + kk)), .ref (qm 7)]) ⟨hx, hb, hml, hown, hts⟩ (c9_turned l (lw j_dd) (lw j_ff) v116 (by rw [ev116]; exact (by rw [cpyf hij (by omega)]; exact (hVS j_dd hj_dd).2 kk hlt1))) (va_cwS 3 hts gX9_copy_X9_turned rfl rfl rfl (by decide +kernel) ⟨Nat.le_of_ble_eq_true rfl, Nat.le_of_ble_eq_true rfl⟩) (preS_of okT (trivial)) rfl rfl hl.1 rfl (lv_room (Nat.le_of_ble_eq_true rfl)) dX9_copy_173 ⟨Nat.le_of_ble_eq_true rfl, Nat.le_of_ble_eq_true rfl⟩) (fun r118 hr118 => ?_)
                      refine pg_last hx hb hK hP hD hS 2 hm7 hFqm7_82 rfl (vp_in_nI (by omega) (by decide)) dX9_copy_176 (fun H locs F119 eF119 hP hS => ?_)
                      rw [nI_clamp (by omega)] at eF119
                      have hFo_119 : F119 o = .inr (8, [.int 0, .ref (qm 0), .ref (qm 1), .ref (qm 2), .ref (qm 3), .ref (qm 4), .ref (qm 5), .ref (qm 6), .ref (qm 7), .int Pp.1, .ref (qm 8), .ref (qm 9), .ref (qm 10), .ref (qm 11), .ref (qm 12), .ref (qm 13), .ref (qm 14), .int 0, .ref (qm 15), .long oc]) := by rw [eF119, va_up_ne _ _ (pl_ne hFo_82 hFqm7_82 rfl)]; exact hFo_82
                      have hFqm0_119 : F119 (qm 0) = cI (cy 1) 10 Mm.1 := by rw [eF119, va_up_ne _ _ (pl_ne hFqm0_82 hFqm7_82 rfl)]; exact hFqm0_82
                      have hFqm1_119 : F119 (qm 1) = cJ (cy 2) 10 Mm.2 := by rw [eF119, va_up_ne _ _ (pl_ne hFqm1_82 hFqm7_82 rfl)]; exact hFqm1_82
                      have hFqm2_119 : F119 (qm 2) = cD (cy 0) 6 Dd.1 := by rw [eF119, va_up_ne _ _ (pl_ne hFqm2_82 hFqm7_82 rfl)]; exact hFqm2_82
                      have hFqm3_119 : F119 (qm 3) = cD (cy 0) 6 Dd.2.1 := by rw [eF119, va_up_ne _ _ (pl_ne hFqm3_82 hFqm7_82 rfl)]; exact hFqm3_82
                      have hFqm4_119 : F119 (qm 4) = cD (cy 0) 6 Dd.2.2.1 := by rw [eF119, va_up_ne _ _ (pl_ne hFqm4_82 hFqm7_82 rfl)]; exact hFqm4_82
                      have hFqm5_119 : F119 (qm 5) = cJ (cy 2) 6 Dd.2.2.2 := by rw [eF119, va_up_ne _ _ (pl_ne hFqm5_82 hFqm7_82 rfl)]; exact hFqm5_82
                      have hFqm6_119 : F119 (qm 6) = cI (cy 1) 8 Sl.1 := by rw [eF119, va_up_ne _ _ (pl_ne hFqm6_82 hFqm7_82 rfl)]; exact hFqm6_82
                      have hFqm7_119 : F119 (qm 7) = cJ (cy 2) 128 (vp_updL (cpy Sl j_dd j_ff kk) (16 * j_ff + kk) r118) := by rw [eF119]; exact va_up_self _ _ _
                      have hFqm8_119 : F119 (qm 8) = cI (cy 1) 30 Pp.2.1 := by rw [eF119, va_up_ne _ _ (pl_ne hFqm8_82 hFqm7_82 rfl)]; exact hFqm8_82
                      have hFqm9_119 : F119 (qm 9) = cI (cy 3) 30 Pp.2.2 := by rw [eF119, va_up_ne _ _ (pl_ne hFqm9_82 hFqm7_82 rfl)]; exact hFqm9_82
                      have hFqm10_119 : F119 (qm 10) = cI (cy 1) 5 Kr.1 := by rw [eF119, va_up_ne _ _ (pl_ne hFqm10_82 hFqm7_82 rfl)]; exact hFqm10_82
                      have hFqm11_119 : F119 (qm 11) = cI (cy 3) 5 Kr.2.1 := by rw [eF119, va_up_ne _ _ (pl_ne hFqm11_82 hFqm7_82 rfl)]; exact hFqm11_82
                      have hFqm12_119 : F119 (qm 12) = cI (cy 1) 60 Kr.2.2 := by rw [eF119, va_up_ne _ _ (pl_ne hFqm12_82 hFqm7_82 rfl)]; exact hFqm12_82
                      have hFqm13_119 : F119 (qm 13) = cI (cy 1) 4 Bk.1 := by rw [eF119, va_up_ne _ _ (pl_ne hFqm13_82 hFqm7_82 rfl)]; exact hFqm13_82
                      have hFqm14_119 : F119 (qm 14) = cD (cy 0) 4 Bk.2 := by rw [eF119, va_up_ne _ _ (pl_ne hFqm14_82 hFqm7_82 rfl)]; exact hFqm14_82
                      have hFqm15_119 : F119 (qm 15) = cI (cy 1) 6 Xx.2 := by rw [eF119, va_up_ne _ _ (pl_ne hFqm15_82 hFqm7_82 rfl)]; exact hFqm15_82
                      obtain ⟨v120, ev120⟩ : ∃ y : Int32, y = (nI kk) + (1) := ⟨_, rfl⟩
                      refine lv_iinc (v := v120) (lv' := [(6, .int v120), (0, .ref o), (4, .int (nI j_dd)), (5, .int (nI j_ff))]) hx hb dX9_copy_177 hl (k := 0) rfl (by rw [ev120]; rfl) (by decide) rfl (fun ls hl => ?_)
                      refine lv_goto (tgt := 114) hx hb dX9_copy_180 (by decide) ?_
                      have hv : v120 = nI (kk + 1) := by rw [ev120, nI_succ]
                      rw [hv] at hl
                      exact K (kk + 1) ls H locs (Or.inr (by omega)) (by omega) (by rw [← show F119 = va_up F80 (qm 7) (cJ (cy 2) 128 (cpy Sl j_dd j_ff (kk + 1))) from (by rw [eF119, eF82, upup]; exact congrArg (fun x => va_up F80 (qm 7) (cJ (cy 2) 128 x)) (by rw [hr118, ev116, cpyf hij (by omega)]; exact cpys Sl j_dd j_ff kk))]; exact hP) hS (lv_sub hl [0, 1, 2, 3] rfl)
                · refine lv_iconst (v := 1) hx hb dX9_copy_90 (by decide) ?_
                  refine lv_goto (tgt := 95) hx hb dX9_copy_91 (by decide) ?_
                  refine pg_put (ci := 8) (v := .int 1) (ty := .int) (C := RX9) (T := TX9) (N := 20) hx hb hts hinX9 tyX9 tyX9_ok nmX9 hown hK hP hD hS hmo hFo_20 rfl 17 (by decide) (hts (.fieldLink RX9 65 "RopeDrumsModel" "failed" "I") (by decide +kernel)) (fun _ h9 => h9) rfl (by decide +kernel) (rfl) (rfl) (Nat.le_of_ble_eq_true rfl) dX9_copy_95 (fun H locs F121 eF121 hP hS => ?_)
                  have eF121 : F121 = va_up F20 o (.inr (8, [.int 0, .ref (qm 0), .ref (qm 1), .ref (qm 2), .ref (qm 3), .ref (qm 4), .ref (qm 5), .ref (qm 6), .ref (qm 7), .int Pp.1, .ref (qm 8), .ref (qm 9), .ref (qm 10), .ref (qm 11), .ref (qm 12), .ref (qm 13), .ref (qm 14), .int 1, .ref (qm 15), .long oc])) := eF121
                  have hFo_121 : F121 o = .inr (8, [.int 0, .ref (qm 0), .ref (qm 1), .ref (qm 2), .ref (qm 3), .ref (qm 4), .ref (qm 5), .ref (qm 6), .ref (qm 7), .int Pp.1, .ref (qm 8), .ref (qm 9), .ref (qm 10), .ref (qm 11), .ref (qm 12), .ref (qm 13), .ref (qm 14), .int 1, .ref (qm 15), .long oc]) := by rw [eF121]; exact va_up_self _ _ _
                  have hFqm0_121 : F121 (qm 0) = cI (cy 1) 10 Mm.1 := by rw [eF121, va_up_ne _ _ (pl_ne hFqm0_20 hFo_20 rfl)]; exact hFqm0_20
                  have hFqm1_121 : F121 (qm 1) = cJ (cy 2) 10 Mm.2 := by rw [eF121, va_up_ne _ _ (pl_ne hFqm1_20 hFo_20 rfl)]; exact hFqm1_20
                  have hFqm2_121 : F121 (qm 2) = cD (cy 0) 6 Dd.1 := by rw [eF121, va_up_ne _ _ (pl_ne hFqm2_20 hFo_20 rfl)]; exact hFqm2_20
                  have hFqm3_121 : F121 (qm 3) = cD (cy 0) 6 Dd.2.1 := by rw [eF121, va_up_ne _ _ (pl_ne hFqm3_20 hFo_20 rfl)]; exact hFqm3_20
                  have hFqm4_121 : F121 (qm 4) = cD (cy 0) 6 Dd.2.2.1 := by rw [eF121, va_up_ne _ _ (pl_ne hFqm4_20 hFo_20 rfl)]; exact hFqm4_20
                  have hFqm5_121 : F121 (qm 5) = cJ (cy 2) 6 Dd.2.2.2 := by rw [eF121, va_up_ne _ _ (pl_ne hFqm5_20 hFo_20 rfl)]; exact hFqm5_20
                  have hFqm6_121 : F121 (qm 6) = cI (cy 1) 8 Sl.1 := by rw [eF121, va_up_ne _ _ (pl_ne hFqm6_20 hFo_20 rfl)]; exact hFqm6_20
                  have hFqm7_121 : F121 (qm 7) = cJ (cy 2) 128 Sl.2 := by rw [eF121, va_up_ne _ _ (pl_ne hFqm7_20 hFo_20 rfl)]; exact hFqm7_20
                  have hFqm8_121 : F121 (qm 8) = cI (cy 1) 30 Pp.2.1 := by rw [eF121, va_up_ne _ _ (pl_ne hFqm8_20 hFo_20 rfl)]; exact hFqm8_20
                  have hFqm9_121 : F121 (qm 9) = cI (cy 3) 30 Pp.2.2 := by rw [eF121, va_up_ne _ _ (pl_ne hFqm9_20 hFo_20 rfl)]; exact hFqm9_20
                  have hFqm10_121 : F121 (qm 10) = cI (cy 1) 5 Kr.1 := by rw [eF121, va_up_ne _ _ (pl_ne hFqm10_20 hFo_20 rfl)]; exact hFqm10_20
                  have hFqm11_121 : F121 (qm 11) = cI (cy 3) 5 Kr.2.1 := by rw [eF121, va_up_ne _ _ (pl_ne hFqm11_20 hFo_20 rfl)]; exact hFqm11_20
                  have hFqm12_121 : F121 (qm 12) = cI (cy 1) 60 Kr.2.2 := by rw [eF121, va_up_ne _ _ (pl_ne hFqm12_20 hFo_20 rfl)]; exact hFqm12_20
                  have hFqm13_121 : F121 (qm 13) = cI (cy 1) 4 Bk.1 := by rw [eF121, va_up_ne _ _ (pl_ne hFqm13_20 hFo_20 rfl)]; exact hFqm13_20
                  have hFqm14_121 : F121 (qm 14) = cD (cy 0) 4 Bk.2 := by rw [eF121, va_up_ne _ _ (pl_ne hFqm14_20 hFo_20 rfl)]; exact hFqm14_20
                  have hFqm15_121 : F121 (qm 15) = cI (cy 1) 6 Xx.2 := by rw [eF121, va_up_ne _ _ (pl_ne hFqm15_20 hFo_20 rfl)]; exact hFqm15_20
                  rw [ev29] at c30
                  rw [ev35] at c36
                  rw [ev78] at c79
                  refine lv_aload_n hx hb dX9_copy_98 rfl (lv_at hl 2 rfl) ?_
                  refine pg_get (ci := 8) (C := RX9) (T := TX9) (N := 20) hx hb hts hinX9 hown hK hP hmo hFo_121 rfl 17 (by decide) (hts (.fieldLink RX9 65 "RopeDrumsModel" "failed" "I") (by decide +kernel)) (fun _ h9 => h9) rfl dX9_copy_99 ?_
                  refine lv_if_le (tgt := 111) hx hb dX9_copy_102 (by decide) (fun c122 => absurd c122 (by decide)) (fun c122 => ?_)
                  refine lv_aload_n hx hb dX9_copy_105 rfl (lv_at hl 2 rfl) ?_
                  refine lv_iconst (v := 0) hx hb dX9_copy_106 (by decide) ?_
                  refine va_calli (va_runV (As := [.int 0]) (rest := []) ⟨hx, hb, hml, hown, hts⟩ (c9_answers_1 l G cy L F121 H.size o qm 0 Pp.1 oc hmo hFo_121 Xx.2 hm15 hFqm15_121 0) (cwV 1 hts gX9_copy_X9_answers rfl rfl rfl (by decide +kernel) ⟨Nat.le_of_ble_eq_true rfl, Nat.le_of_ble_eq_true rfl⟩) (preV_of okQ (⟨rfl, hP, hK, hD.top⟩) (pl_recv hK hP (ci := 8) rfl hmo hFo_121)) rfl rfl hl.1 rfl (lv_room (Nat.le_of_ble_eq_true rfl)) dX9_copy_107 ⟨Nat.le_of_ble_eq_true rfl, Nat.le_of_ble_eq_true rfl⟩) hS (fun q _ h => pl_free hD hS hA q h) (pl_free hD hS hA) (fun r124 F123 t H1 locs ht hvm hw hP1 hz1 hk1 hS => ?_)
                  have hP1 : va_P G vwCl (va_pl L F123) t.heap := hP1
                  rw [ht] at hP1
                  have hP := hP1
                  generalize H1 = H at hP hS ⊢
                  obtain ⟨hqr124, eF123⟩ := hw
                  have eF123 : F123 = va_up F121 (qm 15) (cI (cy 1) 6 (upd Xx.2 1 (Xx.2 1 + 1))) := eF123
                  have hFo_124 : F123 o = .inr (8, [.int 0, .ref (qm 0), .ref (qm 1), .ref (qm 2), .ref (qm 3), .ref (qm 4), .ref (qm 5), .ref (qm 6), .ref (qm 7), .int Pp.1, .ref (qm 8), .ref (qm 9), .ref (qm 10), .ref (qm 11), .ref (qm 12), .ref (qm 13), .ref (qm 14), .int 1, .ref (qm 15), .long oc]) := by rw [eF123, va_up_ne _ _ (pl_ne hFo_121 hFqm15_121 rfl)]; exact hFo_121
                  have hFqm0_124 : F123 (qm 0) = cI (cy 1) 10 Mm.1 := by rw [eF123, va_up_ne _ _ (pl_ne hFqm0_121 hFqm15_121 rfl)]; exact hFqm0_121
                  have hFqm1_124 : F123 (qm 1) = cJ (cy 2) 10 Mm.2 := by rw [eF123, va_up_ne _ _ (pl_ne hFqm1_121 hFqm15_121 rfl)]; exact hFqm1_121
                  have hFqm2_124 : F123 (qm 2) = cD (cy 0) 6 Dd.1 := by rw [eF123, va_up_ne _ _ (pl_ne hFqm2_121 hFqm15_121 rfl)]; exact hFqm2_121
                  have hFqm3_124 : F123 (qm 3) = cD (cy 0) 6 Dd.2.1 := by rw [eF123, va_up_ne _ _ (pl_ne hFqm3_121 hFqm15_121 rfl)]; exact hFqm3_121
                  have hFqm4_124 : F123 (qm 4) = cD (cy 0) 6 Dd.2.2.1 := by rw [eF123, va_up_ne _ _ (pl_ne hFqm4_121 hFqm15_121 rfl)]; exact hFqm4_121
                  have hFqm5_124 : F123 (qm 5) = cJ (cy 2) 6 Dd.2.2.2 := by rw [eF123, va_up_ne _ _ (pl_ne hFqm5_121 hFqm15_121 rfl)]; exact hFqm5_121
                  have hFqm6_124 : F123 (qm 6) = cI (cy 1) 8 Sl.1 := by rw [eF123, va_up_ne _ _ (pl_ne hFqm6_121 hFqm15_121 rfl)]; exact hFqm6_121
                  have hFqm7_124 : F123 (qm 7) = cJ (cy 2) 128 Sl.2 := by rw [eF123, va_up_ne _ _ (pl_ne hFqm7_121 hFqm15_121 rfl)]; exact hFqm7_121
                  have hFqm8_124 : F123 (qm 8) = cI (cy 1) 30 Pp.2.1 := by rw [eF123, va_up_ne _ _ (pl_ne hFqm8_121 hFqm15_121 rfl)]; exact hFqm8_121
                  have hFqm9_124 : F123 (qm 9) = cI (cy 3) 30 Pp.2.2 := by rw [eF123, va_up_ne _ _ (pl_ne hFqm9_121 hFqm15_121 rfl)]; exact hFqm9_121
                  have hFqm10_124 : F123 (qm 10) = cI (cy 1) 5 Kr.1 := by rw [eF123, va_up_ne _ _ (pl_ne hFqm10_121 hFqm15_121 rfl)]; exact hFqm10_121
                  have hFqm11_124 : F123 (qm 11) = cI (cy 3) 5 Kr.2.1 := by rw [eF123, va_up_ne _ _ (pl_ne hFqm11_121 hFqm15_121 rfl)]; exact hFqm11_121
                  have hFqm12_124 : F123 (qm 12) = cI (cy 1) 60 Kr.2.2 := by rw [eF123, va_up_ne _ _ (pl_ne hFqm12_121 hFqm15_121 rfl)]; exact hFqm12_121
                  have hFqm13_124 : F123 (qm 13) = cI (cy 1) 4 Bk.1 := by rw [eF123, va_up_ne _ _ (pl_ne hFqm13_121 hFqm15_121 rfl)]; exact hFqm13_121
                  have hFqm14_124 : F123 (qm 14) = cD (cy 0) 4 Bk.2 := by rw [eF123, va_up_ne _ _ (pl_ne hFqm14_121 hFqm15_121 rfl)]; exact hFqm14_121
                  have hFqm15_124 : F123 (qm 15) = cI (cy 1) 6 (upd Xx.2 1 (Xx.2 1 + 1)) := by rw [eF123]; exact va_up_self _ _ _
                  have hr124 := hqr124
                  exact W.iret (v := r124) hx hb hr (fun t ht hW => ⟨⟨r124, F123, rfl, (by subst hr124 ev78 ev35 ev29 ev24 ev21; have hc66 := c30; have hc76 := c36; have hc87 := c79; have hsp : sp_copy Sl Xx (nI j_dd) (nI j_ff) bk = (-11, Sl, failX Xx 1) := (by unfold sp_copy; rw [hi_dd, hi_ff]; refine (if_pos ⟨hd4, hf4⟩).trans ((if_pos hbk).trans ?_); unfold cp; rw [if_neg hc66, if_neg (fun q => hc76 (by rw [q]; decide)), if_pos hc87]); rw [hsp]; exact ⟨(by show (-10 - 1 : Int32) = -11; decide), (by exact ⟨⟨_, _, hmo, hFo_124⟩, ⟨hm0, hFqm0_124⟩, ⟨hm1, hFqm1_124⟩, ⟨hm2, hFqm2_124⟩, ⟨hm3, hFqm3_124⟩, ⟨hm4, hFqm4_124⟩, ⟨hm5, hFqm5_124⟩, ⟨hm6, hFqm6_124⟩, ⟨hm7, hFqm7_124⟩, ⟨hm8, hFqm8_124⟩, ⟨hm9, hFqm9_124⟩, ⟨hm10, hFqm10_124⟩, ⟨hm11, hFqm11_124⟩, ⟨hm12, hFqm12_124⟩, ⟨hm13, hFqm13_124⟩, ⟨hm14, hFqm14_124⟩, ⟨hm15, hFqm15_124⟩, hne⟩)⟩), (by show va_P _ _ _ t.heap; rw [ht]; exact hP)⟩, hS.F ht⟩) hS.2.2 dX9_copy_110
          · refine lv_aload_n hx hb dX9_copy_0 rfl (lv_at hl 0 rfl) ?_
            refine lv_iconst (v := 0) hx hb dX9_copy_1 (by decide) ?_
            refine pg_put (ci := 8) (v := .int 0) (ty := .int) (C := RX9) (T := TX9) (N := 20) hx hb hts hinX9 tyX9 tyX9_ok nmX9 hown hK hP hD hS hmo hFo rfl 0 (by decide) (hts (.fieldLink RX9 61 "RopeDrumsModel" "thrown" "I") (by decide +kernel)) (fun _ h9 => h9) rfl (by decide +kernel) (rfl) (rfl) (Nat.le_of_ble_eq_true rfl) dX9_copy_2 (fun H locs F125 eF125 hP hS => ?_)
            have eF125 : F125 = va_up F o (.inr (8, [.int 0, .ref (qm 0), .ref (qm 1), .ref (qm 2), .ref (qm 3), .ref (qm 4), .ref (qm 5), .ref (qm 6), .ref (qm 7), .int Pp.1, .ref (qm 8), .ref (qm 9), .ref (qm 10), .ref (qm 11), .ref (qm 12), .ref (qm 13), .ref (qm 14), .int Xx.1, .ref (qm 15), .long oc])) := eF125
            have hFo_125 : F125 o = .inr (8, [.int 0, .ref (qm 0), .ref (qm 1), .ref (qm 2), .ref (qm 3), .ref (qm 4), .ref (qm 5), .ref (qm 6), .ref (qm 7), .int Pp.1, .ref (qm 8), .ref (qm 9), .ref (qm 10), .ref (qm 11), .ref (qm 12), .ref (qm 13), .ref (qm 14), .int Xx.1, .ref (qm 15), .long oc]) := by rw [eF125]; exact va_up_self _ _ _
            have hFqm0_125 : F125 (qm 0) = cI (cy 1) 10 Mm.1 := by rw [eF125, va_up_ne _ _ (pl_ne hF0 hFo rfl)]; exact hF0
            have hFqm1_125 : F125 (qm 1) = cJ (cy 2) 10 Mm.2 := by rw [eF125, va_up_ne _ _ (pl_ne hF1 hFo rfl)]; exact hF1
            have hFqm2_125 : F125 (qm 2) = cD (cy 0) 6 Dd.1 := by rw [eF125, va_up_ne _ _ (pl_ne hF2 hFo rfl)]; exact hF2
            have hFqm3_125 : F125 (qm 3) = cD (cy 0) 6 Dd.2.1 := by rw [eF125, va_up_ne _ _ (pl_ne hF3 hFo rfl)]; exact hF3
            have hFqm4_125 : F125 (qm 4) = cD (cy 0) 6 Dd.2.2.1 := by rw [eF125, va_up_ne _ _ (pl_ne hF4 hFo rfl)]; exact hF4
            have hFqm5_125 : F125 (qm 5) = cJ (cy 2) 6 Dd.2.2.2 := by rw [eF125, va_up_ne _ _ (pl_ne hF5 hFo rfl)]; exact hF5
            have hFqm6_125 : F125 (qm 6) = cI (cy 1) 8 Sl.1 := by rw [eF125, va_up_ne _ _ (pl_ne hF6 hFo rfl)]; exact hF6
            have hFqm7_125 : F125 (qm 7) = cJ (cy 2) 128 Sl.2 := by rw [eF125, va_up_ne _ _ (pl_ne hF7 hFo rfl)]; exact hF7
            have hFqm8_125 : F125 (qm 8) = cI (cy 1) 30 Pp.2.1 := by rw [eF125, va_up_ne _ _ (pl_ne hF8 hFo rfl)]; exact hF8
            have hFqm9_125 : F125 (qm 9) = cI (cy 3) 30 Pp.2.2 := by rw [eF125, va_up_ne _ _ (pl_ne hF9 hFo rfl)]; exact hF9
            have hFqm10_125 : F125 (qm 10) = cI (cy 1) 5 Kr.1 := by rw [eF125, va_up_ne _ _ (pl_ne hF10 hFo rfl)]; exact hF10
            have hFqm11_125 : F125 (qm 11) = cI (cy 3) 5 Kr.2.1 := by rw [eF125, va_up_ne _ _ (pl_ne hF11 hFo rfl)]; exact hF11
            have hFqm12_125 : F125 (qm 12) = cI (cy 1) 60 Kr.2.2 := by rw [eF125, va_up_ne _ _ (pl_ne hF12 hFo rfl)]; exact hF12
            have hFqm13_125 : F125 (qm 13) = cI (cy 1) 4 Bk.1 := by rw [eF125, va_up_ne _ _ (pl_ne hF13 hFo rfl)]; exact hF13
            have hFqm14_125 : F125 (qm 14) = cD (cy 0) 4 Bk.2 := by rw [eF125, va_up_ne _ _ (pl_ne hF14 hFo rfl)]; exact hF14
            have hFqm15_125 : F125 (qm 15) = cI (cy 1) 6 Xx.2 := by rw [eF125, va_up_ne _ _ (pl_ne hF15 hFo rfl)]; exact hF15
            refine lv_iload_n hx hb dX9_copy_5 rfl (lv_at hl 1 rfl) ?_
            refine lv_i2l hx hb dX9_copy_6 rfl ?_
            refine lv_topl (fun v126 ev126 => ?_)
            refine lv_ldc2 hx hb hown (hts (.constantLong RX9 143 (4)) (by decide +kernel)) dX9_copy_7 ?_
            refine lv_ldc2 hx hb hown (hts (.constantLong RX9 176 (7)) (by decide +kernel)) dX9_copy_10 ?_
            refine vp_callSi (W.runS (As := [.long v126, .long 4, .long 7]) (rest := []) ⟨hx, hb, hml, hown, hts⟩ (c9_in l v126 4 7) (va_cwS 3 hts gX9_copy_X9_in rfl rfl rfl (by decide +kernel) ⟨Nat.le_of_ble_eq_true rfl, Nat.le_of_ble_eq_true rfl⟩) (preS_of okT (trivial)) rfl rfl hl.1 rfl (lv_room (Nat.le_of_ble_eq_true rfl)) dX9_copy_13 ⟨Nat.le_of_ble_eq_true rfl, Nat.le_of_ble_eq_true rfl⟩) (fun r127 hr127 => ?_)
            have hzr127 : r127 = 1 := by rw [hr127, ev126, inq_i (y := 4) (z := 7) (by decide) (by decide)]; exact if_pos (by rw [nI_toInt (by omega)]; omega)
            subst hzr127
            refine lv_if_eq (tgt := 31) hx hb dX9_copy_16 (by decide) (fun c128 => absurd c128 (by decide)) (fun c128 => ?_)
            refine lv_iload_n hx hb dX9_copy_19 rfl (lv_at hl 2 rfl) ?_
            refine lv_i2l hx hb dX9_copy_20 rfl ?_
            refine lv_topl (fun v129 ev129 => ?_)
            refine lv_lconst (v := 0) hx hb dX9_copy_21 (by decide) ?_
            refine lv_ldc2 hx hb hown (hts (.constantLong RX9 123 (3)) (by decide +kernel)) dX9_copy_22 ?_
            refine vp_callSi (W.runS (As := [.long v129, .long 0, .long 3]) (rest := []) ⟨hx, hb, hml, hown, hts⟩ (c9_in l v129 0 3) (va_cwS 3 hts gX9_copy_X9_in rfl rfl rfl (by decide +kernel) ⟨Nat.le_of_ble_eq_true rfl, Nat.le_of_ble_eq_true rfl⟩) (preS_of okT (trivial)) rfl rfl hl.1 rfl (lv_room (Nat.le_of_ble_eq_true rfl)) dX9_copy_25 ⟨Nat.le_of_ble_eq_true rfl, Nat.le_of_ble_eq_true rfl⟩) (fun r130 hr130 => ?_)
            have hzr130 : r130 = 1 := by rw [hr130, ev129, inq_i (y := 0) (z := 3) (by decide) (by decide)]; exact if_pos (by rw [nI_toInt (by omega)]; omega)
            subst hzr130
            refine lv_if_ne (tgt := 35) hx hb dX9_copy_28 (by decide) (fun c131 => ?_) (fun c131 => absurd c131 (by decide))
            refine lv_iload_n hx hb dX9_copy_35 rfl (lv_at hl 3 rfl) ?_
            refine lv_if_eq (tgt := 43) hx hb dX9_copy_36 (by decide) (fun c132 => absurd c132 (hbk)) (fun c132 => ?_)
            refine lv_iload_n hx hb dX9_copy_39 rfl (lv_at hl 2 rfl) ?_
            refine lv_goto (tgt := 44) hx hb dX9_copy_40 (by decide) ?_
            refine lv_istore (lv' := [(4, .int (nI j_ff)), (0, .ref o), (1, .int (nI j_dd)), (2, .int (nI j_ff)), (3, .int bk)]) hx hb dX9_copy_44 hl (by decide) rfl (fun ls hl => ?_)
            refine lv_iload_n hx hb dX9_copy_46 rfl (lv_at hl 4 rfl) ?_
            refine lv_if_eq (tgt := 54) hx hb dX9_copy_47 (by decide) (fun c133 => absurd c133 (hbk)) (fun c133 => ?_)
            refine lv_iload_n hx hb dX9_copy_50 rfl (lv_at hl 2 rfl) ?_
            refine lv_goto (tgt := 55) hx hb dX9_copy_51 (by decide) ?_
            refine lv_istore (lv' := [(5, .int (nI j_dd)), (4, .int (nI j_ff)), (0, .ref o), (1, .int (nI j_dd)), (2, .int (nI j_ff)), (3, .int bk)]) hx hb dX9_copy_55 hl (by decide) rfl (fun ls hl => ?_)
            have hzi := (hVS j_ff hj_ff).1
            have hzj := (hVS j_dd hj_dd).1
            unfold szOK at hzi hzj
            have hij : ¬ j_ff = j_dd := by omega
            have hmm1 : (-1 : Int32).toInt = -1 := by decide
            have hmm0 : (0 : Int32).toInt = 0 := by decide
            refine lv_aload_n hx hb dX9_copy_57 rfl (lv_at hl 2 rfl) ?_
            refine lv_aload_n hx hb dX9_copy_58 rfl (lv_at hl 2 rfl) ?_
            refine pg_get (ci := 8) (C := RX9) (T := TX9) (N := 20) hx hb hts hinX9 hown hK hP hmo hFo_125 rfl 7 (by decide) (hts (.fieldLink RX9 30 "RopeDrumsModel" "logSize" "[I") (by decide +kernel)) (fun _ h9 => h9) rfl dX9_copy_59 ?_
            refine lv_iload hx hb dX9_copy_62 (lv_at hl 1 rfl) ?_
            refine pg_iald hx hb hK hP 1 hm6 hFqm6_125 rfl (vp_in_nI (by omega) (by decide)) dX9_copy_64 ?_
            refine lv_topi (fun v134 ev134 => ?_)
            rw [nI_clamp (by omega)] at ev134
            refine lv_iconst (v := -1) hx hb dX9_copy_65 (by decide) ?_
            refine lv_icmp_eq (tgt := 90) hx hb dX9_copy_66 (by decide) (fun c135 => ?_) (fun c135 => ?_)
            · refine lv_iconst (v := 1) hx hb dX9_copy_90 (by decide) ?_
              refine lv_goto (tgt := 95) hx hb dX9_copy_91 (by decide) ?_
              refine pg_put (ci := 8) (v := .int 1) (ty := .int) (C := RX9) (T := TX9) (N := 20) hx hb hts hinX9 tyX9 tyX9_ok nmX9 hown hK hP hD hS hmo hFo_125 rfl 17 (by decide) (hts (.fieldLink RX9 65 "RopeDrumsModel" "failed" "I") (by decide +kernel)) (fun _ h9 => h9) rfl (by decide +kernel) (rfl) (rfl) (Nat.le_of_ble_eq_true rfl) dX9_copy_95 (fun H locs F136 eF136 hP hS => ?_)
              have eF136 : F136 = va_up F125 o (.inr (8, [.int 0, .ref (qm 0), .ref (qm 1), .ref (qm 2), .ref (qm 3), .ref (qm 4), .ref (qm 5), .ref (qm 6), .ref (qm 7), .int Pp.1, .ref (qm 8), .ref (qm 9), .ref (qm 10), .ref (qm 11), .ref (qm 12), .ref (qm 13), .ref (qm 14), .int 1, .ref (qm 15), .long oc])) := eF136
              have hFo_136 : F136 o = .inr (8, [.int 0, .ref (qm 0), .ref (qm 1), .ref (qm 2), .ref (qm 3), .ref (qm 4), .ref (qm 5), .ref (qm 6), .ref (qm 7), .int Pp.1, .ref (qm 8), .ref (qm 9), .ref (qm 10), .ref (qm 11), .ref (qm 12), .ref (qm 13), .ref (qm 14), .int 1, .ref (qm 15), .long oc]) := by rw [eF136]; exact va_up_self _ _ _
              have hFqm0_136 : F136 (qm 0) = cI (cy 1) 10 Mm.1 := by rw [eF136, va_up_ne _ _ (pl_ne hFqm0_125 hFo_125 rfl)]; exact hFqm0_125
              have hFqm1_136 : F136 (qm 1) = cJ (cy 2) 10 Mm.2 := by rw [eF136, va_up_ne _ _ (pl_ne hFqm1_125 hFo_125 rfl)]; exact hFqm1_125
              have hFqm2_136 : F136 (qm 2) = cD (cy 0) 6 Dd.1 := by rw [eF136, va_up_ne _ _ (pl_ne hFqm2_125 hFo_125 rfl)]; exact hFqm2_125
              have hFqm3_136 : F136 (qm 3) = cD (cy 0) 6 Dd.2.1 := by rw [eF136, va_up_ne _ _ (pl_ne hFqm3_125 hFo_125 rfl)]; exact hFqm3_125
              have hFqm4_136 : F136 (qm 4) = cD (cy 0) 6 Dd.2.2.1 := by rw [eF136, va_up_ne _ _ (pl_ne hFqm4_125 hFo_125 rfl)]; exact hFqm4_125
              have hFqm5_136 : F136 (qm 5) = cJ (cy 2) 6 Dd.2.2.2 := by rw [eF136, va_up_ne _ _ (pl_ne hFqm5_125 hFo_125 rfl)]; exact hFqm5_125
              have hFqm6_136 : F136 (qm 6) = cI (cy 1) 8 Sl.1 := by rw [eF136, va_up_ne _ _ (pl_ne hFqm6_125 hFo_125 rfl)]; exact hFqm6_125
              have hFqm7_136 : F136 (qm 7) = cJ (cy 2) 128 Sl.2 := by rw [eF136, va_up_ne _ _ (pl_ne hFqm7_125 hFo_125 rfl)]; exact hFqm7_125
              have hFqm8_136 : F136 (qm 8) = cI (cy 1) 30 Pp.2.1 := by rw [eF136, va_up_ne _ _ (pl_ne hFqm8_125 hFo_125 rfl)]; exact hFqm8_125
              have hFqm9_136 : F136 (qm 9) = cI (cy 3) 30 Pp.2.2 := by rw [eF136, va_up_ne _ _ (pl_ne hFqm9_125 hFo_125 rfl)]; exact hFqm9_125
              have hFqm10_136 : F136 (qm 10) = cI (cy 1) 5 Kr.1 := by rw [eF136, va_up_ne _ _ (pl_ne hFqm10_125 hFo_125 rfl)]; exact hFqm10_125
              have hFqm11_136 : F136 (qm 11) = cI (cy 3) 5 Kr.2.1 := by rw [eF136, va_up_ne _ _ (pl_ne hFqm11_125 hFo_125 rfl)]; exact hFqm11_125
              have hFqm12_136 : F136 (qm 12) = cI (cy 1) 60 Kr.2.2 := by rw [eF136, va_up_ne _ _ (pl_ne hFqm12_125 hFo_125 rfl)]; exact hFqm12_125
              have hFqm13_136 : F136 (qm 13) = cI (cy 1) 4 Bk.1 := by rw [eF136, va_up_ne _ _ (pl_ne hFqm13_125 hFo_125 rfl)]; exact hFqm13_125
              have hFqm14_136 : F136 (qm 14) = cD (cy 0) 4 Bk.2 := by rw [eF136, va_up_ne _ _ (pl_ne hFqm14_125 hFo_125 rfl)]; exact hFqm14_125
              have hFqm15_136 : F136 (qm 15) = cI (cy 1) 6 Xx.2 := by rw [eF136, va_up_ne _ _ (pl_ne hFqm15_125 hFo_125 rfl)]; exact hFqm15_125
              rw [ev134] at c135
              refine lv_aload_n hx hb dX9_copy_98 rfl (lv_at hl 2 rfl) ?_
              refine pg_get (ci := 8) (C := RX9) (T := TX9) (N := 20) hx hb hts hinX9 hown hK hP hmo hFo_136 rfl 17 (by decide) (hts (.fieldLink RX9 65 "RopeDrumsModel" "failed" "I") (by decide +kernel)) (fun _ h9 => h9) rfl dX9_copy_99 ?_
              refine lv_if_le (tgt := 111) hx hb dX9_copy_102 (by decide) (fun c137 => absurd c137 (by decide)) (fun c137 => ?_)
              refine lv_aload_n hx hb dX9_copy_105 rfl (lv_at hl 2 rfl) ?_
              refine lv_iconst (v := 0) hx hb dX9_copy_106 (by decide) ?_
              refine va_calli (va_runV (As := [.int 0]) (rest := []) ⟨hx, hb, hml, hown, hts⟩ (c9_answers_1 l G cy L F136 H.size o qm 0 Pp.1 oc hmo hFo_136 Xx.2 hm15 hFqm15_136 0) (cwV 1 hts gX9_copy_X9_answers rfl rfl rfl (by decide +kernel) ⟨Nat.le_of_ble_eq_true rfl, Nat.le_of_ble_eq_true rfl⟩) (preV_of okQ (⟨rfl, hP, hK, hD.top⟩) (pl_recv hK hP (ci := 8) rfl hmo hFo_136)) rfl rfl hl.1 rfl (lv_room (Nat.le_of_ble_eq_true rfl)) dX9_copy_107 ⟨Nat.le_of_ble_eq_true rfl, Nat.le_of_ble_eq_true rfl⟩) hS (fun q _ h => pl_free hD hS hA q h) (pl_free hD hS hA) (fun r139 F138 t H1 locs ht hvm hw hP1 hz1 hk1 hS => ?_)
              have hP1 : va_P G vwCl (va_pl L F138) t.heap := hP1
              rw [ht] at hP1
              have hP := hP1
              generalize H1 = H at hP hS ⊢
              obtain ⟨hqr139, eF138⟩ := hw
              have eF138 : F138 = va_up F136 (qm 15) (cI (cy 1) 6 (upd Xx.2 1 (Xx.2 1 + 1))) := eF138
              have hFo_139 : F138 o = .inr (8, [.int 0, .ref (qm 0), .ref (qm 1), .ref (qm 2), .ref (qm 3), .ref (qm 4), .ref (qm 5), .ref (qm 6), .ref (qm 7), .int Pp.1, .ref (qm 8), .ref (qm 9), .ref (qm 10), .ref (qm 11), .ref (qm 12), .ref (qm 13), .ref (qm 14), .int 1, .ref (qm 15), .long oc]) := by rw [eF138, va_up_ne _ _ (pl_ne hFo_136 hFqm15_136 rfl)]; exact hFo_136
              have hFqm0_139 : F138 (qm 0) = cI (cy 1) 10 Mm.1 := by rw [eF138, va_up_ne _ _ (pl_ne hFqm0_136 hFqm15_136 rfl)]; exact hFqm0_136
              have hFqm1_139 : F138 (qm 1) = cJ (cy 2) 10 Mm.2 := by rw [eF138, va_up_ne _ _ (pl_ne hFqm1_136 hFqm15_136 rfl)]; exact hFqm1_136
              have hFqm2_139 : F138 (qm 2) = cD (cy 0) 6 Dd.1 := by rw [eF138, va_up_ne _ _ (pl_ne hFqm2_136 hFqm15_136 rfl)]; exact hFqm2_136
              have hFqm3_139 : F138 (qm 3) = cD (cy 0) 6 Dd.2.1 := by rw [eF138, va_up_ne _ _ (pl_ne hFqm3_136 hFqm15_136 rfl)]; exact hFqm3_136
              have hFqm4_139 : F138 (qm 4) = cD (cy 0) 6 Dd.2.2.1 := by rw [eF138, va_up_ne _ _ (pl_ne hFqm4_136 hFqm15_136 rfl)]; exact hFqm4_136
              have hFqm5_139 : F138 (qm 5) = cJ (cy 2) 6 Dd.2.2.2 := by rw [eF138, va_up_ne _ _ (pl_ne hFqm5_136 hFqm15_136 rfl)]; exact hFqm5_136
              have hFqm6_139 : F138 (qm 6) = cI (cy 1) 8 Sl.1 := by rw [eF138, va_up_ne _ _ (pl_ne hFqm6_136 hFqm15_136 rfl)]; exact hFqm6_136
              have hFqm7_139 : F138 (qm 7) = cJ (cy 2) 128 Sl.2 := by rw [eF138, va_up_ne _ _ (pl_ne hFqm7_136 hFqm15_136 rfl)]; exact hFqm7_136
              have hFqm8_139 : F138 (qm 8) = cI (cy 1) 30 Pp.2.1 := by rw [eF138, va_up_ne _ _ (pl_ne hFqm8_136 hFqm15_136 rfl)]; exact hFqm8_136
              have hFqm9_139 : F138 (qm 9) = cI (cy 3) 30 Pp.2.2 := by rw [eF138, va_up_ne _ _ (pl_ne hFqm9_136 hFqm15_136 rfl)]; exact hFqm9_136
              have hFqm10_139 : F138 (qm 10) = cI (cy 1) 5 Kr.1 := by rw [eF138, va_up_ne _ _ (pl_ne hFqm10_136 hFqm15_136 rfl)]; exact hFqm10_136
              have hFqm11_139 : F138 (qm 11) = cI (cy 3) 5 Kr.2.1 := by rw [eF138, va_up_ne _ _ (pl_ne hFqm11_136 hFqm15_136 rfl)]; exact hFqm11_136
              have hFqm12_139 : F138 (qm 12) = cI (cy 1) 60 Kr.2.2 := by rw [eF138, va_up_ne _ _ (pl_ne hFqm12_136 hFqm15_136 rfl)]; exact hFqm12_136
              have hFqm13_139 : F138 (qm 13) = cI (cy 1) 4 Bk.1 := by rw [eF138, va_up_ne _ _ (pl_ne hFqm13_136 hFqm15_136 rfl)]; exact hFqm13_136
              have hFqm14_139 : F138 (qm 14) = cD (cy 0) 4 Bk.2 := by rw [eF138, va_up_ne _ _ (pl_ne hFqm14_136 hFqm15_136 rfl)]; exact hFqm14_136
              have hFqm15_139 : F138 (qm 15) = cI (cy 1) 6 (upd Xx.2 1 (Xx.2 1 + 1)) := by rw [eF138]; exact va_up_self _ _ _
              have hr139 := hqr139
              exact W.iret (v := r139) hx hb hr (fun t ht hW => ⟨⟨r139, F138, rfl, (by subst hr139 ev134 ev129 ev126; have hc66 := c135; have hsp : sp_copy Sl Xx (nI j_dd) (nI j_ff) bk = (-11, Sl, failX Xx 1) := (by unfold sp_copy; rw [hi_dd, hi_ff]; refine (if_pos ⟨hd4, hf4⟩).trans ((if_neg hbk).trans ?_); unfold cp; exact if_pos hc66); rw [hsp]; exact ⟨(by show (-10 - 1 : Int32) = -11; decide), (by exact ⟨⟨_, _, hmo, hFo_139⟩, ⟨hm0, hFqm0_139⟩, ⟨hm1, hFqm1_139⟩, ⟨hm2, hFqm2_139⟩, ⟨hm3, hFqm3_139⟩, ⟨hm4, hFqm4_139⟩, ⟨hm5, hFqm5_139⟩, ⟨hm6, hFqm6_139⟩, ⟨hm7, hFqm7_139⟩, ⟨hm8, hFqm8_139⟩, ⟨hm9, hFqm9_139⟩, ⟨hm10, hFqm10_139⟩, ⟨hm11, hFqm11_139⟩, ⟨hm12, hFqm12_139⟩, ⟨hm13, hFqm13_139⟩, ⟨hm14, hFqm14_139⟩, ⟨hm15, hFqm15_139⟩, hne⟩)⟩), (by show va_P _ _ _ t.heap; rw [ht]; exact hP)⟩, hS.F ht⟩) hS.2.2 dX9_copy_110
            · refine lv_aload_n hx hb dX9_copy_69 rfl (lv_at hl 2 rfl) ?_
              refine pg_get (ci := 8) (C := RX9) (T := TX9) (N := 20) hx hb hts hinX9 hown hK hP hmo hFo_125 rfl 7 (by decide) (hts (.fieldLink RX9 30 "RopeDrumsModel" "logSize" "[I") (by decide +kernel)) (fun _ h9 => h9) rfl dX9_copy_70 ?_
              refine lv_iload hx hb dX9_copy_73 (lv_at hl 1 rfl) ?_
              refine pg_iald hx hb hK hP 1 hm6 hFqm6_125 rfl (vp_in_nI (by omega) (by decide)) dX9_copy_75 ?_
              refine lv_topi (fun v140 ev140 => ?_)
              rw [nI_clamp (by omega)] at ev140
              refine lv_if_le (tgt := 94) hx hb dX9_copy_76 (by decide) (fun c141 => ?_) (fun c141 => ?_)
              · refine lv_iconst (v := 0) hx hb dX9_copy_94 (by decide) ?_
                refine pg_put (ci := 8) (v := .int 0) (ty := .int) (C := RX9) (T := TX9) (N := 20) hx hb hts hinX9 tyX9 tyX9_ok nmX9 hown hK hP hD hS hmo hFo_125 rfl 17 (by decide) (hts (.fieldLink RX9 65 "RopeDrumsModel" "failed" "I") (by decide +kernel)) (fun _ h9 => h9) rfl (by decide +kernel) (rfl) (rfl) (Nat.le_of_ble_eq_true rfl) dX9_copy_95 (fun H locs F142 eF142 hP hS => ?_)
                have eF142 : F142 = va_up F125 o (.inr (8, [.int 0, .ref (qm 0), .ref (qm 1), .ref (qm 2), .ref (qm 3), .ref (qm 4), .ref (qm 5), .ref (qm 6), .ref (qm 7), .int Pp.1, .ref (qm 8), .ref (qm 9), .ref (qm 10), .ref (qm 11), .ref (qm 12), .ref (qm 13), .ref (qm 14), .int 0, .ref (qm 15), .long oc])) := eF142
                have hFo_142 : F142 o = .inr (8, [.int 0, .ref (qm 0), .ref (qm 1), .ref (qm 2), .ref (qm 3), .ref (qm 4), .ref (qm 5), .ref (qm 6), .ref (qm 7), .int Pp.1, .ref (qm 8), .ref (qm 9), .ref (qm 10), .ref (qm 11), .ref (qm 12), .ref (qm 13), .ref (qm 14), .int 0, .ref (qm 15), .long oc]) := by rw [eF142]; exact va_up_self _ _ _
                have hFqm0_142 : F142 (qm 0) = cI (cy 1) 10 Mm.1 := by rw [eF142, va_up_ne _ _ (pl_ne hFqm0_125 hFo_125 rfl)]; exact hFqm0_125
                have hFqm1_142 : F142 (qm 1) = cJ (cy 2) 10 Mm.2 := by rw [eF142, va_up_ne _ _ (pl_ne hFqm1_125 hFo_125 rfl)]; exact hFqm1_125
                have hFqm2_142 : F142 (qm 2) = cD (cy 0) 6 Dd.1 := by rw [eF142, va_up_ne _ _ (pl_ne hFqm2_125 hFo_125 rfl)]; exact hFqm2_125
                have hFqm3_142 : F142 (qm 3) = cD (cy 0) 6 Dd.2.1 := by rw [eF142, va_up_ne _ _ (pl_ne hFqm3_125 hFo_125 rfl)]; exact hFqm3_125
                have hFqm4_142 : F142 (qm 4) = cD (cy 0) 6 Dd.2.2.1 := by rw [eF142, va_up_ne _ _ (pl_ne hFqm4_125 hFo_125 rfl)]; exact hFqm4_125
                have hFqm5_142 : F142 (qm 5) = cJ (cy 2) 6 Dd.2.2.2 := by rw [eF142, va_up_ne _ _ (pl_ne hFqm5_125 hFo_125 rfl)]; exact hFqm5_125
                have hFqm6_142 : F142 (qm 6) = cI (cy 1) 8 Sl.1 := by rw [eF142, va_up_ne _ _ (pl_ne hFqm6_125 hFo_125 rfl)]; exact hFqm6_125
                have hFqm7_142 : F142 (qm 7) = cJ (cy 2) 128 Sl.2 := by rw [eF142, va_up_ne _ _ (pl_ne hFqm7_125 hFo_125 rfl)]; exact hFqm7_125
                have hFqm8_142 : F142 (qm 8) = cI (cy 1) 30 Pp.2.1 := by rw [eF142, va_up_ne _ _ (pl_ne hFqm8_125 hFo_125 rfl)]; exact hFqm8_125
                have hFqm9_142 : F142 (qm 9) = cI (cy 3) 30 Pp.2.2 := by rw [eF142, va_up_ne _ _ (pl_ne hFqm9_125 hFo_125 rfl)]; exact hFqm9_125
                have hFqm10_142 : F142 (qm 10) = cI (cy 1) 5 Kr.1 := by rw [eF142, va_up_ne _ _ (pl_ne hFqm10_125 hFo_125 rfl)]; exact hFqm10_125
                have hFqm11_142 : F142 (qm 11) = cI (cy 3) 5 Kr.2.1 := by rw [eF142, va_up_ne _ _ (pl_ne hFqm11_125 hFo_125 rfl)]; exact hFqm11_125
                have hFqm12_142 : F142 (qm 12) = cI (cy 1) 60 Kr.2.2 := by rw [eF142, va_up_ne _ _ (pl_ne hFqm12_125 hFo_125 rfl)]; exact hFqm12_125
                have hFqm13_142 : F142 (qm 13) = cI (cy 1) 4 Bk.1 := by rw [eF142, va_up_ne _ _ (pl_ne hFqm13_125 hFo_125 rfl)]; exact hFqm13_125
                have hFqm14_142 : F142 (qm 14) = cD (cy 0) 4 Bk.2 := by rw [eF142, va_up_ne _ _ (pl_ne hFqm14_125 hFo_125 rfl)]; exact hFqm14_125
                have hFqm15_142 : F142 (qm 15) = cI (cy 1) 6 Xx.2 := by rw [eF142, va_up_ne _ _ (pl_ne hFqm15_125 hFo_125 rfl)]; exact hFqm15_125
                rw [ev134] at c135
                rw [ev140] at c141
                refine lv_aload_n hx hb dX9_copy_98 rfl (lv_at hl 2 rfl) ?_
                refine pg_get (ci := 8) (C := RX9) (T := TX9) (N := 20) hx hb hts hinX9 hown hK hP hmo hFo_142 rfl 17 (by decide) (hts (.fieldLink RX9 65 "RopeDrumsModel" "failed" "I") (by decide +kernel)) (fun _ h9 => h9) rfl dX9_copy_99 ?_
                refine lv_if_le (tgt := 111) hx hb dX9_copy_102 (by decide) (fun c143 => ?_) (fun c143 => absurd (by decide) c143)
                refine lv_iconst (v := 0) hx hb dX9_copy_111 (by decide) ?_
                refine lv_istore (lv' := [(6, .int 0), (5, .int (nI j_dd)), (4, .int (nI j_ff)), (0, .ref o), (1, .int (nI j_dd)), (2, .int (nI j_ff)), (3, .int bk)]) hx hb dX9_copy_112 hl (by decide) rfl (fun ls hl => ?_)
                refine lp_w (pc := 114) (nL := 7) (α := Nat) (fun xx => (xx = 0 ∨ ((xx : Int) ≤ (Sl.1 j_ff).toInt ∧ (xx : Int) ≤ (Sl.1 j_dd).toInt))) (fun xx => [(6, .int (nI xx)), (0, .ref o), (4, .int (nI j_ff)), (5, .int (nI j_dd))]) (fun xx => va_pl L (va_up F142 (qm 7) (cJ (cy 2) 128 (cpy Sl j_ff j_dd xx)))) (fun xx => 16 - xx) (fun kk ls H locs hI hP hS hl K => ?_) 0 ls (Or.inl rfl) (by rw [show va_up F142 (qm 7) (cJ (cy 2) 128 (cpy Sl j_ff j_dd 0)) = F142 from (by rw [cpy0]; exact upid hFqm7_142)]; exact hP) hS (lv_sub hl [0, 3, 2, 1] rfl)
                obtain ⟨F144, eF144⟩ : ∃ y : Nat → va_E, y = va_up F142 (qm 7) (cJ (cy 2) 128 (cpy Sl j_ff j_dd kk)) := ⟨_, rfl⟩
                rw [← eF144] at hP
                have hFo_144 : F144 o = .inr (8, [.int 0, .ref (qm 0), .ref (qm 1), .ref (qm 2), .ref (qm 3), .ref (qm 4), .ref (qm 5), .ref (qm 6), .ref (qm 7), .int Pp.1, .ref (qm 8), .ref (qm 9), .ref (qm 10), .ref (qm 11), .ref (qm 12), .ref (qm 13), .ref (qm 14), .int 0, .ref (qm 15), .long oc]) := by rw [eF144, va_up_ne _ _ (pl_ne hFo_142 hFqm7_142 rfl)]; exact hFo_142
                have hFqm0_144 : F144 (qm 0) = cI (cy 1) 10 Mm.1 := by rw [eF144, va_up_ne _ _ (pl_ne hFqm0_142 hFqm7_142 rfl)]; exact hFqm0_142
                have hFqm1_144 : F144 (qm 1) = cJ (cy 2) 10 Mm.2 := by rw [eF144, va_up_ne _ _ (pl_ne hFqm1_142 hFqm7_142 rfl)]; exact hFqm1_142
                have hFqm2_144 : F144 (qm 2) = cD (cy 0) 6 Dd.1 := by rw [eF144, va_up_ne _ _ (pl_ne hFqm2_142 hFqm7_142 rfl)]; exact hFqm2_142
                have hFqm3_144 : F144 (qm 3) = cD (cy 0) 6 Dd.2.1 := by rw [eF144, va_up_ne _ _ (pl_ne hFqm3_142 hFqm7_142 rfl)]; exact hFqm3_142
                have hFqm4_144 : F144 (qm 4) = cD (cy 0) 6 Dd.2.2.1 := by rw [eF144, va_up_ne _ _ (pl_ne hFqm4_142 hFqm7_142 rfl)]; exact hFqm4_142
                have hFqm5_144 : F144 (qm 5) = cJ (cy 2) 6 Dd.2.2.2 := by rw [eF144, va_up_ne _ _ (pl_ne hFqm5_142 hFqm7_142 rfl)]; exact hFqm5_142
                have hFqm6_144 : F144 (qm 6) = cI (cy 1) 8 Sl.1 := by rw [eF144, va_up_ne _ _ (pl_ne hFqm6_142 hFqm7_142 rfl)]; exact hFqm6_142
                have hFqm7_144 : F144 (qm 7) = cJ (cy 2) 128 (cpy Sl j_ff j_dd kk) := by rw [eF144]; exact va_up_self _ _ _
                have hFqm8_144 : F144 (qm 8) = cI (cy 1) 30 Pp.2.1 := by rw [eF144, va_up_ne _ _ (pl_ne hFqm8_142 hFqm7_142 rfl)]; exact hFqm8_142
                have hFqm9_144 : F144 (qm 9) = cI (cy 3) 30 Pp.2.2 := by rw [eF144, va_up_ne _ _ (pl_ne hFqm9_142 hFqm7_142 rfl)]; exact hFqm9_142
                have hFqm10_144 : F144 (qm 10) = cI (cy 1) 5 Kr.1 := by rw [eF144, va_up_ne _ _ (pl_ne hFqm10_142 hFqm7_142 rfl)]; exact hFqm10_142
                have hFqm11_144 : F144 (qm 11) = cI (cy 3) 5 Kr.2.1 := by rw [eF144, va_up_ne _ _ (pl_ne hFqm11_142 hFqm7_142 rfl)]; exact hFqm11_142
                have hFqm12_144 : F144 (qm 12) = cI (cy 1) 60 Kr.2.2 := by rw [eF144, va_up_ne _ _ (pl_ne hFqm12_142 hFqm7_142 rfl)]; exact hFqm12_142
                have hFqm13_144 : F144 (qm 13) = cI (cy 1) 4 Bk.1 := by rw [eF144, va_up_ne _ _ (pl_ne hFqm13_142 hFqm7_142 rfl)]; exact hFqm13_142
                have hFqm14_144 : F144 (qm 14) = cD (cy 0) 4 Bk.2 := by rw [eF144, va_up_ne _ _ (pl_ne hFqm14_142 hFqm7_142 rfl)]; exact hFqm14_142
                have hFqm15_144 : F144 (qm 15) = cI (cy 1) 6 Xx.2 := by rw [eF144, va_up_ne _ _ (pl_ne hFqm15_142 hFqm7_142 rfl)]; exact hFqm15_142
                have hl : lv_has ls 7 [(6, .int (nI kk)), (0, .ref o), (4, .int (nI j_ff)), (5, .int (nI j_dd))] := hl
                refine lv_iload hx hb dX9_copy_114 (lv_at hl 0 rfl) ?_
                refine lv_aload_n hx hb dX9_copy_116 rfl (lv_at hl 1 rfl) ?_
                refine pg_get (ci := 8) (C := RX9) (T := TX9) (N := 20) hx hb hts hinX9 hown hK hP hmo hFo_144 rfl 7 (by decide) (hts (.fieldLink RX9 30 "RopeDrumsModel" "logSize" "[I") (by decide +kernel)) (fun _ h9 => h9) rfl dX9_copy_117 ?_
                refine lv_iload hx hb dX9_copy_120 (lv_at hl 2 rfl) ?_
                refine pg_iald hx hb hK hP 1 hm6 hFqm6_144 rfl (vp_in_nI (by omega) (by decide)) dX9_copy_122 ?_
                refine lv_topi (fun v145 ev145 => ?_)
                rw [nI_clamp (by omega)] at ev145
                refine lv_icmp_ge (tgt := 183) hx hb dX9_copy_123 (by decide) (fun c146 => ?_) (fun c146 => ?_)
                · have hex : (Sl.1 j_ff).toInt ≤ (kk : Int) := by have hc := c146; rw [ev145, fa_le, nI_toInt (by omega)] at hc; omega
                  refine lv_aload_n hx hb dX9_copy_183 rfl (lv_at hl 1 rfl) ?_
                  refine lv_iload hx hb dX9_copy_184 (lv_at hl 0 rfl) ?_
                  refine lv_aload_n hx hb dX9_copy_186 rfl (lv_at hl 1 rfl) ?_
                  refine pg_get (ci := 8) (C := RX9) (T := TX9) (N := 20) hx hb hts hinX9 hown hK hP hmo hFo_144 rfl 7 (by decide) (hts (.fieldLink RX9 30 "RopeDrumsModel" "logSize" "[I") (by decide +kernel)) (fun _ h9 => h9) rfl dX9_copy_187 ?_
                  refine lv_iload hx hb dX9_copy_190 (lv_at hl 2 rfl) ?_
                  refine pg_iald hx hb hK hP 1 hm6 hFqm6_144 rfl (vp_in_nI (by omega) (by decide)) dX9_copy_192 ?_
                  refine lv_topi (fun v147 ev147 => ?_)
                  rw [nI_clamp (by omega)] at ev147
                  refine lv_icmp_ge (tgt := 200) hx hb dX9_copy_193 (by decide) (fun c148 => ?_) (fun c148 => ?_)
                  · refine lv_iconst (v := 0) hx hb dX9_copy_200 (by decide) ?_
                    refine pg_put (ci := 8) (v := .int 0) (ty := .int) (C := RX9) (T := TX9) (N := 20) hx hb hts hinX9 tyX9 tyX9_ok nmX9 hown hK hP hD hS hmo hFo_144 rfl 17 (by decide) (hts (.fieldLink RX9 65 "RopeDrumsModel" "failed" "I") (by decide +kernel)) (fun _ h9 => h9) rfl (by decide +kernel) (rfl) (rfl) (Nat.le_of_ble_eq_true rfl) dX9_copy_201 (fun H locs F149 eF149 hP hS => ?_)
                    have eF149 : F149 = va_up F144 o (.inr (8, [.int 0, .ref (qm 0), .ref (qm 1), .ref (qm 2), .ref (qm 3), .ref (qm 4), .ref (qm 5), .ref (qm 6), .ref (qm 7), .int Pp.1, .ref (qm 8), .ref (qm 9), .ref (qm 10), .ref (qm 11), .ref (qm 12), .ref (qm 13), .ref (qm 14), .int 0, .ref (qm 15), .long oc])) := eF149
                    have hFo_149 : F149 o = .inr (8, [.int 0, .ref (qm 0), .ref (qm 1), .ref (qm 2), .ref (qm 3), .ref (qm 4), .ref (qm 5), .ref (qm 6), .ref (qm 7), .int Pp.1, .ref (qm 8), .ref (qm 9), .ref (qm 10), .ref (qm 11), .ref (qm 12), .ref (qm 13), .ref (qm 14), .int 0, .ref (qm 15), .long oc]) := by rw [eF149]; exact va_up_self _ _ _
                    have hFqm0_149 : F149 (qm 0) = cI (cy 1) 10 Mm.1 := by rw [eF149, va_up_ne _ _ (pl_ne hFqm0_144 hFo_144 rfl)]; exact hFqm0_144
                    have hFqm1_149 : F149 (qm 1) = cJ (cy 2) 10 Mm.2 := by rw [eF149, va_up_ne _ _ (pl_ne hFqm1_144 hFo_144 rfl)]; exact hFqm1_144
                    have hFqm2_149 : F149 (qm 2) = cD (cy 0) 6 Dd.1 := by rw [eF149, va_up_ne _ _ (pl_ne hFqm2_144 hFo_144 rfl)]; exact hFqm2_144
                    have hFqm3_149 : F149 (qm 3) = cD (cy 0) 6 Dd.2.1 := by rw [eF149, va_up_ne _ _ (pl_ne hFqm3_144 hFo_144 rfl)]; exact hFqm3_144
                    have hFqm4_149 : F149 (qm 4) = cD (cy 0) 6 Dd.2.2.1 := by rw [eF149, va_up_ne _ _ (pl_ne hFqm4_144 hFo_144 rfl)]; exact hFqm4_144
                    have hFqm5_149 : F149 (qm 5) = cJ (cy 2) 6 Dd.2.2.2 := by rw [eF149, va_up_ne _ _ (pl_ne hFqm5_144 hFo_144 rfl)]; exact hFqm5_144
                    have hFqm6_149 : F149 (qm 6) = cI (cy 1) 8 Sl.1 := by rw [eF149, va_up_ne _ _ (pl_ne hFqm6_144 hFo_144 rfl)]; exact hFqm6_144
                    have hFqm7_149 : F149 (qm 7) = cJ (cy 2) 128 (cpy Sl j_ff j_dd kk) := by rw [eF149, va_up_ne _ _ (pl_ne hFqm7_144 hFo_144 rfl)]; exact hFqm7_144
                    have hFqm8_149 : F149 (qm 8) = cI (cy 1) 30 Pp.2.1 := by rw [eF149, va_up_ne _ _ (pl_ne hFqm8_144 hFo_144 rfl)]; exact hFqm8_144
                    have hFqm9_149 : F149 (qm 9) = cI (cy 3) 30 Pp.2.2 := by rw [eF149, va_up_ne _ _ (pl_ne hFqm9_144 hFo_144 rfl)]; exact hFqm9_144
                    have hFqm10_149 : F149 (qm 10) = cI (cy 1) 5 Kr.1 := by rw [eF149, va_up_ne _ _ (pl_ne hFqm10_144 hFo_144 rfl)]; exact hFqm10_144
                    have hFqm11_149 : F149 (qm 11) = cI (cy 3) 5 Kr.2.1 := by rw [eF149, va_up_ne _ _ (pl_ne hFqm11_144 hFo_144 rfl)]; exact hFqm11_144
                    have hFqm12_149 : F149 (qm 12) = cI (cy 1) 60 Kr.2.2 := by rw [eF149, va_up_ne _ _ (pl_ne hFqm12_144 hFo_144 rfl)]; exact hFqm12_144
                    have hFqm13_149 : F149 (qm 13) = cI (cy 1) 4 Bk.1 := by rw [eF149, va_up_ne _ _ (pl_ne hFqm13_144 hFo_144 rfl)]; exact hFqm13_144
                    have hFqm14_149 : F149 (qm 14) = cD (cy 0) 4 Bk.2 := by rw [eF149, va_up_ne _ _ (pl_ne hFqm14_144 hFo_144 rfl)]; exact hFqm14_144
                    have hFqm15_149 : F149 (qm 15) = cI (cy 1) 6 Xx.2 := by rw [eF149, va_up_ne _ _ (pl_ne hFqm15_144 hFo_144 rfl)]; exact hFqm15_144
                    refine lv_aload_n hx hb dX9_copy_204 rfl (lv_at hl 1 rfl) ?_
                    refine pg_get (ci := 8) (C := RX9) (T := TX9) (N := 20) hx hb hts hinX9 hown hK hP hmo hFo_149 rfl 18 (by decide) (hts (.fieldLink RX9 58 "RopeDrumsModel" "counted" "[I") (by decide +kernel)) (fun _ h9 => h9) rfl dX9_copy_205 ?_
                    refine lv_iconst (v := 2) hx hb dX9_copy_208 (by decide) ?_
                    refine lv_dup2_11 hx hb dX9_copy_209 rfl rfl ?_
                    refine pg_iald hx hb hK hP 1 hm15 hFqm15_149 rfl (vp_in_nI (n := 2) (N := 6) (by decide) (by decide)) dX9_copy_210 ?_
                    refine lv_topi (fun v150 ev150 => ?_)
                    refine lv_aload_n hx hb dX9_copy_211 rfl (lv_at hl 1 rfl) ?_
                    refine pg_get (ci := 8) (C := RX9) (T := TX9) (N := 20) hx hb hts hinX9 hown hK hP hmo hFo_149 rfl 17 (by decide) (hts (.fieldLink RX9 65 "RopeDrumsModel" "failed" "I") (by decide +kernel)) (fun _ h9 => h9) rfl dX9_copy_212 ?_
                    refine lv_if_le (tgt := 222) hx hb dX9_copy_215 (by decide) (fun c151 => ?_) (fun c151 => absurd (by decide) c151)
                    refine lv_iconst (v := 0) hx hb dX9_copy_222 (by decide) ?_
                    refine lv_iadd hx hb dX9_copy_223 ?_
                    refine lv_topi (fun v152 ev152 => ?_)
                    refine pg_iast hx hb hK hP hD hS 1 hm15 hFqm15_149 rfl (vp_in_nI (n := 2) (N := 6) (by decide) (by decide)) dX9_copy_224 (fun H locs F153 eF153 hP hS => ?_)
                    have hFo_153 : F153 o = .inr (8, [.int 0, .ref (qm 0), .ref (qm 1), .ref (qm 2), .ref (qm 3), .ref (qm 4), .ref (qm 5), .ref (qm 6), .ref (qm 7), .int Pp.1, .ref (qm 8), .ref (qm 9), .ref (qm 10), .ref (qm 11), .ref (qm 12), .ref (qm 13), .ref (qm 14), .int 0, .ref (qm 15), .long oc]) := by rw [eF153, va_up_ne _ _ (pl_ne hFo_149 hFqm15_149 rfl)]; exact hFo_149
                    have hFqm0_153 : F153 (qm 0) = cI (cy 1) 10 Mm.1 := by rw [eF153, va_up_ne _ _ (pl_ne hFqm0_149 hFqm15_149 rfl)]; exact hFqm0_149
                    have hFqm1_153 : F153 (qm 1) = cJ (cy 2) 10 Mm.2 := by rw [eF153, va_up_ne _ _ (pl_ne hFqm1_149 hFqm15_149 rfl)]; exact hFqm1_149
                    have hFqm2_153 : F153 (qm 2) = cD (cy 0) 6 Dd.1 := by rw [eF153, va_up_ne _ _ (pl_ne hFqm2_149 hFqm15_149 rfl)]; exact hFqm2_149
                    have hFqm3_153 : F153 (qm 3) = cD (cy 0) 6 Dd.2.1 := by rw [eF153, va_up_ne _ _ (pl_ne hFqm3_149 hFqm15_149 rfl)]; exact hFqm3_149
                    have hFqm4_153 : F153 (qm 4) = cD (cy 0) 6 Dd.2.2.1 := by rw [eF153, va_up_ne _ _ (pl_ne hFqm4_149 hFqm15_149 rfl)]; exact hFqm4_149
                    have hFqm5_153 : F153 (qm 5) = cJ (cy 2) 6 Dd.2.2.2 := by rw [eF153, va_up_ne _ _ (pl_ne hFqm5_149 hFqm15_149 rfl)]; exact hFqm5_149
                    have hFqm6_153 : F153 (qm 6) = cI (cy 1) 8 Sl.1 := by rw [eF153, va_up_ne _ _ (pl_ne hFqm6_149 hFqm15_149 rfl)]; exact hFqm6_149
                    have hFqm7_153 : F153 (qm 7) = cJ (cy 2) 128 (cpy Sl j_ff j_dd kk) := by rw [eF153, va_up_ne _ _ (pl_ne hFqm7_149 hFqm15_149 rfl)]; exact hFqm7_149
                    have hFqm8_153 : F153 (qm 8) = cI (cy 1) 30 Pp.2.1 := by rw [eF153, va_up_ne _ _ (pl_ne hFqm8_149 hFqm15_149 rfl)]; exact hFqm8_149
                    have hFqm9_153 : F153 (qm 9) = cI (cy 3) 30 Pp.2.2 := by rw [eF153, va_up_ne _ _ (pl_ne hFqm9_149 hFqm15_149 rfl)]; exact hFqm9_149
                    have hFqm10_153 : F153 (qm 10) = cI (cy 1) 5 Kr.1 := by rw [eF153, va_up_ne _ _ (pl_ne hFqm10_149 hFqm15_149 rfl)]; exact hFqm10_149
                    have hFqm11_153 : F153 (qm 11) = cI (cy 3) 5 Kr.2.1 := by rw [eF153, va_up_ne _ _ (pl_ne hFqm11_149 hFqm15_149 rfl)]; exact hFqm11_149
                    have hFqm12_153 : F153 (qm 12) = cI (cy 1) 60 Kr.2.2 := by rw [eF153, va_up_ne _ _ (pl_ne hFqm12_149 hFqm15_149 rfl)]; exact hFqm12_149
                    have hFqm13_153 : F153 (qm 13) = cI (cy 1) 4 Bk.1 := by rw [eF153, va_up_ne _ _ (pl_ne hFqm13_149 hFqm15_149 rfl)]; exact hFqm13_149
                    have hFqm14_153 : F153 (qm 14) = cD (cy 0) 4 Bk.2 := by rw [eF153, va_up_ne _ _ (pl_ne hFqm14_149 hFqm15_149 rfl)]; exact hFqm14_149
                    have hFqm15_153 : F153 (qm 15) = cI (cy 1) 6 (upd Xx.2 (2 : Int32).toNatClampNeg v152) := by rw [eF153]; exact va_up_self _ _ _
                    refine lv_iload hx hb dX9_copy_225 (lv_at hl 0 rfl) ?_
                    exact W.iret (v := nI kk) hx hb hr (fun t ht hW => ⟨⟨nI kk, F153, rfl, (by subst ev152 ev150 ev147 ev145; have hc66 := c135; have hc76 := c141; have hc193 := c148; have hk0 : kk = 0 := (by rw [fa_eq] at hc66; rw [fa_le] at hc76; rw [fa_le, nI_toInt (by omega)] at hc193; omega); have hz0 : Sl.1 j_ff = 0 := (by rw [fa_eq] at hc66; rw [fa_le] at hc76; rw [fa_le, nI_toInt (by omega)] at hc193; rw [fa_eq]; omega); subst hk0; rw [cpy0] at hFqm7_153; rw [updid0] at hFqm15_153; have hsp : sp_copy Sl Xx (nI j_dd) (nI j_ff) bk = (0, Sl, goodX Xx) := (by unfold sp_copy; rw [hi_dd, hi_ff]; refine (if_pos ⟨hd4, hf4⟩).trans ((if_neg hbk).trans ?_); unfold cp; rw [if_neg hc66, if_pos hz0]); rw [hsp]; exact ⟨rfl, (by exact ⟨⟨_, _, hmo, hFo_153⟩, ⟨hm0, hFqm0_153⟩, ⟨hm1, hFqm1_153⟩, ⟨hm2, hFqm2_153⟩, ⟨hm3, hFqm3_153⟩, ⟨hm4, hFqm4_153⟩, ⟨hm5, hFqm5_153⟩, ⟨hm6, hFqm6_153⟩, ⟨hm7, hFqm7_153⟩, ⟨hm8, hFqm8_153⟩, ⟨hm9, hFqm9_153⟩, ⟨hm10, hFqm10_153⟩, ⟨hm11, hFqm11_153⟩, ⟨hm12, hFqm12_153⟩, ⟨hm13, hFqm13_153⟩, ⟨hm14, hFqm14_153⟩, ⟨hm15, hFqm15_153⟩, hne⟩)⟩), (by show va_P _ _ _ t.heap; rw [ht]; exact hP)⟩, hS.F ht⟩) hS.2.2 dX9_copy_227
                  · refine lv_iconst (v := 2) hx hb dX9_copy_196 (by decide) ?_
                    refine lv_goto (tgt := 201) hx hb dX9_copy_197 (by decide) ?_
                    refine pg_put (ci := 8) (v := .int 2) (ty := .int) (C := RX9) (T := TX9) (N := 20) hx hb hts hinX9 tyX9 tyX9_ok nmX9 hown hK hP hD hS hmo hFo_144 rfl 17 (by decide) (hts (.fieldLink RX9 65 "RopeDrumsModel" "failed" "I") (by decide +kernel)) (fun _ h9 => h9) rfl (by decide +kernel) (rfl) (rfl) (Nat.le_of_ble_eq_true rfl) dX9_copy_201 (fun H locs F154 eF154 hP hS => ?_)
                    have eF154 : F154 = va_up F144 o (.inr (8, [.int 0, .ref (qm 0), .ref (qm 1), .ref (qm 2), .ref (qm 3), .ref (qm 4), .ref (qm 5), .ref (qm 6), .ref (qm 7), .int Pp.1, .ref (qm 8), .ref (qm 9), .ref (qm 10), .ref (qm 11), .ref (qm 12), .ref (qm 13), .ref (qm 14), .int 2, .ref (qm 15), .long oc])) := eF154
                    have hFo_154 : F154 o = .inr (8, [.int 0, .ref (qm 0), .ref (qm 1), .ref (qm 2), .ref (qm 3), .ref (qm 4), .ref (qm 5), .ref (qm 6), .ref (qm 7), .int Pp.1, .ref (qm 8), .ref (qm 9), .ref (qm 10), .ref (qm 11), .ref (qm 12), .ref (qm 13), .ref (qm 14), .int 2, .ref (qm 15), .long oc]) := by rw [eF154]; exact va_up_self _ _ _
                    have hFqm0_154 : F154 (qm 0) = cI (cy 1) 10 Mm.1 := by rw [eF154, va_up_ne _ _ (pl_ne hFqm0_144 hFo_144 rfl)]; exact hFqm0_144
                    have hFqm1_154 : F154 (qm 1) = cJ (cy 2) 10 Mm.2 := by rw [eF154, va_up_ne _ _ (pl_ne hFqm1_144 hFo_144 rfl)]; exact hFqm1_144
                    have hFqm2_154 : F154 (qm 2) = cD (cy 0) 6 Dd.1 := by rw [eF154, va_up_ne _ _ (pl_ne hFqm2_144 hFo_144 rfl)]; exact hFqm2_144
                    have hFqm3_154 : F154 (qm 3) = cD (cy 0) 6 Dd.2.1 := by rw [eF154, va_up_ne _ _ (pl_ne hFqm3_144 hFo_144 rfl)]; exact hFqm3_144
                    have hFqm4_154 : F154 (qm 4) = cD (cy 0) 6 Dd.2.2.1 := by rw [eF154, va_up_ne _ _ (pl_ne hFqm4_144 hFo_144 rfl)]; exact hFqm4_144
                    have hFqm5_154 : F154 (qm 5) = cJ (cy 2) 6 Dd.2.2.2 := by rw [eF154, va_up_ne _ _ (pl_ne hFqm5_144 hFo_144 rfl)]; exact hFqm5_144
                    have hFqm6_154 : F154 (qm 6) = cI (cy 1) 8 Sl.1 := by rw [eF154, va_up_ne _ _ (pl_ne hFqm6_144 hFo_144 rfl)]; exact hFqm6_144
                    have hFqm7_154 : F154 (qm 7) = cJ (cy 2) 128 (cpy Sl j_ff j_dd kk) := by rw [eF154, va_up_ne _ _ (pl_ne hFqm7_144 hFo_144 rfl)]; exact hFqm7_144
                    have hFqm8_154 : F154 (qm 8) = cI (cy 1) 30 Pp.2.1 := by rw [eF154, va_up_ne _ _ (pl_ne hFqm8_144 hFo_144 rfl)]; exact hFqm8_144
                    have hFqm9_154 : F154 (qm 9) = cI (cy 3) 30 Pp.2.2 := by rw [eF154, va_up_ne _ _ (pl_ne hFqm9_144 hFo_144 rfl)]; exact hFqm9_144
                    have hFqm10_154 : F154 (qm 10) = cI (cy 1) 5 Kr.1 := by rw [eF154, va_up_ne _ _ (pl_ne hFqm10_144 hFo_144 rfl)]; exact hFqm10_144
                    have hFqm11_154 : F154 (qm 11) = cI (cy 3) 5 Kr.2.1 := by rw [eF154, va_up_ne _ _ (pl_ne hFqm11_144 hFo_144 rfl)]; exact hFqm11_144
                    have hFqm12_154 : F154 (qm 12) = cI (cy 1) 60 Kr.2.2 := by rw [eF154, va_up_ne _ _ (pl_ne hFqm12_144 hFo_144 rfl)]; exact hFqm12_144
                    have hFqm13_154 : F154 (qm 13) = cI (cy 1) 4 Bk.1 := by rw [eF154, va_up_ne _ _ (pl_ne hFqm13_144 hFo_144 rfl)]; exact hFqm13_144
                    have hFqm14_154 : F154 (qm 14) = cD (cy 0) 4 Bk.2 := by rw [eF154, va_up_ne _ _ (pl_ne hFqm14_144 hFo_144 rfl)]; exact hFqm14_144
                    have hFqm15_154 : F154 (qm 15) = cI (cy 1) 6 Xx.2 := by rw [eF154, va_up_ne _ _ (pl_ne hFqm15_144 hFo_144 rfl)]; exact hFqm15_144
                    refine lv_aload_n hx hb dX9_copy_204 rfl (lv_at hl 1 rfl) ?_
                    refine pg_get (ci := 8) (C := RX9) (T := TX9) (N := 20) hx hb hts hinX9 hown hK hP hmo hFo_154 rfl 18 (by decide) (hts (.fieldLink RX9 58 "RopeDrumsModel" "counted" "[I") (by decide +kernel)) (fun _ h9 => h9) rfl dX9_copy_205 ?_
                    refine lv_iconst (v := 2) hx hb dX9_copy_208 (by decide) ?_
                    refine lv_dup2_11 hx hb dX9_copy_209 rfl rfl ?_
                    refine pg_iald hx hb hK hP 1 hm15 hFqm15_154 rfl (vp_in_nI (n := 2) (N := 6) (by decide) (by decide)) dX9_copy_210 ?_
                    refine lv_topi (fun v155 ev155 => ?_)
                    refine lv_aload_n hx hb dX9_copy_211 rfl (lv_at hl 1 rfl) ?_
                    refine pg_get (ci := 8) (C := RX9) (T := TX9) (N := 20) hx hb hts hinX9 hown hK hP hmo hFo_154 rfl 17 (by decide) (hts (.fieldLink RX9 65 "RopeDrumsModel" "failed" "I") (by decide +kernel)) (fun _ h9 => h9) rfl dX9_copy_212 ?_
                    refine lv_if_le (tgt := 222) hx hb dX9_copy_215 (by decide) (fun c156 => absurd c156 (by decide)) (fun c156 => ?_)
                    refine lv_iconst (v := 1) hx hb dX9_copy_218 (by decide) ?_
                    refine lv_goto (tgt := 223) hx hb dX9_copy_219 (by decide) ?_
                    refine lv_iadd hx hb dX9_copy_223 ?_
                    refine lv_topi (fun v157 ev157 => ?_)
                    refine pg_iast hx hb hK hP hD hS 1 hm15 hFqm15_154 rfl (vp_in_nI (n := 2) (N := 6) (by decide) (by decide)) dX9_copy_224 (fun H locs F158 eF158 hP hS => ?_)
                    have hFo_158 : F158 o = .inr (8, [.int 0, .ref (qm 0), .ref (qm 1), .ref (qm 2), .ref (qm 3), .ref (qm 4), .ref (qm 5), .ref (qm 6), .ref (qm 7), .int Pp.1, .ref (qm 8), .ref (qm 9), .ref (qm 10), .ref (qm 11), .ref (qm 12), .ref (qm 13), .ref (qm 14), .int 2, .ref (qm 15), .long oc]) := by rw [eF158, va_up_ne _ _ (pl_ne hFo_154 hFqm15_154 rfl)]; exact hFo_154
                    have hFqm0_158 : F158 (qm 0) = cI (cy 1) 10 Mm.1 := by rw [eF158, va_up_ne _ _ (pl_ne hFqm0_154 hFqm15_154 rfl)]; exact hFqm0_154
                    have hFqm1_158 : F158 (qm 1) = cJ (cy 2) 10 Mm.2 := by rw [eF158, va_up_ne _ _ (pl_ne hFqm1_154 hFqm15_154 rfl)]; exact hFqm1_154
                    have hFqm2_158 : F158 (qm 2) = cD (cy 0) 6 Dd.1 := by rw [eF158, va_up_ne _ _ (pl_ne hFqm2_154 hFqm15_154 rfl)]; exact hFqm2_154
                    have hFqm3_158 : F158 (qm 3) = cD (cy 0) 6 Dd.2.1 := by rw [eF158, va_up_ne _ _ (pl_ne hFqm3_154 hFqm15_154 rfl)]; exact hFqm3_154
                    have hFqm4_158 : F158 (qm 4) = cD (cy 0) 6 Dd.2.2.1 := by rw [eF158, va_up_ne _ _ (pl_ne hFqm4_154 hFqm15_154 rfl)]; exact hFqm4_154
                    have hFqm5_158 : F158 (qm 5) = cJ (cy 2) 6 Dd.2.2.2 := by rw [eF158, va_up_ne _ _ (pl_ne hFqm5_154 hFqm15_154 rfl)]; exact hFqm5_154
                    have hFqm6_158 : F158 (qm 6) = cI (cy 1) 8 Sl.1 := by rw [eF158, va_up_ne _ _ (pl_ne hFqm6_154 hFqm15_154 rfl)]; exact hFqm6_154
                    have hFqm7_158 : F158 (qm 7) = cJ (cy 2) 128 (cpy Sl j_ff j_dd kk) := by rw [eF158, va_up_ne _ _ (pl_ne hFqm7_154 hFqm15_154 rfl)]; exact hFqm7_154
                    have hFqm8_158 : F158 (qm 8) = cI (cy 1) 30 Pp.2.1 := by rw [eF158, va_up_ne _ _ (pl_ne hFqm8_154 hFqm15_154 rfl)]; exact hFqm8_154
                    have hFqm9_158 : F158 (qm 9) = cI (cy 3) 30 Pp.2.2 := by rw [eF158, va_up_ne _ _ (pl_ne hFqm9_154 hFqm15_154 rfl)]; exact hFqm9_154
                    have hFqm10_158 : F158 (qm 10) = cI (cy 1) 5 Kr.1 := by rw [eF158, va_up_ne _ _ (pl_ne hFqm10_154 hFqm15_154 rfl)]; exact hFqm10_154
                    have hFqm11_158 : F158 (qm 11) = cI (cy 3) 5 Kr.2.1 := by rw [eF158, va_up_ne _ _ (pl_ne hFqm11_154 hFqm15_154 rfl)]; exact hFqm11_154
                    have hFqm12_158 : F158 (qm 12) = cI (cy 1) 60 Kr.2.2 := by rw [eF158, va_up_ne _ _ (pl_ne hFqm12_154 hFqm15_154 rfl)]; exact hFqm12_154
                    have hFqm13_158 : F158 (qm 13) = cI (cy 1) 4 Bk.1 := by rw [eF158, va_up_ne _ _ (pl_ne hFqm13_154 hFqm15_154 rfl)]; exact hFqm13_154
                    have hFqm14_158 : F158 (qm 14) = cD (cy 0) 4 Bk.2 := by rw [eF158, va_up_ne _ _ (pl_ne hFqm14_154 hFqm15_154 rfl)]; exact hFqm14_154
                    have hFqm15_158 : F158 (qm 15) = cI (cy 1) 6 (upd Xx.2 (2 : Int32).toNatClampNeg v157) := by rw [eF158]; exact va_up_self _ _ _
                    refine lv_iload hx hb dX9_copy_225 (lv_at hl 0 rfl) ?_
                    exact W.iret (v := nI kk) hx hb hr (fun t ht hW => ⟨⟨nI kk, F158, rfl, (by subst ev157 ev155 ev147 ev145; have hc66 := c135; have hc76 := c141; have hc193 := c148; rw [fa_eq] at hc66; rw [fa_le] at hc76; rw [fa_le, nI_toInt (by omega)] at hc193; exact absurd trivial (by omega)), (by show va_P _ _ _ t.heap; rw [ht]; exact hP)⟩, hS.F ht⟩) hS.2.2 dX9_copy_227
                · have hlt1 : (kk : Int) < (Sl.1 j_ff).toInt := by have hc := c146; rw [ev145, fa_le, nI_toInt (by omega)] at hc; omega
                  refine lv_iload hx hb dX9_copy_126 (lv_at hl 0 rfl) ?_
                  refine lv_aload_n hx hb dX9_copy_128 rfl (lv_at hl 1 rfl) ?_
                  refine pg_get (ci := 8) (C := RX9) (T := TX9) (N := 20) hx hb hts hinX9 hown hK hP hmo hFo_144 rfl 7 (by decide) (hts (.fieldLink RX9 30 "RopeDrumsModel" "logSize" "[I") (by decide +kernel)) (fun _ h9 => h9) rfl dX9_copy_129 ?_
                  refine lv_iload hx hb dX9_copy_132 (lv_at hl 3 rfl) ?_
                  refine pg_iald hx hb hK hP 1 hm6 hFqm6_144 rfl (vp_in_nI (by omega) (by decide)) dX9_copy_134 ?_
                  refine lv_topi (fun v159 ev159 => ?_)
                  rw [nI_clamp (by omega)] at ev159
                  refine lv_icmp_ge (tgt := 183) hx hb dX9_copy_135 (by decide) (fun c160 => ?_) (fun c160 => ?_)
                  · have hex : (Sl.1 j_dd).toInt ≤ (kk : Int) := by have hc := c160; rw [ev159, fa_le, nI_toInt (by omega)] at hc; omega
                    refine lv_aload_n hx hb dX9_copy_183 rfl (lv_at hl 1 rfl) ?_
                    refine lv_iload hx hb dX9_copy_184 (lv_at hl 0 rfl) ?_
                    refine lv_aload_n hx hb dX9_copy_186 rfl (lv_at hl 1 rfl) ?_
                    refine pg_get (ci := 8) (C := RX9) (T := TX9) (N := 20) hx hb hts hinX9 hown hK hP hmo hFo_144 rfl 7 (by decide) (hts (.fieldLink RX9 30 "RopeDrumsModel" "logSize" "[I") (by decide +kernel)) (fun _ h9 => h9) rfl dX9_copy_187 ?_
                    refine lv_iload hx hb dX9_copy_190 (lv_at hl 2 rfl) ?_
                    refine pg_iald hx hb hK hP 1 hm6 hFqm6_144 rfl (vp_in_nI (by omega) (by decide)) dX9_copy_192 ?_
                    refine lv_topi (fun v161 ev161 => ?_)
                    rw [nI_clamp (by omega)] at ev161
                    refine lv_icmp_ge (tgt := 200) hx hb dX9_copy_193 (by decide) (fun c162 => ?_) (fun c162 => ?_)
                    · refine lv_iconst (v := 0) hx hb dX9_copy_200 (by decide) ?_
                      refine pg_put (ci := 8) (v := .int 0) (ty := .int) (C := RX9) (T := TX9) (N := 20) hx hb hts hinX9 tyX9 tyX9_ok nmX9 hown hK hP hD hS hmo hFo_144 rfl 17 (by decide) (hts (.fieldLink RX9 65 "RopeDrumsModel" "failed" "I") (by decide +kernel)) (fun _ h9 => h9) rfl (by decide +kernel) (rfl) (rfl) (Nat.le_of_ble_eq_true rfl) dX9_copy_201 (fun H locs F163 eF163 hP hS => ?_)
                      have eF163 : F163 = va_up F144 o (.inr (8, [.int 0, .ref (qm 0), .ref (qm 1), .ref (qm 2), .ref (qm 3), .ref (qm 4), .ref (qm 5), .ref (qm 6), .ref (qm 7), .int Pp.1, .ref (qm 8), .ref (qm 9), .ref (qm 10), .ref (qm 11), .ref (qm 12), .ref (qm 13), .ref (qm 14), .int 0, .ref (qm 15), .long oc])) := eF163
                      have hFo_163 : F163 o = .inr (8, [.int 0, .ref (qm 0), .ref (qm 1), .ref (qm 2), .ref (qm 3), .ref (qm 4), .ref (qm 5), .ref (qm 6), .ref (qm 7), .int Pp.1, .ref (qm 8), .ref (qm 9), .ref (qm 10), .ref (qm 11), .ref (qm 12), .ref (qm 13), .ref (qm 14), .int 0, .ref (qm 15), .long oc]) := by rw [eF163]; exact va_up_self _ _ _
                      have hFqm0_163 : F163 (qm 0) = cI (cy 1) 10 Mm.1 := by rw [eF163, va_up_ne _ _ (pl_ne hFqm0_144 hFo_144 rfl)]; exact hFqm0_144
                      have hFqm1_163 : F163 (qm 1) = cJ (cy 2) 10 Mm.2 := by rw [eF163, va_up_ne _ _ (pl_ne hFqm1_144 hFo_144 rfl)]; exact hFqm1_144
                      have hFqm2_163 : F163 (qm 2) = cD (cy 0) 6 Dd.1 := by rw [eF163, va_up_ne _ _ (pl_ne hFqm2_144 hFo_144 rfl)]; exact hFqm2_144
                      have hFqm3_163 : F163 (qm 3) = cD (cy 0) 6 Dd.2.1 := by rw [eF163, va_up_ne _ _ (pl_ne hFqm3_144 hFo_144 rfl)]; exact hFqm3_144
                      have hFqm4_163 : F163 (qm 4) = cD (cy 0) 6 Dd.2.2.1 := by rw [eF163, va_up_ne _ _ (pl_ne hFqm4_144 hFo_144 rfl)]; exact hFqm4_144
                      have hFqm5_163 : F163 (qm 5) = cJ (cy 2) 6 Dd.2.2.2 := by rw [eF163, va_up_ne _ _ (pl_ne hFqm5_144 hFo_144 rfl)]; exact hFqm5_144
                      have hFqm6_163 : F163 (qm 6) = cI (cy 1) 8 Sl.1 := by rw [eF163, va_up_ne _ _ (pl_ne hFqm6_144 hFo_144 rfl)]; exact hFqm6_144
                      have hFqm7_163 : F163 (qm 7) = cJ (cy 2) 128 (cpy Sl j_ff j_dd kk) := by rw [eF163, va_up_ne _ _ (pl_ne hFqm7_144 hFo_144 rfl)]; exact hFqm7_144
                      have hFqm8_163 : F163 (qm 8) = cI (cy 1) 30 Pp.2.1 := by rw [eF163, va_up_ne _ _ (pl_ne hFqm8_144 hFo_144 rfl)]; exact hFqm8_144
                      have hFqm9_163 : F163 (qm 9) = cI (cy 3) 30 Pp.2.2 := by rw [eF163, va_up_ne _ _ (pl_ne hFqm9_144 hFo_144 rfl)]; exact hFqm9_144
                      have hFqm10_163 : F163 (qm 10) = cI (cy 1) 5 Kr.1 := by rw [eF163, va_up_ne _ _ (pl_ne hFqm10_144 hFo_144 rfl)]; exact hFqm10_144
                      have hFqm11_163 : F163 (qm 11) = cI (cy 3) 5 Kr.2.1 := by rw [eF163, va_up_ne _ _ (pl_ne hFqm11_144 hFo_144 rfl)]; exact hFqm11_144
                      have hFqm12_163 : F163 (qm 12) = cI (cy 1) 60 Kr.2.2 := by rw [eF163, va_up_ne _ _ (pl_ne hFqm12_144 hFo_144 rfl)]; exact hFqm12_144
                      have hFqm13_163 : F163 (qm 13) = cI (cy 1) 4 Bk.1 := by rw [eF163, va_up_ne _ _ (pl_ne hFqm13_144 hFo_144 rfl)]; exact hFqm13_144
                      have hFqm14_163 : F163 (qm 14) = cD (cy 0) 4 Bk.2 := by rw [eF163, va_up_ne _ _ (pl_ne hFqm14_144 hFo_144 rfl)]; exact hFqm14_144
                      have hFqm15_163 : F163 (qm 15) = cI (cy 1) 6 Xx.2 := by rw [eF163, va_up_ne _ _ (pl_ne hFqm15_144 hFo_144 rfl)]; exact hFqm15_144
                      refine lv_aload_n hx hb dX9_copy_204 rfl (lv_at hl 1 rfl) ?_
                      refine pg_get (ci := 8) (C := RX9) (T := TX9) (N := 20) hx hb hts hinX9 hown hK hP hmo hFo_163 rfl 18 (by decide) (hts (.fieldLink RX9 58 "RopeDrumsModel" "counted" "[I") (by decide +kernel)) (fun _ h9 => h9) rfl dX9_copy_205 ?_
                      refine lv_iconst (v := 2) hx hb dX9_copy_208 (by decide) ?_
                      refine lv_dup2_11 hx hb dX9_copy_209 rfl rfl ?_
                      refine pg_iald hx hb hK hP 1 hm15 hFqm15_163 rfl (vp_in_nI (n := 2) (N := 6) (by decide) (by decide)) dX9_copy_210 ?_
                      refine lv_topi (fun v164 ev164 => ?_)
                      refine lv_aload_n hx hb dX9_copy_211 rfl (lv_at hl 1 rfl) ?_
                      refine pg_get (ci := 8) (C := RX9) (T := TX9) (N := 20) hx hb hts hinX9 hown hK hP hmo hFo_163 rfl 17 (by decide) (hts (.fieldLink RX9 65 "RopeDrumsModel" "failed" "I") (by decide +kernel)) (fun _ h9 => h9) rfl dX9_copy_212 ?_
                      refine lv_if_le (tgt := 222) hx hb dX9_copy_215 (by decide) (fun c165 => ?_) (fun c165 => absurd (by decide) c165)
                      refine lv_iconst (v := 0) hx hb dX9_copy_222 (by decide) ?_
                      refine lv_iadd hx hb dX9_copy_223 ?_
                      refine lv_topi (fun v166 ev166 => ?_)
                      refine pg_iast hx hb hK hP hD hS 1 hm15 hFqm15_163 rfl (vp_in_nI (n := 2) (N := 6) (by decide) (by decide)) dX9_copy_224 (fun H locs F167 eF167 hP hS => ?_)
                      have hFo_167 : F167 o = .inr (8, [.int 0, .ref (qm 0), .ref (qm 1), .ref (qm 2), .ref (qm 3), .ref (qm 4), .ref (qm 5), .ref (qm 6), .ref (qm 7), .int Pp.1, .ref (qm 8), .ref (qm 9), .ref (qm 10), .ref (qm 11), .ref (qm 12), .ref (qm 13), .ref (qm 14), .int 0, .ref (qm 15), .long oc]) := by rw [eF167, va_up_ne _ _ (pl_ne hFo_163 hFqm15_163 rfl)]; exact hFo_163
                      have hFqm0_167 : F167 (qm 0) = cI (cy 1) 10 Mm.1 := by rw [eF167, va_up_ne _ _ (pl_ne hFqm0_163 hFqm15_163 rfl)]; exact hFqm0_163
                      have hFqm1_167 : F167 (qm 1) = cJ (cy 2) 10 Mm.2 := by rw [eF167, va_up_ne _ _ (pl_ne hFqm1_163 hFqm15_163 rfl)]; exact hFqm1_163
                      have hFqm2_167 : F167 (qm 2) = cD (cy 0) 6 Dd.1 := by rw [eF167, va_up_ne _ _ (pl_ne hFqm2_163 hFqm15_163 rfl)]; exact hFqm2_163
                      have hFqm3_167 : F167 (qm 3) = cD (cy 0) 6 Dd.2.1 := by rw [eF167, va_up_ne _ _ (pl_ne hFqm3_163 hFqm15_163 rfl)]; exact hFqm3_163
                      have hFqm4_167 : F167 (qm 4) = cD (cy 0) 6 Dd.2.2.1 := by rw [eF167, va_up_ne _ _ (pl_ne hFqm4_163 hFqm15_163 rfl)]; exact hFqm4_163
                      have hFqm5_167 : F167 (qm 5) = cJ (cy 2) 6 Dd.2.2.2 := by rw [eF167, va_up_ne _ _ (pl_ne hFqm5_163 hFqm15_163 rfl)]; exact hFqm5_163
                      have hFqm6_167 : F167 (qm 6) = cI (cy 1) 8 Sl.1 := by rw [eF167, va_up_ne _ _ (pl_ne hFqm6_163 hFqm15_163 rfl)]; exact hFqm6_163
                      have hFqm7_167 : F167 (qm 7) = cJ (cy 2) 128 (cpy Sl j_ff j_dd kk) := by rw [eF167, va_up_ne _ _ (pl_ne hFqm7_163 hFqm15_163 rfl)]; exact hFqm7_163
                      have hFqm8_167 : F167 (qm 8) = cI (cy 1) 30 Pp.2.1 := by rw [eF167, va_up_ne _ _ (pl_ne hFqm8_163 hFqm15_163 rfl)]; exact hFqm8_163
                      have hFqm9_167 : F167 (qm 9) = cI (cy 3) 30 Pp.2.2 := by rw [eF167, va_up_ne _ _ (pl_ne hFqm9_163 hFqm15_163 rfl)]; exact hFqm9_163
                      have hFqm10_167 : F167 (qm 10) = cI (cy 1) 5 Kr.1 := by rw [eF167, va_up_ne _ _ (pl_ne hFqm10_163 hFqm15_163 rfl)]; exact hFqm10_163
                      have hFqm11_167 : F167 (qm 11) = cI (cy 3) 5 Kr.2.1 := by rw [eF167, va_up_ne _ _ (pl_ne hFqm11_163 hFqm15_163 rfl)]; exact hFqm11_163
                      have hFqm12_167 : F167 (qm 12) = cI (cy 1) 60 Kr.2.2 := by rw [eF167, va_up_ne _ _ (pl_ne hFqm12_163 hFqm15_163 rfl)]; exact hFqm12_163
                      have hFqm13_167 : F167 (qm 13) = cI (cy 1) 4 Bk.1 := by rw [eF167, va_up_ne _ _ (pl_ne hFqm13_163 hFqm15_163 rfl)]; exact hFqm13_163
                      have hFqm14_167 : F167 (qm 14) = cD (cy 0) 4 Bk.2 := by rw [eF167, va_up_ne _ _ (pl_ne hFqm14_163 hFqm15_163 rfl)]; exact hFqm14_163
                      have hFqm15_167 : F167 (qm 15) = cI (cy 1) 6 (upd Xx.2 (2 : Int32).toNatClampNeg v166) := by rw [eF167]; exact va_up_self _ _ _
                      refine lv_iload hx hb dX9_copy_225 (lv_at hl 0 rfl) ?_
                      exact W.iret (v := nI kk) hx hb hr (fun t ht hW => ⟨⟨nI kk, F167, rfl, (by subst ev166 ev164 ev161 ev159 ev145; have hc66 := c135; have hc76 := c141; have hc193 := c162; have hk0 : kk = 0 := (by rw [fa_eq] at hc66; rw [fa_le] at hc76; rw [fa_le, nI_toInt (by omega)] at hc193; omega); have hz0 : Sl.1 j_ff = 0 := (by rw [fa_eq] at hc66; rw [fa_le] at hc76; rw [fa_le, nI_toInt (by omega)] at hc193; rw [fa_eq]; omega); subst hk0; rw [cpy0] at hFqm7_167; rw [updid0] at hFqm15_167; have hsp : sp_copy Sl Xx (nI j_dd) (nI j_ff) bk = (0, Sl, goodX Xx) := (by unfold sp_copy; rw [hi_dd, hi_ff]; refine (if_pos ⟨hd4, hf4⟩).trans ((if_neg hbk).trans ?_); unfold cp; rw [if_neg hc66, if_pos hz0]); rw [hsp]; exact ⟨rfl, (by exact ⟨⟨_, _, hmo, hFo_167⟩, ⟨hm0, hFqm0_167⟩, ⟨hm1, hFqm1_167⟩, ⟨hm2, hFqm2_167⟩, ⟨hm3, hFqm3_167⟩, ⟨hm4, hFqm4_167⟩, ⟨hm5, hFqm5_167⟩, ⟨hm6, hFqm6_167⟩, ⟨hm7, hFqm7_167⟩, ⟨hm8, hFqm8_167⟩, ⟨hm9, hFqm9_167⟩, ⟨hm10, hFqm10_167⟩, ⟨hm11, hFqm11_167⟩, ⟨hm12, hFqm12_167⟩, ⟨hm13, hFqm13_167⟩, ⟨hm14, hFqm14_167⟩, ⟨hm15, hFqm15_167⟩, hne⟩)⟩), (by show va_P _ _ _ t.heap; rw [ht]; exact hP)⟩, hS.F ht⟩) hS.2.2 dX9_copy_227
                    · refine lv_iconst (v := 2) hx hb dX9_copy_196 (by decide) ?_
                      refine lv_goto (tgt := 201) hx hb dX9_copy_197 (by decide) ?_
                      refine pg_put (ci := 8) (v := .int 2) (ty := .int) (C := RX9) (T := TX9) (N := 20) hx hb hts hinX9 tyX9 tyX9_ok nmX9 hown hK hP hD hS hmo hFo_144 rfl 17 (by decide) (hts (.fieldLink RX9 65 "RopeDrumsModel" "failed" "I") (by decide +kernel)) (fun _ h9 => h9) rfl (by decide +kernel) (rfl) (rfl) (Nat.le_of_ble_eq_true rfl) dX9_copy_201 (fun H locs F168 eF168 hP hS => ?_)
                      have eF168 : F168 = va_up F144 o (.inr (8, [.int 0, .ref (qm 0), .ref (qm 1), .ref (qm 2), .ref (qm 3), .ref (qm 4), .ref (qm 5), .ref (qm 6), .ref (qm 7), .int Pp.1, .ref (qm 8), .ref (qm 9), .ref (qm 10), .ref (qm 11), .ref (qm 12), .ref (qm 13), .ref (qm 14), .int 2, .ref (qm 15), .long oc])) := eF168
                      have hFo_168 : F168 o = .inr (8, [.int 0, .ref (qm 0), .ref (qm 1), .ref (qm 2), .ref (qm 3), .ref (qm 4), .ref (qm 5), .ref (qm 6), .ref (qm 7), .int Pp.1, .ref (qm 8), .ref (qm 9), .ref (qm 10), .ref (qm 11), .ref (qm 12), .ref (qm 13), .ref (qm 14), .int 2, .ref (qm 15), .long oc]) := by rw [eF168]; exact va_up_self _ _ _
                      have hFqm0_168 : F168 (qm 0) = cI (cy 1) 10 Mm.1 := by rw [eF168, va_up_ne _ _ (pl_ne hFqm0_144 hFo_144 rfl)]; exact hFqm0_144
                      have hFqm1_168 : F168 (qm 1) = cJ (cy 2) 10 Mm.2 := by rw [eF168, va_up_ne _ _ (pl_ne hFqm1_144 hFo_144 rfl)]; exact hFqm1_144
                      have hFqm2_168 : F168 (qm 2) = cD (cy 0) 6 Dd.1 := by rw [eF168, va_up_ne _ _ (pl_ne hFqm2_144 hFo_144 rfl)]; exact hFqm2_144
                      have hFqm3_168 : F168 (qm 3) = cD (cy 0) 6 Dd.2.1 := by rw [eF168, va_up_ne _ _ (pl_ne hFqm3_144 hFo_144 rfl)]; exact hFqm3_144
                      have hFqm4_168 : F168 (qm 4) = cD (cy 0) 6 Dd.2.2.1 := by rw [eF168, va_up_ne _ _ (pl_ne hFqm4_144 hFo_144 rfl)]; exact hFqm4_144
                      have hFqm5_168 : F168 (qm 5) = cJ (cy 2) 6 Dd.2.2.2 := by rw [eF168, va_up_ne _ _ (pl_ne hFqm5_144 hFo_144 rfl)]; exact hFqm5_144
                      have hFqm6_168 : F168 (qm 6) = cI (cy 1) 8 Sl.1 := by rw [eF168, va_up_ne _ _ (pl_ne hFqm6_144 hFo_144 rfl)]; exact hFqm6_144
                      have hFqm7_168 : F168 (qm 7) = cJ (cy 2) 128 (cpy Sl j_ff j_dd kk) := by rw [eF168, va_up_ne _ _ (pl_ne hFqm7_144 hFo_144 rfl)]; exact hFqm7_144
                      have hFqm8_168 : F168 (qm 8) = cI (cy 1) 30 Pp.2.1 := by rw [eF168, va_up_ne _ _ (pl_ne hFqm8_144 hFo_144 rfl)]; exact hFqm8_144
                      have hFqm9_168 : F168 (qm 9) = cI (cy 3) 30 Pp.2.2 := by rw [eF168, va_up_ne _ _ (pl_ne hFqm9_144 hFo_144 rfl)]; exact hFqm9_144
                      have hFqm10_168 : F168 (qm 10) = cI (cy 1) 5 Kr.1 := by rw [eF168, va_up_ne _ _ (pl_ne hFqm10_144 hFo_144 rfl)]; exact hFqm10_144
                      have hFqm11_168 : F168 (qm 11) = cI (cy 3) 5 Kr.2.1 := by rw [eF168, va_up_ne _ _ (pl_ne hFqm11_144 hFo_144 rfl)]; exact hFqm11_144
                      have hFqm12_168 : F168 (qm 12) = cI (cy 1) 60 Kr.2.2 := by rw [eF168, va_up_ne _ _ (pl_ne hFqm12_144 hFo_144 rfl)]; exact hFqm12_144
                      have hFqm13_168 : F168 (qm 13) = cI (cy 1) 4 Bk.1 := by rw [eF168, va_up_ne _ _ (pl_ne hFqm13_144 hFo_144 rfl)]; exact hFqm13_144
                      have hFqm14_168 : F168 (qm 14) = cD (cy 0) 4 Bk.2 := by rw [eF168, va_up_ne _ _ (pl_ne hFqm14_144 hFo_144 rfl)]; exact hFqm14_144
                      have hFqm15_168 : F168 (qm 15) = cI (cy 1) 6 Xx.2 := by rw [eF168, va_up_ne _ _ (pl_ne hFqm15_144 hFo_144 rfl)]; exact hFqm15_144
                      refine lv_aload_n hx hb dX9_copy_204 rfl (lv_at hl 1 rfl) ?_
                      refine pg_get (ci := 8) (C := RX9) (T := TX9) (N := 20) hx hb hts hinX9 hown hK hP hmo hFo_168 rfl 18 (by decide) (hts (.fieldLink RX9 58 "RopeDrumsModel" "counted" "[I") (by decide +kernel)) (fun _ h9 => h9) rfl dX9_copy_205 ?_
                      refine lv_iconst (v := 2) hx hb dX9_copy_208 (by decide) ?_
                      refine lv_dup2_11 hx hb dX9_copy_209 rfl rfl ?_
                      refine pg_iald hx hb hK hP 1 hm15 hFqm15_168 rfl (vp_in_nI (n := 2) (N := 6) (by decide) (by decide)) dX9_copy_210 ?_
                      refine lv_topi (fun v169 ev169 => ?_)
                      refine lv_aload_n hx hb dX9_copy_211 rfl (lv_at hl 1 rfl) ?_
                      refine pg_get (ci := 8) (C := RX9) (T := TX9) (N := 20) hx hb hts hinX9 hown hK hP hmo hFo_168 rfl 17 (by decide) (hts (.fieldLink RX9 65 "RopeDrumsModel" "failed" "I") (by decide +kernel)) (fun _ h9 => h9) rfl dX9_copy_212 ?_
                      refine lv_if_le (tgt := 222) hx hb dX9_copy_215 (by decide) (fun c170 => absurd c170 (by decide)) (fun c170 => ?_)
                      refine lv_iconst (v := 1) hx hb dX9_copy_218 (by decide) ?_
                      refine lv_goto (tgt := 223) hx hb dX9_copy_219 (by decide) ?_
                      refine lv_iadd hx hb dX9_copy_223 ?_
                      refine lv_topi (fun v171 ev171 => ?_)
                      refine pg_iast hx hb hK hP hD hS 1 hm15 hFqm15_168 rfl (vp_in_nI (n := 2) (N := 6) (by decide) (by decide)) dX9_copy_224 (fun H locs F172 eF172 hP hS => ?_)
                      have hFo_172 : F172 o = .inr (8, [.int 0, .ref (qm 0), .ref (qm 1), .ref (qm 2), .ref (qm 3), .ref (qm 4), .ref (qm 5), .ref (qm 6), .ref (qm 7), .int Pp.1, .ref (qm 8), .ref (qm 9), .ref (qm 10), .ref (qm 11), .ref (qm 12), .ref (qm 13), .ref (qm 14), .int 2, .ref (qm 15), .long oc]) := by rw [eF172, va_up_ne _ _ (pl_ne hFo_168 hFqm15_168 rfl)]; exact hFo_168
                      have hFqm0_172 : F172 (qm 0) = cI (cy 1) 10 Mm.1 := by rw [eF172, va_up_ne _ _ (pl_ne hFqm0_168 hFqm15_168 rfl)]; exact hFqm0_168
                      have hFqm1_172 : F172 (qm 1) = cJ (cy 2) 10 Mm.2 := by rw [eF172, va_up_ne _ _ (pl_ne hFqm1_168 hFqm15_168 rfl)]; exact hFqm1_168
                      have hFqm2_172 : F172 (qm 2) = cD (cy 0) 6 Dd.1 := by rw [eF172, va_up_ne _ _ (pl_ne hFqm2_168 hFqm15_168 rfl)]; exact hFqm2_168
                      have hFqm3_172 : F172 (qm 3) = cD (cy 0) 6 Dd.2.1 := by rw [eF172, va_up_ne _ _ (pl_ne hFqm3_168 hFqm15_168 rfl)]; exact hFqm3_168
                      have hFqm4_172 : F172 (qm 4) = cD (cy 0) 6 Dd.2.2.1 := by rw [eF172, va_up_ne _ _ (pl_ne hFqm4_168 hFqm15_168 rfl)]; exact hFqm4_168
                      have hFqm5_172 : F172 (qm 5) = cJ (cy 2) 6 Dd.2.2.2 := by rw [eF172, va_up_ne _ _ (pl_ne hFqm5_168 hFqm15_168 rfl)]; exact hFqm5_168
                      have hFqm6_172 : F172 (qm 6) = cI (cy 1) 8 Sl.1 := by rw [eF172, va_up_ne _ _ (pl_ne hFqm6_168 hFqm15_168 rfl)]; exact hFqm6_168
                      have hFqm7_172 : F172 (qm 7) = cJ (cy 2) 128 (cpy Sl j_ff j_dd kk) := by rw [eF172, va_up_ne _ _ (pl_ne hFqm7_168 hFqm15_168 rfl)]; exact hFqm7_168
                      have hFqm8_172 : F172 (qm 8) = cI (cy 1) 30 Pp.2.1 := by rw [eF172, va_up_ne _ _ (pl_ne hFqm8_168 hFqm15_168 rfl)]; exact hFqm8_168
                      have hFqm9_172 : F172 (qm 9) = cI (cy 3) 30 Pp.2.2 := by rw [eF172, va_up_ne _ _ (pl_ne hFqm9_168 hFqm15_168 rfl)]; exact hFqm9_168
                      have hFqm10_172 : F172 (qm 10) = cI (cy 1) 5 Kr.1 := by rw [eF172, va_up_ne _ _ (pl_ne hFqm10_168 hFqm15_168 rfl)]; exact hFqm10_168
                      have hFqm11_172 : F172 (qm 11) = cI (cy 3) 5 Kr.2.1 := by rw [eF172, va_up_ne _ _ (pl_ne hFqm11_168 hFqm15_168 rfl)]; exact hFqm11_168
                      have hFqm12_172 : F172 (qm 12) = cI (cy 1) 60 Kr.2.2 := by rw [eF172, va_up_ne _ _ (pl_ne hFqm12_168 hFqm15_168 rfl)]; exact hFqm12_168
                      have hFqm13_172 : F172 (qm 13) = cI (cy 1) 4 Bk.1 := by rw [eF172, va_up_ne _ _ (pl_ne hFqm13_168 hFqm15_168 rfl)]; exact hFqm13_168
                      have hFqm14_172 : F172 (qm 14) = cD (cy 0) 4 Bk.2 := by rw [eF172, va_up_ne _ _ (pl_ne hFqm14_168 hFqm15_168 rfl)]; exact hFqm14_168
                      have hFqm15_172 : F172 (qm 15) = cI (cy 1) 6 (upd Xx.2 (2 : Int32).toNatClampNeg v171) := by rw [eF172]; exact va_up_self _ _ _
                      refine lv_iload hx hb dX9_copy_225 (lv_at hl 0 rfl) ?_
                      exact W.iret (v := nI kk) hx hb hr (fun t ht hW => ⟨⟨nI kk, F172, rfl, (by subst ev171 ev169 ev161 ev159 ev145; have hc66 := c135; have hc76 := c141; have hc193 := c162; rw [fa_eq] at hc66; rw [fa_le] at hc76; rw [fa_le, nI_toInt (by omega)] at hc193; exact absurd trivial (by omega)), (by show va_P _ _ _ t.heap; rw [ht]; exact hP)⟩, hS.F ht⟩) hS.2.2 dX9_copy_227
                  · have hlt2 : (kk : Int) < (Sl.1 j_dd).toInt := by have hc := c160; rw [ev159, fa_le, nI_toInt (by omega)] at hc; omega
                    refine lv_aload_n hx hb dX9_copy_138 rfl (lv_at hl 1 rfl) ?_
                    refine pg_get (ci := 8) (C := RX9) (T := TX9) (N := 20) hx hb hts hinX9 hown hK hP hmo hFo_144 rfl 8 (by decide) (hts (.fieldLink RX9 33 "RopeDrumsModel" "logBits" "[J") (by decide +kernel)) (fun _ h9 => h9) rfl dX9_copy_139 ?_
                    refine lv_bipush (v := 16) hx hb dX9_copy_142 (by decide) ?_
                    refine lv_iload hx hb dX9_copy_144 (lv_at hl 3 rfl) ?_
                    refine lv_imul hx hb dX9_copy_146 ?_
                    refine lv_topi (fun v173 ev173 => ?_)
                    refine lv_iload hx hb dX9_copy_147 (lv_at hl 0 rfl) ?_
                    refine lv_iadd hx hb dX9_copy_149 ?_
                    refine lv_topi (fun v174 ev174 => ?_)
                    rw [ev173, nI16] at ev174
                    subst ev174
                    refine lv_iload hx hb dX9_copy_150 (lv_at hl 2 rfl) ?_
                    refine vp_callSi (W.runS (As := [.int (nI j_ff)]) (rest := [.int (nI (16 * j_dd + kk)), .ref (qm 7)]) ⟨hx, hb, hml, hown, hts⟩ (c9_laneOfLog l j_ff hj_ff) (va_cwS 1 hts gX9_copy_X9_laneOfLog rfl rfl rfl (by decide +kernel) ⟨Nat.le_of_ble_eq_true rfl, Nat.le_of_ble_eq_true rfl⟩) (preS_of okT (trivial)) rfl rfl hl.1 rfl (lv_room (Nat.le_of_ble_eq_true rfl)) dX9_copy_152 ⟨Nat.le_of_ble_eq_true rfl, Nat.le_of_ble_eq_true rfl⟩) (fun r175 hr175 => ?_)
                    subst hr175
                    refine lv_aload_n hx hb dX9_copy_155 rfl (lv_at hl 1 rfl) ?_
                    refine pg_get (ci := 8) (C := RX9) (T := TX9) (N := 20) hx hb hts hinX9 hown hK hP hmo hFo_144 rfl 8 (by decide) (hts (.fieldLink RX9 33 "RopeDrumsModel" "logBits" "[J") (by decide +kernel)) (fun _ h9 => h9) rfl dX9_copy_156 ?_
                    refine lv_bipush (v := 16) hx hb dX9_copy_159 (by decide) ?_
                    refine lv_iload hx hb dX9_copy_161 (lv_at hl 2 rfl) ?_
                    refine lv_imul hx hb dX9_copy_163 ?_
                    refine lv_topi (fun v176 ev176 => ?_)
                    refine lv_iload hx hb dX9_copy_164 (lv_at hl 0 rfl) ?_
                    refine lv_iadd hx hb dX9_copy_166 ?_
                    refine lv_topi (fun v177 ev177 => ?_)
                    rw [ev176, nI16] at ev177
                    subst ev177
                    refine pg_lald hx hb hK hP 2 hm7 hFqm7_144 rfl (vp_in_nI (by omega) (by decide)) dX9_copy_167 ?_
                    refine lv_topl (fun v178 ev178 => ?_)
                    rw [nI_clamp (by omega)] at ev178
                    refine lv_iload hx hb dX9_copy_168 (lv_at hl 3 rfl) ?_
                    refine vp_callSi (W.runS (As := [.int (nI j_dd)]) (rest := [.long v178, .int (lw j_ff), .int (nI (16 * j_dd + kk)), .ref (qm 7)]) ⟨hx, hb, hml, hown, hts⟩ (c9_laneOfLog l j_dd hj_dd) (va_cwS 1 hts gX9_copy_X9_laneOfLog rfl rfl rfl (by decide +kernel) ⟨Nat.le_of_ble_eq_true rfl, Nat.le_of_ble_eq_true rfl⟩) (preS_of okT (trivial)) rfl rfl hl.1 rfl (lv_room (Nat.le_of_ble_eq_true rfl)) dX9_copy_170 ⟨Nat.le_of_ble_eq_true rfl, Nat.le_of_ble_eq_true rfl⟩) (fun r179 hr179 => ?_)
                    subst hr179
                    refine vp_callSl (W.runS (As := [.int (lw j_ff), .long v178, .int (lw j_dd)]) (rest := [.int (nI (16 * j_dd + kk)), .ref (qm 7)]) ⟨hx, hb, hml, hown, hts⟩ (c9_turned l (lw j_ff) (lw j_dd) v178 (by rw [ev178]; exact (by rw [cpyf hij (by omega)]; exact (hVS j_ff hj_ff).2 kk hlt1))) (va_cwS 3 hts gX9_copy_X9_turned rfl rfl rfl (by decide +kernel) ⟨Nat.le_of_ble_eq_true rfl, Nat.le_of_ble_eq_true rfl⟩) (preS_of okT (trivial)) rfl rfl hl.1 rfl (lv_room (Nat.le_of_ble_eq_true rfl)) dX9_copy_173 ⟨Nat.le_of_ble_eq_true rfl, Nat.le_of_ble_eq_true rfl⟩) (fun r180 hr180 => ?_)
                    refine pg_last hx hb hK hP hD hS 2 hm7 hFqm7_144 rfl (vp_in_nI (by omega) (by decide)) dX9_copy_176 (fun H locs F181 eF181 hP hS => ?_)
                    rw [nI_clamp (by omega)] at eF181
                    have hFo_181 : F181 o = .inr (8, [.int 0, .ref (qm 0), .ref (qm 1), .ref (qm 2), .ref (qm 3), .ref (qm 4), .ref (qm 5), .ref (qm 6), .ref (qm 7), .int Pp.1, .ref (qm 8), .ref (qm 9), .ref (qm 10), .ref (qm 11), .ref (qm 12), .ref (qm 13), .ref (qm 14), .int 0, .ref (qm 15), .long oc]) := by rw [eF181, va_up_ne _ _ (pl_ne hFo_144 hFqm7_144 rfl)]; exact hFo_144
                    have hFqm0_181 : F181 (qm 0) = cI (cy 1) 10 Mm.1 := by rw [eF181, va_up_ne _ _ (pl_ne hFqm0_144 hFqm7_144 rfl)]; exact hFqm0_144
                    have hFqm1_181 : F181 (qm 1) = cJ (cy 2) 10 Mm.2 := by rw [eF181, va_up_ne _ _ (pl_ne hFqm1_144 hFqm7_144 rfl)]; exact hFqm1_144
                    have hFqm2_181 : F181 (qm 2) = cD (cy 0) 6 Dd.1 := by rw [eF181, va_up_ne _ _ (pl_ne hFqm2_144 hFqm7_144 rfl)]; exact hFqm2_144
                    have hFqm3_181 : F181 (qm 3) = cD (cy 0) 6 Dd.2.1 := by rw [eF181, va_up_ne _ _ (pl_ne hFqm3_144 hFqm7_144 rfl)]; exact hFqm3_144
                    have hFqm4_181 : F181 (qm 4) = cD (cy 0) 6 Dd.2.2.1 := by rw [eF181, va_up_ne _ _ (pl_ne hFqm4_144 hFqm7_144 rfl)]; exact hFqm4_144
                    have hFqm5_181 : F181 (qm 5) = cJ (cy 2) 6 Dd.2.2.2 := by rw [eF181, va_up_ne _ _ (pl_ne hFqm5_144 hFqm7_144 rfl)]; exact hFqm5_144
                    have hFqm6_181 : F181 (qm 6) = cI (cy 1) 8 Sl.1 := by rw [eF181, va_up_ne _ _ (pl_ne hFqm6_144 hFqm7_144 rfl)]; exact hFqm6_144
                    have hFqm7_181 : F181 (qm 7) = cJ (cy 2) 128 (vp_updL (cpy Sl j_ff j_dd kk) (16 * j_dd + kk) r180) := by rw [eF181]; exact va_up_self _ _ _
                    have hFqm8_181 : F181 (qm 8) = cI (cy 1) 30 Pp.2.1 := by rw [eF181, va_up_ne _ _ (pl_ne hFqm8_144 hFqm7_144 rfl)]; exact hFqm8_144
                    have hFqm9_181 : F181 (qm 9) = cI (cy 3) 30 Pp.2.2 := by rw [eF181, va_up_ne _ _ (pl_ne hFqm9_144 hFqm7_144 rfl)]; exact hFqm9_144
                    have hFqm10_181 : F181 (qm 10) = cI (cy 1) 5 Kr.1 := by rw [eF181, va_up_ne _ _ (pl_ne hFqm10_144 hFqm7_144 rfl)]; exact hFqm10_144
                    have hFqm11_181 : F181 (qm 11) = cI (cy 3) 5 Kr.2.1 := by rw [eF181, va_up_ne _ _ (pl_ne hFqm11_144 hFqm7_144 rfl)]; exact hFqm11_144
                    have hFqm12_181 : F181 (qm 12) = cI (cy 1) 60 Kr.2.2 := by rw [eF181, va_up_ne _ _ (pl_ne hFqm12_144 hFqm7_144 rfl)]; exact hFqm12_144
                    have hFqm13_181 : F181 (qm 13) = cI (cy 1) 4 Bk.1 := by rw [eF181, va_up_ne _ _ (pl_ne hFqm13_144 hFqm7_144 rfl)]; exact hFqm13_144
                    have hFqm14_181 : F181 (qm 14) = cD (cy 0) 4 Bk.2 := by rw [eF181, va_up_ne _ _ (pl_ne hFqm14_144 hFqm7_144 rfl)]; exact hFqm14_144
                    have hFqm15_181 : F181 (qm 15) = cI (cy 1) 6 Xx.2 := by rw [eF181, va_up_ne _ _ (pl_ne hFqm15_144 hFqm7_144 rfl)]; exact hFqm15_144
                    obtain ⟨v182, ev182⟩ : ∃ y : Int32, y = (nI kk) + (1) := ⟨_, rfl⟩
                    refine lv_iinc (v := v182) (lv' := [(6, .int v182), (0, .ref o), (4, .int (nI j_ff)), (5, .int (nI j_dd))]) hx hb dX9_copy_177 hl (k := 0) rfl (by rw [ev182]; rfl) (by decide) rfl (fun ls hl => ?_)
                    refine lv_goto (tgt := 114) hx hb dX9_copy_180 (by decide) ?_
                    have hv : v182 = nI (kk + 1) := by rw [ev182, nI_succ]
                    rw [hv] at hl
                    exact K (kk + 1) ls H locs (Or.inr (by omega)) (by omega) (by rw [← show F181 = va_up F142 (qm 7) (cJ (cy 2) 128 (cpy Sl j_ff j_dd (kk + 1))) from (by rw [eF181, eF144, upup]; exact congrArg (fun x => va_up F142 (qm 7) (cJ (cy 2) 128 x)) (by rw [hr180, ev178, cpyf hij (by omega)]; exact cpys Sl j_ff j_dd kk))]; exact hP) hS (lv_sub hl [0, 1, 2, 3] rfl)
              · refine lv_aload_n hx hb dX9_copy_79 rfl (lv_at hl 2 rfl) ?_
                refine pg_get (ci := 8) (C := RX9) (T := TX9) (N := 20) hx hb hts hinX9 hown hK hP hmo hFo_125 rfl 7 (by decide) (hts (.fieldLink RX9 30 "RopeDrumsModel" "logSize" "[I") (by decide +kernel)) (fun _ h9 => h9) rfl dX9_copy_80 ?_
                refine lv_iload hx hb dX9_copy_83 (lv_at hl 0 rfl) ?_
                refine pg_iald hx hb hK hP 1 hm6 hFqm6_125 rfl (vp_in_nI (by omega) (by decide)) dX9_copy_85 ?_
                refine lv_topi (fun v183 ev183 => ?_)
                rw [nI_clamp (by omega)] at ev183
                refine lv_iconst (v := -1) hx hb dX9_copy_86 (by decide) ?_
                refine lv_icmp_ne (tgt := 94) hx hb dX9_copy_87 (by decide) (fun c184 => ?_) (fun c184 => ?_)
                · refine lv_iconst (v := 0) hx hb dX9_copy_94 (by decide) ?_
                  refine pg_put (ci := 8) (v := .int 0) (ty := .int) (C := RX9) (T := TX9) (N := 20) hx hb hts hinX9 tyX9 tyX9_ok nmX9 hown hK hP hD hS hmo hFo_125 rfl 17 (by decide) (hts (.fieldLink RX9 65 "RopeDrumsModel" "failed" "I") (by decide +kernel)) (fun _ h9 => h9) rfl (by decide +kernel) (rfl) (rfl) (Nat.le_of_ble_eq_true rfl) dX9_copy_95 (fun H locs F185 eF185 hP hS => ?_)
                  have eF185 : F185 = va_up F125 o (.inr (8, [.int 0, .ref (qm 0), .ref (qm 1), .ref (qm 2), .ref (qm 3), .ref (qm 4), .ref (qm 5), .ref (qm 6), .ref (qm 7), .int Pp.1, .ref (qm 8), .ref (qm 9), .ref (qm 10), .ref (qm 11), .ref (qm 12), .ref (qm 13), .ref (qm 14), .int 0, .ref (qm 15), .long oc])) := eF185
                  have hFo_185 : F185 o = .inr (8, [.int 0, .ref (qm 0), .ref (qm 1), .ref (qm 2), .ref (qm 3), .ref (qm 4), .ref (qm 5), .ref (qm 6), .ref (qm 7), .int Pp.1, .ref (qm 8), .ref (qm 9), .ref (qm 10), .ref (qm 11), .ref (qm 12), .ref (qm 13), .ref (qm 14), .int 0, .ref (qm 15), .long oc]) := by rw [eF185]; exact va_up_self _ _ _
                  have hFqm0_185 : F185 (qm 0) = cI (cy 1) 10 Mm.1 := by rw [eF185, va_up_ne _ _ (pl_ne hFqm0_125 hFo_125 rfl)]; exact hFqm0_125
                  have hFqm1_185 : F185 (qm 1) = cJ (cy 2) 10 Mm.2 := by rw [eF185, va_up_ne _ _ (pl_ne hFqm1_125 hFo_125 rfl)]; exact hFqm1_125
                  have hFqm2_185 : F185 (qm 2) = cD (cy 0) 6 Dd.1 := by rw [eF185, va_up_ne _ _ (pl_ne hFqm2_125 hFo_125 rfl)]; exact hFqm2_125
                  have hFqm3_185 : F185 (qm 3) = cD (cy 0) 6 Dd.2.1 := by rw [eF185, va_up_ne _ _ (pl_ne hFqm3_125 hFo_125 rfl)]; exact hFqm3_125
                  have hFqm4_185 : F185 (qm 4) = cD (cy 0) 6 Dd.2.2.1 := by rw [eF185, va_up_ne _ _ (pl_ne hFqm4_125 hFo_125 rfl)]; exact hFqm4_125
                  have hFqm5_185 : F185 (qm 5) = cJ (cy 2) 6 Dd.2.2.2 := by rw [eF185, va_up_ne _ _ (pl_ne hFqm5_125 hFo_125 rfl)]; exact hFqm5_125
                  have hFqm6_185 : F185 (qm 6) = cI (cy 1) 8 Sl.1 := by rw [eF185, va_up_ne _ _ (pl_ne hFqm6_125 hFo_125 rfl)]; exact hFqm6_125
                  have hFqm7_185 : F185 (qm 7) = cJ (cy 2) 128 Sl.2 := by rw [eF185, va_up_ne _ _ (pl_ne hFqm7_125 hFo_125 rfl)]; exact hFqm7_125
                  have hFqm8_185 : F185 (qm 8) = cI (cy 1) 30 Pp.2.1 := by rw [eF185, va_up_ne _ _ (pl_ne hFqm8_125 hFo_125 rfl)]; exact hFqm8_125
                  have hFqm9_185 : F185 (qm 9) = cI (cy 3) 30 Pp.2.2 := by rw [eF185, va_up_ne _ _ (pl_ne hFqm9_125 hFo_125 rfl)]; exact hFqm9_125
                  have hFqm10_185 : F185 (qm 10) = cI (cy 1) 5 Kr.1 := by rw [eF185, va_up_ne _ _ (pl_ne hFqm10_125 hFo_125 rfl)]; exact hFqm10_125
                  have hFqm11_185 : F185 (qm 11) = cI (cy 3) 5 Kr.2.1 := by rw [eF185, va_up_ne _ _ (pl_ne hFqm11_125 hFo_125 rfl)]; exact hFqm11_125
                  have hFqm12_185 : F185 (qm 12) = cI (cy 1) 60 Kr.2.2 := by rw [eF185, va_up_ne _ _ (pl_ne hFqm12_125 hFo_125 rfl)]; exact hFqm12_125
                  have hFqm13_185 : F185 (qm 13) = cI (cy 1) 4 Bk.1 := by rw [eF185, va_up_ne _ _ (pl_ne hFqm13_125 hFo_125 rfl)]; exact hFqm13_125
                  have hFqm14_185 : F185 (qm 14) = cD (cy 0) 4 Bk.2 := by rw [eF185, va_up_ne _ _ (pl_ne hFqm14_125 hFo_125 rfl)]; exact hFqm14_125
                  have hFqm15_185 : F185 (qm 15) = cI (cy 1) 6 Xx.2 := by rw [eF185, va_up_ne _ _ (pl_ne hFqm15_125 hFo_125 rfl)]; exact hFqm15_125
                  rw [ev134] at c135
                  rw [ev140] at c141
                  rw [ev183] at c184
                  refine lv_aload_n hx hb dX9_copy_98 rfl (lv_at hl 2 rfl) ?_
                  refine pg_get (ci := 8) (C := RX9) (T := TX9) (N := 20) hx hb hts hinX9 hown hK hP hmo hFo_185 rfl 17 (by decide) (hts (.fieldLink RX9 65 "RopeDrumsModel" "failed" "I") (by decide +kernel)) (fun _ h9 => h9) rfl dX9_copy_99 ?_
                  refine lv_if_le (tgt := 111) hx hb dX9_copy_102 (by decide) (fun c186 => ?_) (fun c186 => absurd (by decide) c186)
                  refine lv_iconst (v := 0) hx hb dX9_copy_111 (by decide) ?_
                  refine lv_istore (lv' := [(6, .int 0), (5, .int (nI j_dd)), (4, .int (nI j_ff)), (0, .ref o), (1, .int (nI j_dd)), (2, .int (nI j_ff)), (3, .int bk)]) hx hb dX9_copy_112 hl (by decide) rfl (fun ls hl => ?_)
                  refine lp_w (pc := 114) (nL := 7) (α := Nat) (fun xx => (xx = 0 ∨ ((xx : Int) ≤ (Sl.1 j_ff).toInt ∧ (xx : Int) ≤ (Sl.1 j_dd).toInt))) (fun xx => [(6, .int (nI xx)), (0, .ref o), (4, .int (nI j_ff)), (5, .int (nI j_dd))]) (fun xx => va_pl L (va_up F185 (qm 7) (cJ (cy 2) 128 (cpy Sl j_ff j_dd xx)))) (fun xx => 16 - xx) (fun kk ls H locs hI hP hS hl K => ?_) 0 ls (Or.inl rfl) (by rw [show va_up F185 (qm 7) (cJ (cy 2) 128 (cpy Sl j_ff j_dd 0)) = F185 from (by rw [cpy0]; exact upid hFqm7_185)]; exact hP) hS (lv_sub hl [0, 3, 2, 1] rfl)
                  obtain ⟨F187, eF187⟩ : ∃ y : Nat → va_E, y = va_up F185 (qm 7) (cJ (cy 2) 128 (cpy Sl j_ff j_dd kk)) := ⟨_, rfl⟩
                  rw [← eF187] at hP
                  have hFo_187 : F187 o = .inr (8, [.int 0, .ref (qm 0), .ref (qm 1), .ref (qm 2), .ref (qm 3), .ref (qm 4), .ref (qm 5), .ref (qm 6), .ref (qm 7), .int Pp.1, .ref (qm 8), .ref (qm 9), .ref (qm 10), .ref (qm 11), .ref (qm 12), .ref (qm 13), .ref (qm 14), .int 0, .ref (qm 15), .long oc]) := by rw [eF187, va_up_ne _ _ (pl_ne hFo_185 hFqm7_185 rfl)]; exact hFo_185
                  have hFqm0_187 : F187 (qm 0) = cI (cy 1) 10 Mm.1 := by rw [eF187, va_up_ne _ _ (pl_ne hFqm0_185 hFqm7_185 rfl)]; exact hFqm0_185
                  have hFqm1_187 : F187 (qm 1) = cJ (cy 2) 10 Mm.2 := by rw [eF187, va_up_ne _ _ (pl_ne hFqm1_185 hFqm7_185 rfl)]; exact hFqm1_185
                  have hFqm2_187 : F187 (qm 2) = cD (cy 0) 6 Dd.1 := by rw [eF187, va_up_ne _ _ (pl_ne hFqm2_185 hFqm7_185 rfl)]; exact hFqm2_185
                  have hFqm3_187 : F187 (qm 3) = cD (cy 0) 6 Dd.2.1 := by rw [eF187, va_up_ne _ _ (pl_ne hFqm3_185 hFqm7_185 rfl)]; exact hFqm3_185
                  have hFqm4_187 : F187 (qm 4) = cD (cy 0) 6 Dd.2.2.1 := by rw [eF187, va_up_ne _ _ (pl_ne hFqm4_185 hFqm7_185 rfl)]; exact hFqm4_185
                  have hFqm5_187 : F187 (qm 5) = cJ (cy 2) 6 Dd.2.2.2 := by rw [eF187, va_up_ne _ _ (pl_ne hFqm5_185 hFqm7_185 rfl)]; exact hFqm5_185
                  have hFqm6_187 : F187 (qm 6) = cI (cy 1) 8 Sl.1 := by rw [eF187, va_up_ne _ _ (pl_ne hFqm6_185 hFqm7_185 rfl)]; exact hFqm6_185
                  have hFqm7_187 : F187 (qm 7) = cJ (cy 2) 128 (cpy Sl j_ff j_dd kk) := by rw [eF187]; exact va_up_self _ _ _
                  have hFqm8_187 : F187 (qm 8) = cI (cy 1) 30 Pp.2.1 := by rw [eF187, va_up_ne _ _ (pl_ne hFqm8_185 hFqm7_185 rfl)]; exact hFqm8_185
                  have hFqm9_187 : F187 (qm 9) = cI (cy 3) 30 Pp.2.2 := by rw [eF187, va_up_ne _ _ (pl_ne hFqm9_185 hFqm7_185 rfl)]; exact hFqm9_185
                  have hFqm10_187 : F187 (qm 10) = cI (cy 1) 5 Kr.1 := by rw [eF187, va_up_ne _ _ (pl_ne hFqm10_185 hFqm7_185 rfl)]; exact hFqm10_185
                  have hFqm11_187 : F187 (qm 11) = cI (cy 3) 5 Kr.2.1 := by rw [eF187, va_up_ne _ _ (pl_ne hFqm11_185 hFqm7_185 rfl)]; exact hFqm11_185
                  have hFqm12_187 : F187 (qm 12) = cI (cy 1) 60 Kr.2.2 := by rw [eF187, va_up_ne _ _ (pl_ne hFqm12_185 hFqm7_185 rfl)]; exact hFqm12_185
                  have hFqm13_187 : F187 (qm 13) = cI (cy 1) 4 Bk.1 := by rw [eF187, va_up_ne _ _ (pl_ne hFqm13_185 hFqm7_185 rfl)]; exact hFqm13_185
                  have hFqm14_187 : F187 (qm 14) = cD (cy 0) 4 Bk.2 := by rw [eF187, va_up_ne _ _ (pl_ne hFqm14_185 hFqm7_185 rfl)]; exact hFqm14_185
                  have hFqm15_187 : F187 (qm 15) = cI (cy 1) 6 Xx.2 := by rw [eF187, va_up_ne _ _ (pl_ne hFqm15_185 hFqm7_185 rfl)]; exact hFqm15_185
                  have hl : lv_has ls 7 [(6, .int (nI kk)), (0, .ref o), (4, .int (nI j_ff)), (5, .int (nI j_dd))] := hl
                  refine lv_iload hx hb dX9_copy_114 (lv_at hl 0 rfl) ?_
                  refine lv_aload_n hx hb dX9_copy_116 rfl (lv_at hl 1 rfl) ?_
                  refine pg_get (ci := 8) (C := RX9) (T := TX9) (N := 20) hx hb hts hinX9 hown hK hP hmo hFo_187 rfl 7 (by decide) (hts (.fieldLink RX9 30 "RopeDrumsModel" "logSize" "[I") (by decide +kernel)) (fun _ h9 => h9) rfl dX9_copy_117 ?_
                  refine lv_iload hx hb dX9_copy_120 (lv_at hl 2 rfl) ?_
                  refine pg_iald hx hb hK hP 1 hm6 hFqm6_187 rfl (vp_in_nI (by omega) (by decide)) dX9_copy_122 ?_
                  refine lv_topi (fun v188 ev188 => ?_)
                  rw [nI_clamp (by omega)] at ev188
                  refine lv_icmp_ge (tgt := 183) hx hb dX9_copy_123 (by decide) (fun c189 => ?_) (fun c189 => ?_)
                  · have hex : (Sl.1 j_ff).toInt ≤ (kk : Int) := by have hc := c189; rw [ev188, fa_le, nI_toInt (by omega)] at hc; omega
                    refine lv_aload_n hx hb dX9_copy_183 rfl (lv_at hl 1 rfl) ?_
                    refine lv_iload hx hb dX9_copy_184 (lv_at hl 0 rfl) ?_
                    refine lv_aload_n hx hb dX9_copy_186 rfl (lv_at hl 1 rfl) ?_
                    refine pg_get (ci := 8) (C := RX9) (T := TX9) (N := 20) hx hb hts hinX9 hown hK hP hmo hFo_187 rfl 7 (by decide) (hts (.fieldLink RX9 30 "RopeDrumsModel" "logSize" "[I") (by decide +kernel)) (fun _ h9 => h9) rfl dX9_copy_187 ?_
                    refine lv_iload hx hb dX9_copy_190 (lv_at hl 2 rfl) ?_
                    refine pg_iald hx hb hK hP 1 hm6 hFqm6_187 rfl (vp_in_nI (by omega) (by decide)) dX9_copy_192 ?_
                    refine lv_topi (fun v190 ev190 => ?_)
                    rw [nI_clamp (by omega)] at ev190
                    refine lv_icmp_ge (tgt := 200) hx hb dX9_copy_193 (by decide) (fun c191 => ?_) (fun c191 => ?_)
                    · refine lv_iconst (v := 0) hx hb dX9_copy_200 (by decide) ?_
                      refine pg_put (ci := 8) (v := .int 0) (ty := .int) (C := RX9) (T := TX9) (N := 20) hx hb hts hinX9 tyX9 tyX9_ok nmX9 hown hK hP hD hS hmo hFo_187 rfl 17 (by decide) (hts (.fieldLink RX9 65 "RopeDrumsModel" "failed" "I") (by decide +kernel)) (fun _ h9 => h9) rfl (by decide +kernel) (rfl) (rfl) (Nat.le_of_ble_eq_true rfl) dX9_copy_201 (fun H locs F192 eF192 hP hS => ?_)
                      have eF192 : F192 = va_up F187 o (.inr (8, [.int 0, .ref (qm 0), .ref (qm 1), .ref (qm 2), .ref (qm 3), .ref (qm 4), .ref (qm 5), .ref (qm 6), .ref (qm 7), .int Pp.1, .ref (qm 8), .ref (qm 9), .ref (qm 10), .ref (qm 11), .ref (qm 12), .ref (qm 13), .ref (qm 14), .int 0, .ref (qm 15), .long oc])) := eF192
                      have hFo_192 : F192 o = .inr (8, [.int 0, .ref (qm 0), .ref (qm 1), .ref (qm 2), .ref (qm 3), .ref (qm 4), .ref (qm 5), .ref (qm 6), .ref (qm 7), .int Pp.1, .ref (qm 8), .ref (qm 9), .ref (qm 10), .ref (qm 11), .ref (qm 12), .ref (qm 13), .ref (qm 14), .int 0, .ref (qm 15), .long oc]) := by rw [eF192]; exact va_up_self _ _ _
                      have hFqm0_192 : F192 (qm 0) = cI (cy 1) 10 Mm.1 := by rw [eF192, va_up_ne _ _ (pl_ne hFqm0_187 hFo_187 rfl)]; exact hFqm0_187
                      have hFqm1_192 : F192 (qm 1) = cJ (cy 2) 10 Mm.2 := by rw [eF192, va_up_ne _ _ (pl_ne hFqm1_187 hFo_187 rfl)]; exact hFqm1_187
                      have hFqm2_192 : F192 (qm 2) = cD (cy 0) 6 Dd.1 := by rw [eF192, va_up_ne _ _ (pl_ne hFqm2_187 hFo_187 rfl)]; exact hFqm2_187
                      have hFqm3_192 : F192 (qm 3) = cD (cy 0) 6 Dd.2.1 := by rw [eF192, va_up_ne _ _ (pl_ne hFqm3_187 hFo_187 rfl)]; exact hFqm3_187
                      have hFqm4_192 : F192 (qm 4) = cD (cy 0) 6 Dd.2.2.1 := by rw [eF192, va_up_ne _ _ (pl_ne hFqm4_187 hFo_187 rfl)]; exact hFqm4_187
                      have hFqm5_192 : F192 (qm 5) = cJ (cy 2) 6 Dd.2.2.2 := by rw [eF192, va_up_ne _ _ (pl_ne hFqm5_187 hFo_187 rfl)]; exact hFqm5_187
                      have hFqm6_192 : F192 (qm 6) = cI (cy 1) 8 Sl.1 := by rw [eF192, va_up_ne _ _ (pl_ne hFqm6_187 hFo_187 rfl)]; exact hFqm6_187
                      have hFqm7_192 : F192 (qm 7) = cJ (cy 2) 128 (cpy Sl j_ff j_dd kk) := by rw [eF192, va_up_ne _ _ (pl_ne hFqm7_187 hFo_187 rfl)]; exact hFqm7_187
                      have hFqm8_192 : F192 (qm 8) = cI (cy 1) 30 Pp.2.1 := by rw [eF192, va_up_ne _ _ (pl_ne hFqm8_187 hFo_187 rfl)]; exact hFqm8_187
                      have hFqm9_192 : F192 (qm 9) = cI (cy 3) 30 Pp.2.2 := by rw [eF192, va_up_ne _ _ (pl_ne hFqm9_187 hFo_187 rfl)]; exact hFqm9_187
                      have hFqm10_192 : F192 (qm 10) = cI (cy 1) 5 Kr.1 := by rw [eF192, va_up_ne _ _ (pl_ne hFqm10_187 hFo_187 rfl)]; exact hFqm10_187
                      have hFqm11_192 : F192 (qm 11) = cI (cy 3) 5 Kr.2.1 := by rw [eF192, va_up_ne _ _ (pl_ne hFqm11_187 hFo_187 rfl)]; exact hFqm11_187
                      have hFqm12_192 : F192 (qm 12) = cI (cy 1) 60 Kr.2.2 := by rw [eF192, va_up_ne _ _ (pl_ne hFqm12_187 hFo_187 rfl)]; exact hFqm12_187
                      have hFqm13_192 : F192 (qm 13) = cI (cy 1) 4 Bk.1 := by rw [eF192, va_up_ne _ _ (pl_ne hFqm13_187 hFo_187 rfl)]; exact hFqm13_187
                      have hFqm14_192 : F192 (qm 14) = cD (cy 0) 4 Bk.2 := by rw [eF192, va_up_ne _ _ (pl_ne hFqm14_187 hFo_187 rfl)]; exact hFqm14_187
                      have hFqm15_192 : F192 (qm 15) = cI (cy 1) 6 Xx.2 := by rw [eF192, va_up_ne _ _ (pl_ne hFqm15_187 hFo_187 rfl)]; exact hFqm15_187
                      refine lv_aload_n hx hb dX9_copy_204 rfl (lv_at hl 1 rfl) ?_
                      refine pg_get (ci := 8) (C := RX9) (T := TX9) (N := 20) hx hb hts hinX9 hown hK hP hmo hFo_192 rfl 18 (by decide) (hts (.fieldLink RX9 58 "RopeDrumsModel" "counted" "[I") (by decide +kernel)) (fun _ h9 => h9) rfl dX9_copy_205 ?_
                      refine lv_iconst (v := 2) hx hb dX9_copy_208 (by decide) ?_
                      refine lv_dup2_11 hx hb dX9_copy_209 rfl rfl ?_
                      refine pg_iald hx hb hK hP 1 hm15 hFqm15_192 rfl (vp_in_nI (n := 2) (N := 6) (by decide) (by decide)) dX9_copy_210 ?_
                      refine lv_topi (fun v193 ev193 => ?_)
                      refine lv_aload_n hx hb dX9_copy_211 rfl (lv_at hl 1 rfl) ?_
                      refine pg_get (ci := 8) (C := RX9) (T := TX9) (N := 20) hx hb hts hinX9 hown hK hP hmo hFo_192 rfl 17 (by decide) (hts (.fieldLink RX9 65 "RopeDrumsModel" "failed" "I") (by decide +kernel)) (fun _ h9 => h9) rfl dX9_copy_212 ?_
                      refine lv_if_le (tgt := 222) hx hb dX9_copy_215 (by decide) (fun c194 => ?_) (fun c194 => absurd (by decide) c194)
                      refine lv_iconst (v := 0) hx hb dX9_copy_222 (by decide) ?_
                      refine lv_iadd hx hb dX9_copy_223 ?_
                      refine lv_topi (fun v195 ev195 => ?_)
                      refine pg_iast hx hb hK hP hD hS 1 hm15 hFqm15_192 rfl (vp_in_nI (n := 2) (N := 6) (by decide) (by decide)) dX9_copy_224 (fun H locs F196 eF196 hP hS => ?_)
                      have hFo_196 : F196 o = .inr (8, [.int 0, .ref (qm 0), .ref (qm 1), .ref (qm 2), .ref (qm 3), .ref (qm 4), .ref (qm 5), .ref (qm 6), .ref (qm 7), .int Pp.1, .ref (qm 8), .ref (qm 9), .ref (qm 10), .ref (qm 11), .ref (qm 12), .ref (qm 13), .ref (qm 14), .int 0, .ref (qm 15), .long oc]) := by rw [eF196, va_up_ne _ _ (pl_ne hFo_192 hFqm15_192 rfl)]; exact hFo_192
                      have hFqm0_196 : F196 (qm 0) = cI (cy 1) 10 Mm.1 := by rw [eF196, va_up_ne _ _ (pl_ne hFqm0_192 hFqm15_192 rfl)]; exact hFqm0_192
                      have hFqm1_196 : F196 (qm 1) = cJ (cy 2) 10 Mm.2 := by rw [eF196, va_up_ne _ _ (pl_ne hFqm1_192 hFqm15_192 rfl)]; exact hFqm1_192
                      have hFqm2_196 : F196 (qm 2) = cD (cy 0) 6 Dd.1 := by rw [eF196, va_up_ne _ _ (pl_ne hFqm2_192 hFqm15_192 rfl)]; exact hFqm2_192
                      have hFqm3_196 : F196 (qm 3) = cD (cy 0) 6 Dd.2.1 := by rw [eF196, va_up_ne _ _ (pl_ne hFqm3_192 hFqm15_192 rfl)]; exact hFqm3_192
                      have hFqm4_196 : F196 (qm 4) = cD (cy 0) 6 Dd.2.2.1 := by rw [eF196, va_up_ne _ _ (pl_ne hFqm4_192 hFqm15_192 rfl)]; exact hFqm4_192
                      have hFqm5_196 : F196 (qm 5) = cJ (cy 2) 6 Dd.2.2.2 := by rw [eF196, va_up_ne _ _ (pl_ne hFqm5_192 hFqm15_192 rfl)]; exact hFqm5_192
                      have hFqm6_196 : F196 (qm 6) = cI (cy 1) 8 Sl.1 := by rw [eF196, va_up_ne _ _ (pl_ne hFqm6_192 hFqm15_192 rfl)]; exact hFqm6_192
                      have hFqm7_196 : F196 (qm 7) = cJ (cy 2) 128 (cpy Sl j_ff j_dd kk) := by rw [eF196, va_up_ne _ _ (pl_ne hFqm7_192 hFqm15_192 rfl)]; exact hFqm7_192
                      have hFqm8_196 : F196 (qm 8) = cI (cy 1) 30 Pp.2.1 := by rw [eF196, va_up_ne _ _ (pl_ne hFqm8_192 hFqm15_192 rfl)]; exact hFqm8_192
                      have hFqm9_196 : F196 (qm 9) = cI (cy 3) 30 Pp.2.2 := by rw [eF196, va_up_ne _ _ (pl_ne hFqm9_192 hFqm15_192 rfl)]; exact hFqm9_192
                      have hFqm10_196 : F196 (qm 10) = cI (cy 1) 5 Kr.1 := by rw [eF196, va_up_ne _ _ (pl_ne hFqm10_192 hFqm15_192 rfl)]; exact hFqm10_192
                      have hFqm11_196 : F196 (qm 11) = cI (cy 3) 5 Kr.2.1 := by rw [eF196, va_up_ne _ _ (pl_ne hFqm11_192 hFqm15_192 rfl)]; exact hFqm11_192
                      have hFqm12_196 : F196 (qm 12) = cI (cy 1) 60 Kr.2.2 := by rw [eF196, va_up_ne _ _ (pl_ne hFqm12_192 hFqm15_192 rfl)]; exact hFqm12_192
                      have hFqm13_196 : F196 (qm 13) = cI (cy 1) 4 Bk.1 := by rw [eF196, va_up_ne _ _ (pl_ne hFqm13_192 hFqm15_192 rfl)]; exact hFqm13_192
                      have hFqm14_196 : F196 (qm 14) = cD (cy 0) 4 Bk.2 := by rw [eF196, va_up_ne _ _ (pl_ne hFqm14_192 hFqm15_192 rfl)]; exact hFqm14_192
                      have hFqm15_196 : F196 (qm 15) = cI (cy 1) 6 (upd Xx.2 (2 : Int32).toNatClampNeg v195) := by rw [eF196]; exact va_up_self _ _ _
                      refine lv_iload hx hb dX9_copy_225 (lv_at hl 0 rfl) ?_
                      exact W.iret (v := nI kk) hx hb hr (fun t ht hW => ⟨⟨nI kk, F196, rfl, (by subst ev195 ev193 ev190 ev188; have hc66 := c135; have hc76 := c141; have hc193 := c191; have hc87 := c184; have hmn : mn (Sl.1 j_ff) (Sl.1 j_dd) = nI kk := (by have hd := hc87; rw [fa_eq] at hd; rw [fa_eq] at hc66; rw [fa_le] at hc76; rw [fa_le, nI_toInt (by omega)] at hc193; unfold mn; rw [fa_eq, nI_toInt (by omega)]; split; (rename_i hq; rw [fa_lt] at hq; omega); rename_i hq; rw [fa_lt] at hq; omega); rw [updid0] at hFqm15_196; have hsp : sp_copy Sl Xx (nI j_dd) (nI j_ff) bk = (nI kk, (Sl.1, cpy Sl j_ff j_dd kk), goodX Xx) := (by unfold sp_copy; rw [hi_dd, hi_ff]; refine (if_pos ⟨hd4, hf4⟩).trans ((if_neg hbk).trans ?_); unfold cp; rw [if_neg hc66, if_neg (fun q => hc76 (by rw [q]; decide)), if_neg hc87, hmn, nI_tn (by omega), if_neg (by rw [fa_lt]; rw [fa_le] at hc193; omega)]); rw [hsp]; exact ⟨rfl, (by exact ⟨⟨_, _, hmo, hFo_196⟩, ⟨hm0, hFqm0_196⟩, ⟨hm1, hFqm1_196⟩, ⟨hm2, hFqm2_196⟩, ⟨hm3, hFqm3_196⟩, ⟨hm4, hFqm4_196⟩, ⟨hm5, hFqm5_196⟩, ⟨hm6, hFqm6_196⟩, ⟨hm7, hFqm7_196⟩, ⟨hm8, hFqm8_196⟩, ⟨hm9, hFqm9_196⟩, ⟨hm10, hFqm10_196⟩, ⟨hm11, hFqm11_196⟩, ⟨hm12, hFqm12_196⟩, ⟨hm13, hFqm13_196⟩, ⟨hm14, hFqm14_196⟩, ⟨hm15, hFqm15_196⟩, hne⟩)⟩), (by show va_P _ _ _ t.heap; rw [ht]; exact hP)⟩, hS.F ht⟩) hS.2.2 dX9_copy_227
                    · refine lv_iconst (v := 2) hx hb dX9_copy_196 (by decide) ?_
                      refine lv_goto (tgt := 201) hx hb dX9_copy_197 (by decide) ?_
                      refine pg_put (ci := 8) (v := .int 2) (ty := .int) (C := RX9) (T := TX9) (N := 20) hx hb hts hinX9 tyX9 tyX9_ok nmX9 hown hK hP hD hS hmo hFo_187 rfl 17 (by decide) (hts (.fieldLink RX9 65 "RopeDrumsModel" "failed" "I") (by decide +kernel)) (fun _ h9 => h9) rfl (by decide +kernel) (rfl) (rfl) (Nat.le_of_ble_eq_true rfl) dX9_copy_201 (fun H locs F197 eF197 hP hS => ?_)
                      have eF197 : F197 = va_up F187 o (.inr (8, [.int 0, .ref (qm 0), .ref (qm 1), .ref (qm 2), .ref (qm 3), .ref (qm 4), .ref (qm 5), .ref (qm 6), .ref (qm 7), .int Pp.1, .ref (qm 8), .ref (qm 9), .ref (qm 10), .ref (qm 11), .ref (qm 12), .ref (qm 13), .ref (qm 14), .int 2, .ref (qm 15), .long oc])) := eF197
                      have hFo_197 : F197 o = .inr (8, [.int 0, .ref (qm 0), .ref (qm 1), .ref (qm 2), .ref (qm 3), .ref (qm 4), .ref (qm 5), .ref (qm 6), .ref (qm 7), .int Pp.1, .ref (qm 8), .ref (qm 9), .ref (qm 10), .ref (qm 11), .ref (qm 12), .ref (qm 13), .ref (qm 14), .int 2, .ref (qm 15), .long oc]) := by rw [eF197]; exact va_up_self _ _ _
                      have hFqm0_197 : F197 (qm 0) = cI (cy 1) 10 Mm.1 := by rw [eF197, va_up_ne _ _ (pl_ne hFqm0_187 hFo_187 rfl)]; exact hFqm0_187
                      have hFqm1_197 : F197 (qm 1) = cJ (cy 2) 10 Mm.2 := by rw [eF197, va_up_ne _ _ (pl_ne hFqm1_187 hFo_187 rfl)]; exact hFqm1_187
                      have hFqm2_197 : F197 (qm 2) = cD (cy 0) 6 Dd.1 := by rw [eF197, va_up_ne _ _ (pl_ne hFqm2_187 hFo_187 rfl)]; exact hFqm2_187
                      have hFqm3_197 : F197 (qm 3) = cD (cy 0) 6 Dd.2.1 := by rw [eF197, va_up_ne _ _ (pl_ne hFqm3_187 hFo_187 rfl)]; exact hFqm3_187
                      have hFqm4_197 : F197 (qm 4) = cD (cy 0) 6 Dd.2.2.1 := by rw [eF197, va_up_ne _ _ (pl_ne hFqm4_187 hFo_187 rfl)]; exact hFqm4_187
                      have hFqm5_197 : F197 (qm 5) = cJ (cy 2) 6 Dd.2.2.2 := by rw [eF197, va_up_ne _ _ (pl_ne hFqm5_187 hFo_187 rfl)]; exact hFqm5_187
                      have hFqm6_197 : F197 (qm 6) = cI (cy 1) 8 Sl.1 := by rw [eF197, va_up_ne _ _ (pl_ne hFqm6_187 hFo_187 rfl)]; exact hFqm6_187
                      have hFqm7_197 : F197 (qm 7) = cJ (cy 2) 128 (cpy Sl j_ff j_dd kk) := by rw [eF197, va_up_ne _ _ (pl_ne hFqm7_187 hFo_187 rfl)]; exact hFqm7_187
                      have hFqm8_197 : F197 (qm 8) = cI (cy 1) 30 Pp.2.1 := by rw [eF197, va_up_ne _ _ (pl_ne hFqm8_187 hFo_187 rfl)]; exact hFqm8_187
                      have hFqm9_197 : F197 (qm 9) = cI (cy 3) 30 Pp.2.2 := by rw [eF197, va_up_ne _ _ (pl_ne hFqm9_187 hFo_187 rfl)]; exact hFqm9_187
                      have hFqm10_197 : F197 (qm 10) = cI (cy 1) 5 Kr.1 := by rw [eF197, va_up_ne _ _ (pl_ne hFqm10_187 hFo_187 rfl)]; exact hFqm10_187
                      have hFqm11_197 : F197 (qm 11) = cI (cy 3) 5 Kr.2.1 := by rw [eF197, va_up_ne _ _ (pl_ne hFqm11_187 hFo_187 rfl)]; exact hFqm11_187
                      have hFqm12_197 : F197 (qm 12) = cI (cy 1) 60 Kr.2.2 := by rw [eF197, va_up_ne _ _ (pl_ne hFqm12_187 hFo_187 rfl)]; exact hFqm12_187
                      have hFqm13_197 : F197 (qm 13) = cI (cy 1) 4 Bk.1 := by rw [eF197, va_up_ne _ _ (pl_ne hFqm13_187 hFo_187 rfl)]; exact hFqm13_187
                      have hFqm14_197 : F197 (qm 14) = cD (cy 0) 4 Bk.2 := by rw [eF197, va_up_ne _ _ (pl_ne hFqm14_187 hFo_187 rfl)]; exact hFqm14_187
                      have hFqm15_197 : F197 (qm 15) = cI (cy 1) 6 Xx.2 := by rw [eF197, va_up_ne _ _ (pl_ne hFqm15_187 hFo_187 rfl)]; exact hFqm15_187
                      refine lv_aload_n hx hb dX9_copy_204 rfl (lv_at hl 1 rfl) ?_
                      refine pg_get (ci := 8) (C := RX9) (T := TX9) (N := 20) hx hb hts hinX9 hown hK hP hmo hFo_197 rfl 18 (by decide) (hts (.fieldLink RX9 58 "RopeDrumsModel" "counted" "[I") (by decide +kernel)) (fun _ h9 => h9) rfl dX9_copy_205 ?_
                      refine lv_iconst (v := 2) hx hb dX9_copy_208 (by decide) ?_
                      refine lv_dup2_11 hx hb dX9_copy_209 rfl rfl ?_
                      refine pg_iald hx hb hK hP 1 hm15 hFqm15_197 rfl (vp_in_nI (n := 2) (N := 6) (by decide) (by decide)) dX9_copy_210 ?_
                      refine lv_topi (fun v198 ev198 => ?_)
                      refine lv_aload_n hx hb dX9_copy_211 rfl (lv_at hl 1 rfl) ?_
                      refine pg_get (ci := 8) (C := RX9) (T := TX9) (N := 20) hx hb hts hinX9 hown hK hP hmo hFo_197 rfl 17 (by decide) (hts (.fieldLink RX9 65 "RopeDrumsModel" "failed" "I") (by decide +kernel)) (fun _ h9 => h9) rfl dX9_copy_212 ?_
                      refine lv_if_le (tgt := 222) hx hb dX9_copy_215 (by decide) (fun c199 => absurd c199 (by decide)) (fun c199 => ?_)
                      refine lv_iconst (v := 1) hx hb dX9_copy_218 (by decide) ?_
                      refine lv_goto (tgt := 223) hx hb dX9_copy_219 (by decide) ?_
                      refine lv_iadd hx hb dX9_copy_223 ?_
                      refine lv_topi (fun v200 ev200 => ?_)
                      refine pg_iast hx hb hK hP hD hS 1 hm15 hFqm15_197 rfl (vp_in_nI (n := 2) (N := 6) (by decide) (by decide)) dX9_copy_224 (fun H locs F201 eF201 hP hS => ?_)
                      have hFo_201 : F201 o = .inr (8, [.int 0, .ref (qm 0), .ref (qm 1), .ref (qm 2), .ref (qm 3), .ref (qm 4), .ref (qm 5), .ref (qm 6), .ref (qm 7), .int Pp.1, .ref (qm 8), .ref (qm 9), .ref (qm 10), .ref (qm 11), .ref (qm 12), .ref (qm 13), .ref (qm 14), .int 2, .ref (qm 15), .long oc]) := by rw [eF201, va_up_ne _ _ (pl_ne hFo_197 hFqm15_197 rfl)]; exact hFo_197
                      have hFqm0_201 : F201 (qm 0) = cI (cy 1) 10 Mm.1 := by rw [eF201, va_up_ne _ _ (pl_ne hFqm0_197 hFqm15_197 rfl)]; exact hFqm0_197
                      have hFqm1_201 : F201 (qm 1) = cJ (cy 2) 10 Mm.2 := by rw [eF201, va_up_ne _ _ (pl_ne hFqm1_197 hFqm15_197 rfl)]; exact hFqm1_197
                      have hFqm2_201 : F201 (qm 2) = cD (cy 0) 6 Dd.1 := by rw [eF201, va_up_ne _ _ (pl_ne hFqm2_197 hFqm15_197 rfl)]; exact hFqm2_197
                      have hFqm3_201 : F201 (qm 3) = cD (cy 0) 6 Dd.2.1 := by rw [eF201, va_up_ne _ _ (pl_ne hFqm3_197 hFqm15_197 rfl)]; exact hFqm3_197
                      have hFqm4_201 : F201 (qm 4) = cD (cy 0) 6 Dd.2.2.1 := by rw [eF201, va_up_ne _ _ (pl_ne hFqm4_197 hFqm15_197 rfl)]; exact hFqm4_197
                      have hFqm5_201 : F201 (qm 5) = cJ (cy 2) 6 Dd.2.2.2 := by rw [eF201, va_up_ne _ _ (pl_ne hFqm5_197 hFqm15_197 rfl)]; exact hFqm5_197
                      have hFqm6_201 : F201 (qm 6) = cI (cy 1) 8 Sl.1 := by rw [eF201, va_up_ne _ _ (pl_ne hFqm6_197 hFqm15_197 rfl)]; exact hFqm6_197
                      have hFqm7_201 : F201 (qm 7) = cJ (cy 2) 128 (cpy Sl j_ff j_dd kk) := by rw [eF201, va_up_ne _ _ (pl_ne hFqm7_197 hFqm15_197 rfl)]; exact hFqm7_197
                      have hFqm8_201 : F201 (qm 8) = cI (cy 1) 30 Pp.2.1 := by rw [eF201, va_up_ne _ _ (pl_ne hFqm8_197 hFqm15_197 rfl)]; exact hFqm8_197
                      have hFqm9_201 : F201 (qm 9) = cI (cy 3) 30 Pp.2.2 := by rw [eF201, va_up_ne _ _ (pl_ne hFqm9_197 hFqm15_197 rfl)]; exact hFqm9_197
                      have hFqm10_201 : F201 (qm 10) = cI (cy 1) 5 Kr.1 := by rw [eF201, va_up_ne _ _ (pl_ne hFqm10_197 hFqm15_197 rfl)]; exact hFqm10_197
                      have hFqm11_201 : F201 (qm 11) = cI (cy 3) 5 Kr.2.1 := by rw [eF201, va_up_ne _ _ (pl_ne hFqm11_197 hFqm15_197 rfl)]; exact hFqm11_197
                      have hFqm12_201 : F201 (qm 12) = cI (cy 1) 60 Kr.2.2 := by rw [eF201, va_up_ne _ _ (pl_ne hFqm12_197 hFqm15_197 rfl)]; exact hFqm12_197
                      have hFqm13_201 : F201 (qm 13) = cI (cy 1) 4 Bk.1 := by rw [eF201, va_up_ne _ _ (pl_ne hFqm13_197 hFqm15_197 rfl)]; exact hFqm13_197
                      have hFqm14_201 : F201 (qm 14) = cD (cy 0) 4 Bk.2 := by rw [eF201, va_up_ne _ _ (pl_ne hFqm14_197 hFqm15_197 rfl)]; exact hFqm14_197
                      have hFqm15_201 : F201 (qm 15) = cI (cy 1) 6 (upd Xx.2 (2 : Int32).toNatClampNeg v200) := by rw [eF201]; exact va_up_self _ _ _
                      refine lv_iload hx hb dX9_copy_225 (lv_at hl 0 rfl) ?_
                      exact W.iret (v := nI kk) hx hb hr (fun t ht hW => ⟨⟨nI kk, F201, rfl, (by subst ev200 ev198 ev190 ev188; have hc66 := c135; have hc76 := c141; have hc193 := c191; have hc87 := c184; have hmn : mn (Sl.1 j_ff) (Sl.1 j_dd) = nI kk := (by have hd := hc87; rw [fa_eq] at hd; rw [fa_eq] at hc66; rw [fa_le] at hc76; rw [fa_le, nI_toInt (by omega)] at hc193; unfold mn; rw [fa_eq, nI_toInt (by omega)]; split; (rename_i hq; rw [fa_lt] at hq; omega); rename_i hq; rw [fa_lt] at hq; omega); have hsp : sp_copy Sl Xx (nI j_dd) (nI j_ff) bk = (nI kk, (Sl.1, cpy Sl j_ff j_dd kk), failX Xx 2) := (by unfold sp_copy; rw [hi_dd, hi_ff]; refine (if_pos ⟨hd4, hf4⟩).trans ((if_neg hbk).trans ?_); unfold cp; rw [if_neg hc66, if_neg (fun q => hc76 (by rw [q]; decide)), if_neg hc87, hmn, nI_tn (by omega), if_pos (by rw [fa_lt]; rw [fa_le] at hc193; omega)]); rw [hsp]; exact ⟨rfl, (by exact ⟨⟨_, _, hmo, hFo_201⟩, ⟨hm0, hFqm0_201⟩, ⟨hm1, hFqm1_201⟩, ⟨hm2, hFqm2_201⟩, ⟨hm3, hFqm3_201⟩, ⟨hm4, hFqm4_201⟩, ⟨hm5, hFqm5_201⟩, ⟨hm6, hFqm6_201⟩, ⟨hm7, hFqm7_201⟩, ⟨hm8, hFqm8_201⟩, ⟨hm9, hFqm9_201⟩, ⟨hm10, hFqm10_201⟩, ⟨hm11, hFqm11_201⟩, ⟨hm12, hFqm12_201⟩, ⟨hm13, hFqm13_201⟩, ⟨hm14, hFqm14_201⟩, ⟨hm15, hFqm15_201⟩, hne⟩)⟩), (by show va_P _ _ _ t.heap; rw [ht]; exact hP)⟩, hS.F ht⟩) hS.2.2 dX9_copy_227
                  · have hlt1 : (kk : Int) < (Sl.1 j_ff).toInt := by have hc := c189; rw [ev188, fa_le, nI_toInt (by omega)] at hc; omega
                    refine lv_iload hx hb dX9_copy_126 (lv_at hl 0 rfl) ?_
                    refine lv_aload_n hx hb dX9_copy_128 rfl (lv_at hl 1 rfl) ?_
                    refine pg_get (ci := 8) (C := RX9) (T := TX9) (N := 20) hx hb hts hinX9 hown hK hP hmo hFo_187 rfl 7 (by decide) (hts (.fieldLink RX9 30 "RopeDrumsModel" "logSize" "[I") (by decide +kernel)) (fun _ h9 => h9) rfl dX9_copy_129 ?_
                    refine lv_iload hx hb dX9_copy_132 (lv_at hl 3 rfl) ?_
                    refine pg_iald hx hb hK hP 1 hm6 hFqm6_187 rfl (vp_in_nI (by omega) (by decide)) dX9_copy_134 ?_
                    refine lv_topi (fun v202 ev202 => ?_)
                    rw [nI_clamp (by omega)] at ev202
                    refine lv_icmp_ge (tgt := 183) hx hb dX9_copy_135 (by decide) (fun c203 => ?_) (fun c203 => ?_)
                    · have hex : (Sl.1 j_dd).toInt ≤ (kk : Int) := by have hc := c203; rw [ev202, fa_le, nI_toInt (by omega)] at hc; omega
                      refine lv_aload_n hx hb dX9_copy_183 rfl (lv_at hl 1 rfl) ?_
                      refine lv_iload hx hb dX9_copy_184 (lv_at hl 0 rfl) ?_
                      refine lv_aload_n hx hb dX9_copy_186 rfl (lv_at hl 1 rfl) ?_
                      refine pg_get (ci := 8) (C := RX9) (T := TX9) (N := 20) hx hb hts hinX9 hown hK hP hmo hFo_187 rfl 7 (by decide) (hts (.fieldLink RX9 30 "RopeDrumsModel" "logSize" "[I") (by decide +kernel)) (fun _ h9 => h9) rfl dX9_copy_187 ?_
                      refine lv_iload hx hb dX9_copy_190 (lv_at hl 2 rfl) ?_
                      refine pg_iald hx hb hK hP 1 hm6 hFqm6_187 rfl (vp_in_nI (by omega) (by decide)) dX9_copy_192 ?_
                      refine lv_topi (fun v204 ev204 => ?_)
                      rw [nI_clamp (by omega)] at ev204
                      refine lv_icmp_ge (tgt := 200) hx hb dX9_copy_193 (by decide) (fun c205 => ?_) (fun c205 => ?_)
                      · refine lv_iconst (v := 0) hx hb dX9_copy_200 (by decide) ?_
                        refine pg_put (ci := 8) (v := .int 0) (ty := .int) (C := RX9) (T := TX9) (N := 20) hx hb hts hinX9 tyX9 tyX9_ok nmX9 hown hK hP hD hS hmo hFo_187 rfl 17 (by decide) (hts (.fieldLink RX9 65 "RopeDrumsModel" "failed" "I") (by decide +kernel)) (fun _ h9 => h9) rfl (by decide +kernel) (rfl) (rfl) (Nat.le_of_ble_eq_true rfl) dX9_copy_201 (fun H locs F206 eF206 hP hS => ?_)
                        have eF206 : F206 = va_up F187 o (.inr (8, [.int 0, .ref (qm 0), .ref (qm 1), .ref (qm 2), .ref (qm 3), .ref (qm 4), .ref (qm 5), .ref (qm 6), .ref (qm 7), .int Pp.1, .ref (qm 8), .ref (qm 9), .ref (qm 10), .ref (qm 11), .ref (qm 12), .ref (qm 13), .ref (qm 14), .int 0, .ref (qm 15), .long oc])) := eF206
                        have hFo_206 : F206 o = .inr (8, [.int 0, .ref (qm 0), .ref (qm 1), .ref (qm 2), .ref (qm 3), .ref (qm 4), .ref (qm 5), .ref (qm 6), .ref (qm 7), .int Pp.1, .ref (qm 8), .ref (qm 9), .ref (qm 10), .ref (qm 11), .ref (qm 12), .ref (qm 13), .ref (qm 14), .int 0, .ref (qm 15), .long oc]) := by rw [eF206]; exact va_up_self _ _ _
                        have hFqm0_206 : F206 (qm 0) = cI (cy 1) 10 Mm.1 := by rw [eF206, va_up_ne _ _ (pl_ne hFqm0_187 hFo_187 rfl)]; exact hFqm0_187
                        have hFqm1_206 : F206 (qm 1) = cJ (cy 2) 10 Mm.2 := by rw [eF206, va_up_ne _ _ (pl_ne hFqm1_187 hFo_187 rfl)]; exact hFqm1_187
                        have hFqm2_206 : F206 (qm 2) = cD (cy 0) 6 Dd.1 := by rw [eF206, va_up_ne _ _ (pl_ne hFqm2_187 hFo_187 rfl)]; exact hFqm2_187
                        have hFqm3_206 : F206 (qm 3) = cD (cy 0) 6 Dd.2.1 := by rw [eF206, va_up_ne _ _ (pl_ne hFqm3_187 hFo_187 rfl)]; exact hFqm3_187
                        have hFqm4_206 : F206 (qm 4) = cD (cy 0) 6 Dd.2.2.1 := by rw [eF206, va_up_ne _ _ (pl_ne hFqm4_187 hFo_187 rfl)]; exact hFqm4_187
                        have hFqm5_206 : F206 (qm 5) = cJ (cy 2) 6 Dd.2.2.2 := by rw [eF206, va_up_ne _ _ (pl_ne hFqm5_187 hFo_187 rfl)]; exact hFqm5_187
                        have hFqm6_206 : F206 (qm 6) = cI (cy 1) 8 Sl.1 := by rw [eF206, va_up_ne _ _ (pl_ne hFqm6_187 hFo_187 rfl)]; exact hFqm6_187
                        have hFqm7_206 : F206 (qm 7) = cJ (cy 2) 128 (cpy Sl j_ff j_dd kk) := by rw [eF206, va_up_ne _ _ (pl_ne hFqm7_187 hFo_187 rfl)]; exact hFqm7_187
                        have hFqm8_206 : F206 (qm 8) = cI (cy 1) 30 Pp.2.1 := by rw [eF206, va_up_ne _ _ (pl_ne hFqm8_187 hFo_187 rfl)]; exact hFqm8_187
                        have hFqm9_206 : F206 (qm 9) = cI (cy 3) 30 Pp.2.2 := by rw [eF206, va_up_ne _ _ (pl_ne hFqm9_187 hFo_187 rfl)]; exact hFqm9_187
                        have hFqm10_206 : F206 (qm 10) = cI (cy 1) 5 Kr.1 := by rw [eF206, va_up_ne _ _ (pl_ne hFqm10_187 hFo_187 rfl)]; exact hFqm10_187
                        have hFqm11_206 : F206 (qm 11) = cI (cy 3) 5 Kr.2.1 := by rw [eF206, va_up_ne _ _ (pl_ne hFqm11_187 hFo_187 rfl)]; exact hFqm11_187
                        have hFqm12_206 : F206 (qm 12) = cI (cy 1) 60 Kr.2.2 := by rw [eF206, va_up_ne _ _ (pl_ne hFqm12_187 hFo_187 rfl)]; exact hFqm12_187
                        have hFqm13_206 : F206 (qm 13) = cI (cy 1) 4 Bk.1 := by rw [eF206, va_up_ne _ _ (pl_ne hFqm13_187 hFo_187 rfl)]; exact hFqm13_187
                        have hFqm14_206 : F206 (qm 14) = cD (cy 0) 4 Bk.2 := by rw [eF206, va_up_ne _ _ (pl_ne hFqm14_187 hFo_187 rfl)]; exact hFqm14_187
                        have hFqm15_206 : F206 (qm 15) = cI (cy 1) 6 Xx.2 := by rw [eF206, va_up_ne _ _ (pl_ne hFqm15_187 hFo_187 rfl)]; exact hFqm15_187
                        refine lv_aload_n hx hb dX9_copy_204 rfl (lv_at hl 1 rfl) ?_
                        refine pg_get (ci := 8) (C := RX9) (T := TX9) (N := 20) hx hb hts hinX9 hown hK hP hmo hFo_206 rfl 18 (by decide) (hts (.fieldLink RX9 58 "RopeDrumsModel" "counted" "[I") (by decide +kernel)) (fun _ h9 => h9) rfl dX9_copy_205 ?_
                        refine lv_iconst (v := 2) hx hb dX9_copy_208 (by decide) ?_
                        refine lv_dup2_11 hx hb dX9_copy_209 rfl rfl ?_
                        refine pg_iald hx hb hK hP 1 hm15 hFqm15_206 rfl (vp_in_nI (n := 2) (N := 6) (by decide) (by decide)) dX9_copy_210 ?_
                        refine lv_topi (fun v207 ev207 => ?_)
                        refine lv_aload_n hx hb dX9_copy_211 rfl (lv_at hl 1 rfl) ?_
                        refine pg_get (ci := 8) (C := RX9) (T := TX9) (N := 20) hx hb hts hinX9 hown hK hP hmo hFo_206 rfl 17 (by decide) (hts (.fieldLink RX9 65 "RopeDrumsModel" "failed" "I") (by decide +kernel)) (fun _ h9 => h9) rfl dX9_copy_212 ?_
                        refine lv_if_le (tgt := 222) hx hb dX9_copy_215 (by decide) (fun c208 => ?_) (fun c208 => absurd (by decide) c208)
                        refine lv_iconst (v := 0) hx hb dX9_copy_222 (by decide) ?_
                        refine lv_iadd hx hb dX9_copy_223 ?_
                        refine lv_topi (fun v209 ev209 => ?_)
                        refine pg_iast hx hb hK hP hD hS 1 hm15 hFqm15_206 rfl (vp_in_nI (n := 2) (N := 6) (by decide) (by decide)) dX9_copy_224 (fun H locs F210 eF210 hP hS => ?_)
                        have hFo_210 : F210 o = .inr (8, [.int 0, .ref (qm 0), .ref (qm 1), .ref (qm 2), .ref (qm 3), .ref (qm 4), .ref (qm 5), .ref (qm 6), .ref (qm 7), .int Pp.1, .ref (qm 8), .ref (qm 9), .ref (qm 10), .ref (qm 11), .ref (qm 12), .ref (qm 13), .ref (qm 14), .int 0, .ref (qm 15), .long oc]) := by rw [eF210, va_up_ne _ _ (pl_ne hFo_206 hFqm15_206 rfl)]; exact hFo_206
                        have hFqm0_210 : F210 (qm 0) = cI (cy 1) 10 Mm.1 := by rw [eF210, va_up_ne _ _ (pl_ne hFqm0_206 hFqm15_206 rfl)]; exact hFqm0_206
                        have hFqm1_210 : F210 (qm 1) = cJ (cy 2) 10 Mm.2 := by rw [eF210, va_up_ne _ _ (pl_ne hFqm1_206 hFqm15_206 rfl)]; exact hFqm1_206
                        have hFqm2_210 : F210 (qm 2) = cD (cy 0) 6 Dd.1 := by rw [eF210, va_up_ne _ _ (pl_ne hFqm2_206 hFqm15_206 rfl)]; exact hFqm2_206
                        have hFqm3_210 : F210 (qm 3) = cD (cy 0) 6 Dd.2.1 := by rw [eF210, va_up_ne _ _ (pl_ne hFqm3_206 hFqm15_206 rfl)]; exact hFqm3_206
                        have hFqm4_210 : F210 (qm 4) = cD (cy 0) 6 Dd.2.2.1 := by rw [eF210, va_up_ne _ _ (pl_ne hFqm4_206 hFqm15_206 rfl)]; exact hFqm4_206
                        have hFqm5_210 : F210 (qm 5) = cJ (cy 2) 6 Dd.2.2.2 := by rw [eF210, va_up_ne _ _ (pl_ne hFqm5_206 hFqm15_206 rfl)]; exact hFqm5_206
                        have hFqm6_210 : F210 (qm 6) = cI (cy 1) 8 Sl.1 := by rw [eF210, va_up_ne _ _ (pl_ne hFqm6_206 hFqm15_206 rfl)]; exact hFqm6_206
                        have hFqm7_210 : F210 (qm 7) = cJ (cy 2) 128 (cpy Sl j_ff j_dd kk) := by rw [eF210, va_up_ne _ _ (pl_ne hFqm7_206 hFqm15_206 rfl)]; exact hFqm7_206
                        have hFqm8_210 : F210 (qm 8) = cI (cy 1) 30 Pp.2.1 := by rw [eF210, va_up_ne _ _ (pl_ne hFqm8_206 hFqm15_206 rfl)]; exact hFqm8_206
                        have hFqm9_210 : F210 (qm 9) = cI (cy 3) 30 Pp.2.2 := by rw [eF210, va_up_ne _ _ (pl_ne hFqm9_206 hFqm15_206 rfl)]; exact hFqm9_206
                        have hFqm10_210 : F210 (qm 10) = cI (cy 1) 5 Kr.1 := by rw [eF210, va_up_ne _ _ (pl_ne hFqm10_206 hFqm15_206 rfl)]; exact hFqm10_206
                        have hFqm11_210 : F210 (qm 11) = cI (cy 3) 5 Kr.2.1 := by rw [eF210, va_up_ne _ _ (pl_ne hFqm11_206 hFqm15_206 rfl)]; exact hFqm11_206
                        have hFqm12_210 : F210 (qm 12) = cI (cy 1) 60 Kr.2.2 := by rw [eF210, va_up_ne _ _ (pl_ne hFqm12_206 hFqm15_206 rfl)]; exact hFqm12_206
                        have hFqm13_210 : F210 (qm 13) = cI (cy 1) 4 Bk.1 := by rw [eF210, va_up_ne _ _ (pl_ne hFqm13_206 hFqm15_206 rfl)]; exact hFqm13_206
                        have hFqm14_210 : F210 (qm 14) = cD (cy 0) 4 Bk.2 := by rw [eF210, va_up_ne _ _ (pl_ne hFqm14_206 hFqm15_206 rfl)]; exact hFqm14_206
                        have hFqm15_210 : F210 (qm 15) = cI (cy 1) 6 (upd Xx.2 (2 : Int32).toNatClampNeg v209) := by rw [eF210]; exact va_up_self _ _ _
                        refine lv_iload hx hb dX9_copy_225 (lv_at hl 0 rfl) ?_
                        exact W.iret (v := nI kk) hx hb hr (fun t ht hW => ⟨⟨nI kk, F210, rfl, (by subst ev209 ev207 ev204 ev202 ev188; have hc66 := c135; have hc76 := c141; have hc193 := c205; have hc87 := c184; have hmn : mn (Sl.1 j_ff) (Sl.1 j_dd) = nI kk := (by have hd := hc87; rw [fa_eq] at hd; rw [fa_eq] at hc66; rw [fa_le] at hc76; rw [fa_le, nI_toInt (by omega)] at hc193; unfold mn; rw [fa_eq, nI_toInt (by omega)]; split; (rename_i hq; rw [fa_lt] at hq; omega); rename_i hq; rw [fa_lt] at hq; omega); rw [updid0] at hFqm15_210; have hsp : sp_copy Sl Xx (nI j_dd) (nI j_ff) bk = (nI kk, (Sl.1, cpy Sl j_ff j_dd kk), goodX Xx) := (by unfold sp_copy; rw [hi_dd, hi_ff]; refine (if_pos ⟨hd4, hf4⟩).trans ((if_neg hbk).trans ?_); unfold cp; rw [if_neg hc66, if_neg (fun q => hc76 (by rw [q]; decide)), if_neg hc87, hmn, nI_tn (by omega), if_neg (by rw [fa_lt]; rw [fa_le] at hc193; omega)]); rw [hsp]; exact ⟨rfl, (by exact ⟨⟨_, _, hmo, hFo_210⟩, ⟨hm0, hFqm0_210⟩, ⟨hm1, hFqm1_210⟩, ⟨hm2, hFqm2_210⟩, ⟨hm3, hFqm3_210⟩, ⟨hm4, hFqm4_210⟩, ⟨hm5, hFqm5_210⟩, ⟨hm6, hFqm6_210⟩, ⟨hm7, hFqm7_210⟩, ⟨hm8, hFqm8_210⟩, ⟨hm9, hFqm9_210⟩, ⟨hm10, hFqm10_210⟩, ⟨hm11, hFqm11_210⟩, ⟨hm12, hFqm12_210⟩, ⟨hm13, hFqm13_210⟩, ⟨hm14, hFqm14_210⟩, ⟨hm15, hFqm15_210⟩, hne⟩)⟩), (by show va_P _ _ _ t.heap; rw [ht]; exact hP)⟩, hS.F ht⟩) hS.2.2 dX9_copy_227
                      · refine lv_iconst (v := 2) hx hb dX9_copy_196 (by decide) ?_
                        refine lv_goto (tgt := 201) hx hb dX9_copy_197 (by decide) ?_
                        refine pg_put (ci := 8) (v := .int 2) (ty := .int) (C := RX9) (T := TX9) (N := 20) hx hb hts hinX9 tyX9 tyX9_ok nmX9 hown hK hP hD hS hmo hFo_187 rfl 17 (by decide) (hts (.fieldLink RX9 65 "RopeDrumsModel" "failed" "I") (by decide +kernel)) (fun _ h9 => h9) rfl (by decide +kernel) (rfl) (rfl) (Nat.le_of_ble_eq_true rfl) dX9_copy_201 (fun H locs F211 eF211 hP hS => ?_)
                        have eF211 : F211 = va_up F187 o (.inr (8, [.int 0, .ref (qm 0), .ref (qm 1), .ref (qm 2), .ref (qm 3), .ref (qm 4), .ref (qm 5), .ref (qm 6), .ref (qm 7), .int Pp.1, .ref (qm 8), .ref (qm 9), .ref (qm 10), .ref (qm 11), .ref (qm 12), .ref (qm 13), .ref (qm 14), .int 2, .ref (qm 15), .long oc])) := eF211
                        have hFo_211 : F211 o = .inr (8, [.int 0, .ref (qm 0), .ref (qm 1), .ref (qm 2), .ref (qm 3), .ref (qm 4), .ref (qm 5), .ref (qm 6), .ref (qm 7), .int Pp.1, .ref (qm 8), .ref (qm 9), .ref (qm 10), .ref (qm 11), .ref (qm 12), .ref (qm 13), .ref (qm 14), .int 2, .ref (qm 15), .long oc]) := by rw [eF211]; exact va_up_self _ _ _
                        have hFqm0_211 : F211 (qm 0) = cI (cy 1) 10 Mm.1 := by rw [eF211, va_up_ne _ _ (pl_ne hFqm0_187 hFo_187 rfl)]; exact hFqm0_187
                        have hFqm1_211 : F211 (qm 1) = cJ (cy 2) 10 Mm.2 := by rw [eF211, va_up_ne _ _ (pl_ne hFqm1_187 hFo_187 rfl)]; exact hFqm1_187
                        have hFqm2_211 : F211 (qm 2) = cD (cy 0) 6 Dd.1 := by rw [eF211, va_up_ne _ _ (pl_ne hFqm2_187 hFo_187 rfl)]; exact hFqm2_187
                        have hFqm3_211 : F211 (qm 3) = cD (cy 0) 6 Dd.2.1 := by rw [eF211, va_up_ne _ _ (pl_ne hFqm3_187 hFo_187 rfl)]; exact hFqm3_187
                        have hFqm4_211 : F211 (qm 4) = cD (cy 0) 6 Dd.2.2.1 := by rw [eF211, va_up_ne _ _ (pl_ne hFqm4_187 hFo_187 rfl)]; exact hFqm4_187
                        have hFqm5_211 : F211 (qm 5) = cJ (cy 2) 6 Dd.2.2.2 := by rw [eF211, va_up_ne _ _ (pl_ne hFqm5_187 hFo_187 rfl)]; exact hFqm5_187
                        have hFqm6_211 : F211 (qm 6) = cI (cy 1) 8 Sl.1 := by rw [eF211, va_up_ne _ _ (pl_ne hFqm6_187 hFo_187 rfl)]; exact hFqm6_187
                        have hFqm7_211 : F211 (qm 7) = cJ (cy 2) 128 (cpy Sl j_ff j_dd kk) := by rw [eF211, va_up_ne _ _ (pl_ne hFqm7_187 hFo_187 rfl)]; exact hFqm7_187
                        have hFqm8_211 : F211 (qm 8) = cI (cy 1) 30 Pp.2.1 := by rw [eF211, va_up_ne _ _ (pl_ne hFqm8_187 hFo_187 rfl)]; exact hFqm8_187
                        have hFqm9_211 : F211 (qm 9) = cI (cy 3) 30 Pp.2.2 := by rw [eF211, va_up_ne _ _ (pl_ne hFqm9_187 hFo_187 rfl)]; exact hFqm9_187
                        have hFqm10_211 : F211 (qm 10) = cI (cy 1) 5 Kr.1 := by rw [eF211, va_up_ne _ _ (pl_ne hFqm10_187 hFo_187 rfl)]; exact hFqm10_187
                        have hFqm11_211 : F211 (qm 11) = cI (cy 3) 5 Kr.2.1 := by rw [eF211, va_up_ne _ _ (pl_ne hFqm11_187 hFo_187 rfl)]; exact hFqm11_187
                        have hFqm12_211 : F211 (qm 12) = cI (cy 1) 60 Kr.2.2 := by rw [eF211, va_up_ne _ _ (pl_ne hFqm12_187 hFo_187 rfl)]; exact hFqm12_187
                        have hFqm13_211 : F211 (qm 13) = cI (cy 1) 4 Bk.1 := by rw [eF211, va_up_ne _ _ (pl_ne hFqm13_187 hFo_187 rfl)]; exact hFqm13_187
                        have hFqm14_211 : F211 (qm 14) = cD (cy 0) 4 Bk.2 := by rw [eF211, va_up_ne _ _ (pl_ne hFqm14_187 hFo_187 rfl)]; exact hFqm14_187
                        have hFqm15_211 : F211 (qm 15) = cI (cy 1) 6 Xx.2 := by rw [eF211, va_up_ne _ _ (pl_ne hFqm15_187 hFo_187 rfl)]; exact hFqm15_187
                        refine lv_aload_n hx hb dX9_copy_204 rfl (lv_at hl 1 rfl) ?_
                        refine pg_get (ci := 8) (C := RX9) (T := TX9) (N := 20) hx hb hts hinX9 hown hK hP hmo hFo_211 rfl 18 (by decide) (hts (.fieldLink RX9 58 "RopeDrumsModel" "counted" "[I") (by decide +kernel)) (fun _ h9 => h9) rfl dX9_copy_205 ?_
                        refine lv_iconst (v := 2) hx hb dX9_copy_208 (by decide) ?_
                        refine lv_dup2_11 hx hb dX9_copy_209 rfl rfl ?_
                        refine pg_iald hx hb hK hP 1 hm15 hFqm15_211 rfl (vp_in_nI (n := 2) (N := 6) (by decide) (by decide)) dX9_copy_210 ?_
                        refine lv_topi (fun v212 ev212 => ?_)
                        refine lv_aload_n hx hb dX9_copy_211 rfl (lv_at hl 1 rfl) ?_
                        refine pg_get (ci := 8) (C := RX9) (T := TX9) (N := 20) hx hb hts hinX9 hown hK hP hmo hFo_211 rfl 17 (by decide) (hts (.fieldLink RX9 65 "RopeDrumsModel" "failed" "I") (by decide +kernel)) (fun _ h9 => h9) rfl dX9_copy_212 ?_
                        refine lv_if_le (tgt := 222) hx hb dX9_copy_215 (by decide) (fun c213 => absurd c213 (by decide)) (fun c213 => ?_)
                        refine lv_iconst (v := 1) hx hb dX9_copy_218 (by decide) ?_
                        refine lv_goto (tgt := 223) hx hb dX9_copy_219 (by decide) ?_
                        refine lv_iadd hx hb dX9_copy_223 ?_
                        refine lv_topi (fun v214 ev214 => ?_)
                        refine pg_iast hx hb hK hP hD hS 1 hm15 hFqm15_211 rfl (vp_in_nI (n := 2) (N := 6) (by decide) (by decide)) dX9_copy_224 (fun H locs F215 eF215 hP hS => ?_)
                        have hFo_215 : F215 o = .inr (8, [.int 0, .ref (qm 0), .ref (qm 1), .ref (qm 2), .ref (qm 3), .ref (qm 4), .ref (qm 5), .ref (qm 6), .ref (qm 7), .int Pp.1, .ref (qm 8), .ref (qm 9), .ref (qm 10), .ref (qm 11), .ref (qm 12), .ref (qm 13), .ref (qm 14), .int 2, .ref (qm 15), .long oc]) := by rw [eF215, va_up_ne _ _ (pl_ne hFo_211 hFqm15_211 rfl)]; exact hFo_211
                        have hFqm0_215 : F215 (qm 0) = cI (cy 1) 10 Mm.1 := by rw [eF215, va_up_ne _ _ (pl_ne hFqm0_211 hFqm15_211 rfl)]; exact hFqm0_211
                        have hFqm1_215 : F215 (qm 1) = cJ (cy 2) 10 Mm.2 := by rw [eF215, va_up_ne _ _ (pl_ne hFqm1_211 hFqm15_211 rfl)]; exact hFqm1_211
                        have hFqm2_215 : F215 (qm 2) = cD (cy 0) 6 Dd.1 := by rw [eF215, va_up_ne _ _ (pl_ne hFqm2_211 hFqm15_211 rfl)]; exact hFqm2_211
                        have hFqm3_215 : F215 (qm 3) = cD (cy 0) 6 Dd.2.1 := by rw [eF215, va_up_ne _ _ (pl_ne hFqm3_211 hFqm15_211 rfl)]; exact hFqm3_211
                        have hFqm4_215 : F215 (qm 4) = cD (cy 0) 6 Dd.2.2.1 := by rw [eF215, va_up_ne _ _ (pl_ne hFqm4_211 hFqm15_211 rfl)]; exact hFqm4_211
                        have hFqm5_215 : F215 (qm 5) = cJ (cy 2) 6 Dd.2.2.2 := by rw [eF215, va_up_ne _ _ (pl_ne hFqm5_211 hFqm15_211 rfl)]; exact hFqm5_211
                        have hFqm6_215 : F215 (qm 6) = cI (cy 1) 8 Sl.1 := by rw [eF215, va_up_ne _ _ (pl_ne hFqm6_211 hFqm15_211 rfl)]; exact hFqm6_211
                        have hFqm7_215 : F215 (qm 7) = cJ (cy 2) 128 (cpy Sl j_ff j_dd kk) := by rw [eF215, va_up_ne _ _ (pl_ne hFqm7_211 hFqm15_211 rfl)]; exact hFqm7_211
                        have hFqm8_215 : F215 (qm 8) = cI (cy 1) 30 Pp.2.1 := by rw [eF215, va_up_ne _ _ (pl_ne hFqm8_211 hFqm15_211 rfl)]; exact hFqm8_211
                        have hFqm9_215 : F215 (qm 9) = cI (cy 3) 30 Pp.2.2 := by rw [eF215, va_up_ne _ _ (pl_ne hFqm9_211 hFqm15_211 rfl)]; exact hFqm9_211
                        have hFqm10_215 : F215 (qm 10) = cI (cy 1) 5 Kr.1 := by rw [eF215, va_up_ne _ _ (pl_ne hFqm10_211 hFqm15_211 rfl)]; exact hFqm10_211
                        have hFqm11_215 : F215 (qm 11) = cI (cy 3) 5 Kr.2.1 := by rw [eF215, va_up_ne _ _ (pl_ne hFqm11_211 hFqm15_211 rfl)]; exact hFqm11_211
                        have hFqm12_215 : F215 (qm 12) = cI (cy 1) 60 Kr.2.2 := by rw [eF215, va_up_ne _ _ (pl_ne hFqm12_211 hFqm15_211 rfl)]; exact hFqm12_211
                        have hFqm13_215 : F215 (qm 13) = cI (cy 1) 4 Bk.1 := by rw [eF215, va_up_ne _ _ (pl_ne hFqm13_211 hFqm15_211 rfl)]; exact hFqm13_211
                        have hFqm14_215 : F215 (qm 14) = cD (cy 0) 4 Bk.2 := by rw [eF215, va_up_ne _ _ (pl_ne hFqm14_211 hFqm15_211 rfl)]; exact hFqm14_211
                        have hFqm15_215 : F215 (qm 15) = cI (cy 1) 6 (upd Xx.2 (2 : Int32).toNatClampNeg v214) := by rw [eF215]; exact va_up_self _ _ _
                        refine lv_iload hx hb dX9_copy_225 (lv_at hl 0 rfl) ?_
                        exact W.iret (v := nI kk) hx hb hr (fun t ht hW => ⟨⟨nI kk, F215, rfl, (by subst ev214 ev212 ev204 ev202 ev188; have hc66 := c135; have hc76 := c141; have hc193 := c205; have hc87 := c184; have hmn : mn (Sl.1 j_ff) (Sl.1 j_dd) = nI kk := (by have hd := hc87; rw [fa_eq] at hd; rw [fa_eq] at hc66; rw [fa_le] at hc76; rw [fa_le, nI_toInt (by omega)] at hc193; unfold mn; rw [fa_eq, nI_toInt (by omega)]; split; (rename_i hq; rw [fa_lt] at hq; omega); rename_i hq; rw [fa_lt] at hq; omega); have hsp : sp_copy Sl Xx (nI j_dd) (nI j_ff) bk = (nI kk, (Sl.1, cpy Sl j_ff j_dd kk), failX Xx 2) := (by unfold sp_copy; rw [hi_dd, hi_ff]; refine (if_pos ⟨hd4, hf4⟩).trans ((if_neg hbk).trans ?_); unfold cp; rw [if_neg hc66, if_neg (fun q => hc76 (by rw [q]; decide)), if_neg hc87, hmn, nI_tn (by omega), if_pos (by rw [fa_lt]; rw [fa_le] at hc193; omega)]); rw [hsp]; exact ⟨rfl, (by exact ⟨⟨_, _, hmo, hFo_215⟩, ⟨hm0, hFqm0_215⟩, ⟨hm1, hFqm1_215⟩, ⟨hm2, hFqm2_215⟩, ⟨hm3, hFqm3_215⟩, ⟨hm4, hFqm4_215⟩, ⟨hm5, hFqm5_215⟩, ⟨hm6, hFqm6_215⟩, ⟨hm7, hFqm7_215⟩, ⟨hm8, hFqm8_215⟩, ⟨hm9, hFqm9_215⟩, ⟨hm10, hFqm10_215⟩, ⟨hm11, hFqm11_215⟩, ⟨hm12, hFqm12_215⟩, ⟨hm13, hFqm13_215⟩, ⟨hm14, hFqm14_215⟩, ⟨hm15, hFqm15_215⟩, hne⟩)⟩), (by show va_P _ _ _ t.heap; rw [ht]; exact hP)⟩, hS.F ht⟩) hS.2.2 dX9_copy_227
                    · have hlt2 : (kk : Int) < (Sl.1 j_dd).toInt := by have hc := c203; rw [ev202, fa_le, nI_toInt (by omega)] at hc; omega
                      refine lv_aload_n hx hb dX9_copy_138 rfl (lv_at hl 1 rfl) ?_
                      refine pg_get (ci := 8) (C := RX9) (T := TX9) (N := 20) hx hb hts hinX9 hown hK hP hmo hFo_187 rfl 8 (by decide) (hts (.fieldLink RX9 33 "RopeDrumsModel" "logBits" "[J") (by decide +kernel)) (fun _ h9 => h9) rfl dX9_copy_139 ?_
                      refine lv_bipush (v := 16) hx hb dX9_copy_142 (by decide) ?_
                      refine lv_iload hx hb dX9_copy_144 (lv_at hl 3 rfl) ?_
                      refine lv_imul hx hb dX9_copy_146 ?_
                      refine lv_topi (fun v216 ev216 => ?_)
                      refine lv_iload hx hb dX9_copy_147 (lv_at hl 0 rfl) ?_
                      refine lv_iadd hx hb dX9_copy_149 ?_
                      refine lv_topi (fun v217 ev217 => ?_)
                      rw [ev216, nI16] at ev217
                      subst ev217
                      refine lv_iload hx hb dX9_copy_150 (lv_at hl 2 rfl) ?_
                      refine vp_callSi (W.runS (As := [.int (nI j_ff)]) (rest := [.int (nI (16 * j_dd + kk)), .ref (qm 7)]) ⟨hx, hb, hml, hown, hts⟩ (c9_laneOfLog l j_ff hj_ff) (va_cwS 1 hts gX9_copy_X9_laneOfLog rfl rfl rfl (by decide +kernel) ⟨Nat.le_of_ble_eq_true rfl, Nat.le_of_ble_eq_true rfl⟩) (preS_of okT (trivial)) rfl rfl hl.1 rfl (lv_room (Nat.le_of_ble_eq_true rfl)) dX9_copy_152 ⟨Nat.le_of_ble_eq_true rfl, Nat.le_of_ble_eq_true rfl⟩) (fun r218 hr218 => ?_)
                      subst hr218
                      refine lv_aload_n hx hb dX9_copy_155 rfl (lv_at hl 1 rfl) ?_
                      refine pg_get (ci := 8) (C := RX9) (T := TX9) (N := 20) hx hb hts hinX9 hown hK hP hmo hFo_187 rfl 8 (by decide) (hts (.fieldLink RX9 33 "RopeDrumsModel" "logBits" "[J") (by decide +kernel)) (fun _ h9 => h9) rfl dX9_copy_156 ?_
                      refine lv_bipush (v := 16) hx hb dX9_copy_159 (by decide) ?_
                      refine lv_iload hx hb dX9_copy_161 (lv_at hl 2 rfl) ?_
                      refine lv_imul hx hb dX9_copy_163 ?_
                      refine lv_topi (fun v219 ev219 => ?_)
                      refine lv_iload hx hb dX9_copy_164 (lv_at hl 0 rfl) ?_
                      refine lv_iadd hx hb dX9_copy_166 ?_
                      refine lv_topi (fun v220 ev220 => ?_)
                      rw [ev219, nI16] at ev220
                      subst ev220
                      refine pg_lald hx hb hK hP 2 hm7 hFqm7_187 rfl (vp_in_nI (by omega) (by decide)) dX9_copy_167 ?_
                      refine lv_topl (fun v221 ev221 => ?_)
                      rw [nI_clamp (by omega)] at ev221
                      refine lv_iload hx hb dX9_copy_168 (lv_at hl 3 rfl) ?_
                      refine vp_callSi (W.runS (As := [.int (nI j_dd)]) (rest := [.long v221, .int (lw j_ff), .int (nI (16 * j_dd + kk)), .ref (qm 7)]) ⟨hx, hb, hml, hown, hts⟩ (c9_laneOfLog l j_dd hj_dd) (va_cwS 1 hts gX9_copy_X9_laneOfLog rfl rfl rfl (by decide +kernel) ⟨Nat.le_of_ble_eq_true rfl, Nat.le_of_ble_eq_true rfl⟩) (preS_of okT (trivial)) rfl rfl hl.1 rfl (lv_room (Nat.le_of_ble_eq_true rfl)) dX9_copy_170 ⟨Nat.le_of_ble_eq_true rfl, Nat.le_of_ble_eq_true rfl⟩) (fun r222 hr222 => ?_)
                      subst hr222
                      refine vp_callSl (W.runS (As := [.int (lw j_ff), .long v221, .int (lw j_dd)]) (rest := [.int (nI (16 * j_dd + kk)), .ref (qm 7)]) ⟨hx, hb, hml, hown, hts⟩ (c9_turned l (lw j_ff) (lw j_dd) v221 (by rw [ev221]; exact (by rw [cpyf hij (by omega)]; exact (hVS j_ff hj_ff).2 kk hlt1))) (va_cwS 3 hts gX9_copy_X9_turned rfl rfl rfl (by decide +kernel) ⟨Nat.le_of_ble_eq_true rfl, Nat.le_of_ble_eq_true rfl⟩) (preS_of okT (trivial)) rfl rfl hl.1 rfl (lv_room (Nat.le_of_ble_eq_true rfl)) dX9_copy_173 ⟨Nat.le_of_ble_eq_true rfl, Nat.le_of_ble_eq_true rfl⟩) (fun r223 hr223 => ?_)
                      refine pg_last hx hb hK hP hD hS 2 hm7 hFqm7_187 rfl (vp_in_nI (by omega) (by decide)) dX9_copy_176 (fun H locs F224 eF224 hP hS => ?_)
                      rw [nI_clamp (by omega)] at eF224
                      have hFo_224 : F224 o = .inr (8, [.int 0, .ref (qm 0), .ref (qm 1), .ref (qm 2), .ref (qm 3), .ref (qm 4), .ref (qm 5), .ref (qm 6), .ref (qm 7), .int Pp.1, .ref (qm 8), .ref (qm 9), .ref (qm 10), .ref (qm 11), .ref (qm 12), .ref (qm 13), .ref (qm 14), .int 0, .ref (qm 15), .long oc]) := by rw [eF224, va_up_ne _ _ (pl_ne hFo_187 hFqm7_187 rfl)]; exact hFo_187
                      have hFqm0_224 : F224 (qm 0) = cI (cy 1) 10 Mm.1 := by rw [eF224, va_up_ne _ _ (pl_ne hFqm0_187 hFqm7_187 rfl)]; exact hFqm0_187
                      have hFqm1_224 : F224 (qm 1) = cJ (cy 2) 10 Mm.2 := by rw [eF224, va_up_ne _ _ (pl_ne hFqm1_187 hFqm7_187 rfl)]; exact hFqm1_187
                      have hFqm2_224 : F224 (qm 2) = cD (cy 0) 6 Dd.1 := by rw [eF224, va_up_ne _ _ (pl_ne hFqm2_187 hFqm7_187 rfl)]; exact hFqm2_187
                      have hFqm3_224 : F224 (qm 3) = cD (cy 0) 6 Dd.2.1 := by rw [eF224, va_up_ne _ _ (pl_ne hFqm3_187 hFqm7_187 rfl)]; exact hFqm3_187
                      have hFqm4_224 : F224 (qm 4) = cD (cy 0) 6 Dd.2.2.1 := by rw [eF224, va_up_ne _ _ (pl_ne hFqm4_187 hFqm7_187 rfl)]; exact hFqm4_187
                      have hFqm5_224 : F224 (qm 5) = cJ (cy 2) 6 Dd.2.2.2 := by rw [eF224, va_up_ne _ _ (pl_ne hFqm5_187 hFqm7_187 rfl)]; exact hFqm5_187
                      have hFqm6_224 : F224 (qm 6) = cI (cy 1) 8 Sl.1 := by rw [eF224, va_up_ne _ _ (pl_ne hFqm6_187 hFqm7_187 rfl)]; exact hFqm6_187
                      have hFqm7_224 : F224 (qm 7) = cJ (cy 2) 128 (vp_updL (cpy Sl j_ff j_dd kk) (16 * j_dd + kk) r223) := by rw [eF224]; exact va_up_self _ _ _
                      have hFqm8_224 : F224 (qm 8) = cI (cy 1) 30 Pp.2.1 := by rw [eF224, va_up_ne _ _ (pl_ne hFqm8_187 hFqm7_187 rfl)]; exact hFqm8_187
                      have hFqm9_224 : F224 (qm 9) = cI (cy 3) 30 Pp.2.2 := by rw [eF224, va_up_ne _ _ (pl_ne hFqm9_187 hFqm7_187 rfl)]; exact hFqm9_187
                      have hFqm10_224 : F224 (qm 10) = cI (cy 1) 5 Kr.1 := by rw [eF224, va_up_ne _ _ (pl_ne hFqm10_187 hFqm7_187 rfl)]; exact hFqm10_187
                      have hFqm11_224 : F224 (qm 11) = cI (cy 3) 5 Kr.2.1 := by rw [eF224, va_up_ne _ _ (pl_ne hFqm11_187 hFqm7_187 rfl)]; exact hFqm11_187
                      have hFqm12_224 : F224 (qm 12) = cI (cy 1) 60 Kr.2.2 := by rw [eF224, va_up_ne _ _ (pl_ne hFqm12_187 hFqm7_187 rfl)]; exact hFqm12_187
                      have hFqm13_224 : F224 (qm 13) = cI (cy 1) 4 Bk.1 := by rw [eF224, va_up_ne _ _ (pl_ne hFqm13_187 hFqm7_187 rfl)]; exact hFqm13_187
                      have hFqm14_224 : F224 (qm 14) = cD (cy 0) 4 Bk.2 := by rw [eF224, va_up_ne _ _ (pl_ne hFqm14_187 hFqm7_187 rfl)]; exact hFqm14_187
                      have hFqm15_224 : F224 (qm 15) = cI (cy 1) 6 Xx.2 := by rw [eF224, va_up_ne _ _ (pl_ne hFqm15_187 hFqm7_187 rfl)]; exact hFqm15_187
                      obtain ⟨v225, ev225⟩ : ∃ y : Int32, y = (nI kk) + (1) := ⟨_, rfl⟩
                      refine lv_iinc (v := v225) (lv' := [(6, .int v225), (0, .ref o), (4, .int (nI j_ff)), (5, .int (nI j_dd))]) hx hb dX9_copy_177 hl (k := 0) rfl (by rw [ev225]; rfl) (by decide) rfl (fun ls hl => ?_)
                      refine lv_goto (tgt := 114) hx hb dX9_copy_180 (by decide) ?_
                      have hv : v225 = nI (kk + 1) := by rw [ev225, nI_succ]
                      rw [hv] at hl
                      exact K (kk + 1) ls H locs (Or.inr (by omega)) (by omega) (by rw [← show F224 = va_up F185 (qm 7) (cJ (cy 2) 128 (cpy Sl j_ff j_dd (kk + 1))) from (by rw [eF224, eF187, upup]; exact congrArg (fun x => va_up F185 (qm 7) (cJ (cy 2) 128 x)) (by rw [hr223, ev221, cpyf hij (by omega)]; exact cpys Sl j_ff j_dd kk))]; exact hP) hS (lv_sub hl [0, 1, 2, 3] rfl)
                · refine lv_iconst (v := 1) hx hb dX9_copy_90 (by decide) ?_
                  refine lv_goto (tgt := 95) hx hb dX9_copy_91 (by decide) ?_
                  refine pg_put (ci := 8) (v := .int 1) (ty := .int) (C := RX9) (T := TX9) (N := 20) hx hb hts hinX9 tyX9 tyX9_ok nmX9 hown hK hP hD hS hmo hFo_125 rfl 17 (by decide) (hts (.fieldLink RX9 65 "RopeDrumsModel" "failed" "I") (by decide +kernel)) (fun _ h9 => h9) rfl (by decide +kernel) (rfl) (rfl) (Nat.le_of_ble_eq_true rfl) dX9_copy_95 (fun H locs F226 eF226 hP hS => ?_)
                  have eF226 : F226 = va_up F125 o (.inr (8, [.int 0, .ref (qm 0), .ref (qm 1), .ref (qm 2), .ref (qm 3), .ref (qm 4), .ref (qm 5), .ref (qm 6), .ref (qm 7), .int Pp.1, .ref (qm 8), .ref (qm 9), .ref (qm 10), .ref (qm 11), .ref (qm 12), .ref (qm 13), .ref (qm 14), .int 1, .ref (qm 15), .long oc])) := eF226
                  have hFo_226 : F226 o = .inr (8, [.int 0, .ref (qm 0), .ref (qm 1), .ref (qm 2), .ref (qm 3), .ref (qm 4), .ref (qm 5), .ref (qm 6), .ref (qm 7), .int Pp.1, .ref (qm 8), .ref (qm 9), .ref (qm 10), .ref (qm 11), .ref (qm 12), .ref (qm 13), .ref (qm 14), .int 1, .ref (qm 15), .long oc]) := by rw [eF226]; exact va_up_self _ _ _
                  have hFqm0_226 : F226 (qm 0) = cI (cy 1) 10 Mm.1 := by rw [eF226, va_up_ne _ _ (pl_ne hFqm0_125 hFo_125 rfl)]; exact hFqm0_125
                  have hFqm1_226 : F226 (qm 1) = cJ (cy 2) 10 Mm.2 := by rw [eF226, va_up_ne _ _ (pl_ne hFqm1_125 hFo_125 rfl)]; exact hFqm1_125
                  have hFqm2_226 : F226 (qm 2) = cD (cy 0) 6 Dd.1 := by rw [eF226, va_up_ne _ _ (pl_ne hFqm2_125 hFo_125 rfl)]; exact hFqm2_125
                  have hFqm3_226 : F226 (qm 3) = cD (cy 0) 6 Dd.2.1 := by rw [eF226, va_up_ne _ _ (pl_ne hFqm3_125 hFo_125 rfl)]; exact hFqm3_125
                  have hFqm4_226 : F226 (qm 4) = cD (cy 0) 6 Dd.2.2.1 := by rw [eF226, va_up_ne _ _ (pl_ne hFqm4_125 hFo_125 rfl)]; exact hFqm4_125
                  have hFqm5_226 : F226 (qm 5) = cJ (cy 2) 6 Dd.2.2.2 := by rw [eF226, va_up_ne _ _ (pl_ne hFqm5_125 hFo_125 rfl)]; exact hFqm5_125
                  have hFqm6_226 : F226 (qm 6) = cI (cy 1) 8 Sl.1 := by rw [eF226, va_up_ne _ _ (pl_ne hFqm6_125 hFo_125 rfl)]; exact hFqm6_125
                  have hFqm7_226 : F226 (qm 7) = cJ (cy 2) 128 Sl.2 := by rw [eF226, va_up_ne _ _ (pl_ne hFqm7_125 hFo_125 rfl)]; exact hFqm7_125
                  have hFqm8_226 : F226 (qm 8) = cI (cy 1) 30 Pp.2.1 := by rw [eF226, va_up_ne _ _ (pl_ne hFqm8_125 hFo_125 rfl)]; exact hFqm8_125
                  have hFqm9_226 : F226 (qm 9) = cI (cy 3) 30 Pp.2.2 := by rw [eF226, va_up_ne _ _ (pl_ne hFqm9_125 hFo_125 rfl)]; exact hFqm9_125
                  have hFqm10_226 : F226 (qm 10) = cI (cy 1) 5 Kr.1 := by rw [eF226, va_up_ne _ _ (pl_ne hFqm10_125 hFo_125 rfl)]; exact hFqm10_125
                  have hFqm11_226 : F226 (qm 11) = cI (cy 3) 5 Kr.2.1 := by rw [eF226, va_up_ne _ _ (pl_ne hFqm11_125 hFo_125 rfl)]; exact hFqm11_125
                  have hFqm12_226 : F226 (qm 12) = cI (cy 1) 60 Kr.2.2 := by rw [eF226, va_up_ne _ _ (pl_ne hFqm12_125 hFo_125 rfl)]; exact hFqm12_125
                  have hFqm13_226 : F226 (qm 13) = cI (cy 1) 4 Bk.1 := by rw [eF226, va_up_ne _ _ (pl_ne hFqm13_125 hFo_125 rfl)]; exact hFqm13_125
                  have hFqm14_226 : F226 (qm 14) = cD (cy 0) 4 Bk.2 := by rw [eF226, va_up_ne _ _ (pl_ne hFqm14_125 hFo_125 rfl)]; exact hFqm14_125
                  have hFqm15_226 : F226 (qm 15) = cI (cy 1) 6 Xx.2 := by rw [eF226, va_up_ne _ _ (pl_ne hFqm15_125 hFo_125 rfl)]; exact hFqm15_125
                  rw [ev134] at c135
                  rw [ev140] at c141
                  rw [ev183] at c184
                  refine lv_aload_n hx hb dX9_copy_98 rfl (lv_at hl 2 rfl) ?_
                  refine pg_get (ci := 8) (C := RX9) (T := TX9) (N := 20) hx hb hts hinX9 hown hK hP hmo hFo_226 rfl 17 (by decide) (hts (.fieldLink RX9 65 "RopeDrumsModel" "failed" "I") (by decide +kernel)) (fun _ h9 => h9) rfl dX9_copy_99 ?_
                  refine lv_if_le (tgt := 111) hx hb dX9_copy_102 (by decide) (fun c227 => absurd c227 (by decide)) (fun c227 => ?_)
                  refine lv_aload_n hx hb dX9_copy_105 rfl (lv_at hl 2 rfl) ?_
                  refine lv_iconst (v := 0) hx hb dX9_copy_106 (by decide) ?_
                  refine va_calli (va_runV (As := [.int 0]) (rest := []) ⟨hx, hb, hml, hown, hts⟩ (c9_answers_1 l G cy L F226 H.size o qm 0 Pp.1 oc hmo hFo_226 Xx.2 hm15 hFqm15_226 0) (cwV 1 hts gX9_copy_X9_answers rfl rfl rfl (by decide +kernel) ⟨Nat.le_of_ble_eq_true rfl, Nat.le_of_ble_eq_true rfl⟩) (preV_of okQ (⟨rfl, hP, hK, hD.top⟩) (pl_recv hK hP (ci := 8) rfl hmo hFo_226)) rfl rfl hl.1 rfl (lv_room (Nat.le_of_ble_eq_true rfl)) dX9_copy_107 ⟨Nat.le_of_ble_eq_true rfl, Nat.le_of_ble_eq_true rfl⟩) hS (fun q _ h => pl_free hD hS hA q h) (pl_free hD hS hA) (fun r229 F228 t H1 locs ht hvm hw hP1 hz1 hk1 hS => ?_)
                  have hP1 : va_P G vwCl (va_pl L F228) t.heap := hP1
                  rw [ht] at hP1
                  have hP := hP1
                  generalize H1 = H at hP hS ⊢
                  obtain ⟨hqr229, eF228⟩ := hw
                  have eF228 : F228 = va_up F226 (qm 15) (cI (cy 1) 6 (upd Xx.2 1 (Xx.2 1 + 1))) := eF228
                  have hFo_229 : F228 o = .inr (8, [.int 0, .ref (qm 0), .ref (qm 1), .ref (qm 2), .ref (qm 3), .ref (qm 4), .ref (qm 5), .ref (qm 6), .ref (qm 7), .int Pp.1, .ref (qm 8), .ref (qm 9), .ref (qm 10), .ref (qm 11), .ref (qm 12), .ref (qm 13), .ref (qm 14), .int 1, .ref (qm 15), .long oc]) := by rw [eF228, va_up_ne _ _ (pl_ne hFo_226 hFqm15_226 rfl)]; exact hFo_226
                  have hFqm0_229 : F228 (qm 0) = cI (cy 1) 10 Mm.1 := by rw [eF228, va_up_ne _ _ (pl_ne hFqm0_226 hFqm15_226 rfl)]; exact hFqm0_226
                  have hFqm1_229 : F228 (qm 1) = cJ (cy 2) 10 Mm.2 := by rw [eF228, va_up_ne _ _ (pl_ne hFqm1_226 hFqm15_226 rfl)]; exact hFqm1_226
                  have hFqm2_229 : F228 (qm 2) = cD (cy 0) 6 Dd.1 := by rw [eF228, va_up_ne _ _ (pl_ne hFqm2_226 hFqm15_226 rfl)]; exact hFqm2_226
                  have hFqm3_229 : F228 (qm 3) = cD (cy 0) 6 Dd.2.1 := by rw [eF228, va_up_ne _ _ (pl_ne hFqm3_226 hFqm15_226 rfl)]; exact hFqm3_226
                  have hFqm4_229 : F228 (qm 4) = cD (cy 0) 6 Dd.2.2.1 := by rw [eF228, va_up_ne _ _ (pl_ne hFqm4_226 hFqm15_226 rfl)]; exact hFqm4_226
                  have hFqm5_229 : F228 (qm 5) = cJ (cy 2) 6 Dd.2.2.2 := by rw [eF228, va_up_ne _ _ (pl_ne hFqm5_226 hFqm15_226 rfl)]; exact hFqm5_226
                  have hFqm6_229 : F228 (qm 6) = cI (cy 1) 8 Sl.1 := by rw [eF228, va_up_ne _ _ (pl_ne hFqm6_226 hFqm15_226 rfl)]; exact hFqm6_226
                  have hFqm7_229 : F228 (qm 7) = cJ (cy 2) 128 Sl.2 := by rw [eF228, va_up_ne _ _ (pl_ne hFqm7_226 hFqm15_226 rfl)]; exact hFqm7_226
                  have hFqm8_229 : F228 (qm 8) = cI (cy 1) 30 Pp.2.1 := by rw [eF228, va_up_ne _ _ (pl_ne hFqm8_226 hFqm15_226 rfl)]; exact hFqm8_226
                  have hFqm9_229 : F228 (qm 9) = cI (cy 3) 30 Pp.2.2 := by rw [eF228, va_up_ne _ _ (pl_ne hFqm9_226 hFqm15_226 rfl)]; exact hFqm9_226
                  have hFqm10_229 : F228 (qm 10) = cI (cy 1) 5 Kr.1 := by rw [eF228, va_up_ne _ _ (pl_ne hFqm10_226 hFqm15_226 rfl)]; exact hFqm10_226
                  have hFqm11_229 : F228 (qm 11) = cI (cy 3) 5 Kr.2.1 := by rw [eF228, va_up_ne _ _ (pl_ne hFqm11_226 hFqm15_226 rfl)]; exact hFqm11_226
                  have hFqm12_229 : F228 (qm 12) = cI (cy 1) 60 Kr.2.2 := by rw [eF228, va_up_ne _ _ (pl_ne hFqm12_226 hFqm15_226 rfl)]; exact hFqm12_226
                  have hFqm13_229 : F228 (qm 13) = cI (cy 1) 4 Bk.1 := by rw [eF228, va_up_ne _ _ (pl_ne hFqm13_226 hFqm15_226 rfl)]; exact hFqm13_226
                  have hFqm14_229 : F228 (qm 14) = cD (cy 0) 4 Bk.2 := by rw [eF228, va_up_ne _ _ (pl_ne hFqm14_226 hFqm15_226 rfl)]; exact hFqm14_226
                  have hFqm15_229 : F228 (qm 15) = cI (cy 1) 6 (upd Xx.2 1 (Xx.2 1 + 1)) := by rw [eF228]; exact va_up_self _ _ _
                  have hr229 := hqr229
                  exact W.iret (v := r229) hx hb hr (fun t ht hW => ⟨⟨r229, F228, rfl, (by subst hr229 ev183 ev140 ev134 ev129 ev126; have hc66 := c135; have hc76 := c141; have hc87 := c184; have hsp : sp_copy Sl Xx (nI j_dd) (nI j_ff) bk = (-11, Sl, failX Xx 1) := (by unfold sp_copy; rw [hi_dd, hi_ff]; refine (if_pos ⟨hd4, hf4⟩).trans ((if_neg hbk).trans ?_); unfold cp; rw [if_neg hc66, if_neg (fun q => hc76 (by rw [q]; decide)), if_pos hc87]); rw [hsp]; exact ⟨(by show (-10 - 1 : Int32) = -11; decide), (by exact ⟨⟨_, _, hmo, hFo_229⟩, ⟨hm0, hFqm0_229⟩, ⟨hm1, hFqm1_229⟩, ⟨hm2, hFqm2_229⟩, ⟨hm3, hFqm3_229⟩, ⟨hm4, hFqm4_229⟩, ⟨hm5, hFqm5_229⟩, ⟨hm6, hFqm6_229⟩, ⟨hm7, hFqm7_229⟩, ⟨hm8, hFqm8_229⟩, ⟨hm9, hFqm9_229⟩, ⟨hm10, hFqm10_229⟩, ⟨hm11, hFqm11_229⟩, ⟨hm12, hFqm12_229⟩, ⟨hm13, hFqm13_229⟩, ⟨hm14, hFqm14_229⟩, ⟨hm15, hFqm15_229⟩, hne⟩)⟩), (by show va_P _ _ _ t.heap; rw [ht]; exact hP)⟩, hS.F ht⟩) hS.2.2 dX9_copy_110
        · refine lv_aload_n hx hb dX9_copy_0 rfl (lv_at hl 0 rfl) ?_
          refine lv_iconst (v := 0) hx hb dX9_copy_1 (by decide) ?_
          refine pg_put (ci := 8) (v := .int 0) (ty := .int) (C := RX9) (T := TX9) (N := 20) hx hb hts hinX9 tyX9 tyX9_ok nmX9 hown hK hP hD hS hmo hFo rfl 0 (by decide) (hts (.fieldLink RX9 61 "RopeDrumsModel" "thrown" "I") (by decide +kernel)) (fun _ h9 => h9) rfl (by decide +kernel) (rfl) (rfl) (Nat.le_of_ble_eq_true rfl) dX9_copy_2 (fun H locs F230 eF230 hP hS => ?_)
          have eF230 : F230 = va_up F o (.inr (8, [.int 0, .ref (qm 0), .ref (qm 1), .ref (qm 2), .ref (qm 3), .ref (qm 4), .ref (qm 5), .ref (qm 6), .ref (qm 7), .int Pp.1, .ref (qm 8), .ref (qm 9), .ref (qm 10), .ref (qm 11), .ref (qm 12), .ref (qm 13), .ref (qm 14), .int Xx.1, .ref (qm 15), .long oc])) := eF230
          have hFo_230 : F230 o = .inr (8, [.int 0, .ref (qm 0), .ref (qm 1), .ref (qm 2), .ref (qm 3), .ref (qm 4), .ref (qm 5), .ref (qm 6), .ref (qm 7), .int Pp.1, .ref (qm 8), .ref (qm 9), .ref (qm 10), .ref (qm 11), .ref (qm 12), .ref (qm 13), .ref (qm 14), .int Xx.1, .ref (qm 15), .long oc]) := by rw [eF230]; exact va_up_self _ _ _
          have hFqm0_230 : F230 (qm 0) = cI (cy 1) 10 Mm.1 := by rw [eF230, va_up_ne _ _ (pl_ne hF0 hFo rfl)]; exact hF0
          have hFqm1_230 : F230 (qm 1) = cJ (cy 2) 10 Mm.2 := by rw [eF230, va_up_ne _ _ (pl_ne hF1 hFo rfl)]; exact hF1
          have hFqm2_230 : F230 (qm 2) = cD (cy 0) 6 Dd.1 := by rw [eF230, va_up_ne _ _ (pl_ne hF2 hFo rfl)]; exact hF2
          have hFqm3_230 : F230 (qm 3) = cD (cy 0) 6 Dd.2.1 := by rw [eF230, va_up_ne _ _ (pl_ne hF3 hFo rfl)]; exact hF3
          have hFqm4_230 : F230 (qm 4) = cD (cy 0) 6 Dd.2.2.1 := by rw [eF230, va_up_ne _ _ (pl_ne hF4 hFo rfl)]; exact hF4
          have hFqm5_230 : F230 (qm 5) = cJ (cy 2) 6 Dd.2.2.2 := by rw [eF230, va_up_ne _ _ (pl_ne hF5 hFo rfl)]; exact hF5
          have hFqm6_230 : F230 (qm 6) = cI (cy 1) 8 Sl.1 := by rw [eF230, va_up_ne _ _ (pl_ne hF6 hFo rfl)]; exact hF6
          have hFqm7_230 : F230 (qm 7) = cJ (cy 2) 128 Sl.2 := by rw [eF230, va_up_ne _ _ (pl_ne hF7 hFo rfl)]; exact hF7
          have hFqm8_230 : F230 (qm 8) = cI (cy 1) 30 Pp.2.1 := by rw [eF230, va_up_ne _ _ (pl_ne hF8 hFo rfl)]; exact hF8
          have hFqm9_230 : F230 (qm 9) = cI (cy 3) 30 Pp.2.2 := by rw [eF230, va_up_ne _ _ (pl_ne hF9 hFo rfl)]; exact hF9
          have hFqm10_230 : F230 (qm 10) = cI (cy 1) 5 Kr.1 := by rw [eF230, va_up_ne _ _ (pl_ne hF10 hFo rfl)]; exact hF10
          have hFqm11_230 : F230 (qm 11) = cI (cy 3) 5 Kr.2.1 := by rw [eF230, va_up_ne _ _ (pl_ne hF11 hFo rfl)]; exact hF11
          have hFqm12_230 : F230 (qm 12) = cI (cy 1) 60 Kr.2.2 := by rw [eF230, va_up_ne _ _ (pl_ne hF12 hFo rfl)]; exact hF12
          have hFqm13_230 : F230 (qm 13) = cI (cy 1) 4 Bk.1 := by rw [eF230, va_up_ne _ _ (pl_ne hF13 hFo rfl)]; exact hF13
          have hFqm14_230 : F230 (qm 14) = cD (cy 0) 4 Bk.2 := by rw [eF230, va_up_ne _ _ (pl_ne hF14 hFo rfl)]; exact hF14
          have hFqm15_230 : F230 (qm 15) = cI (cy 1) 6 Xx.2 := by rw [eF230, va_up_ne _ _ (pl_ne hF15 hFo rfl)]; exact hF15
          refine lv_iload_n hx hb dX9_copy_5 rfl (lv_at hl 1 rfl) ?_
          refine lv_i2l hx hb dX9_copy_6 rfl ?_
          refine lv_topl (fun v231 ev231 => ?_)
          refine lv_ldc2 hx hb hown (hts (.constantLong RX9 143 (4)) (by decide +kernel)) dX9_copy_7 ?_
          refine lv_ldc2 hx hb hown (hts (.constantLong RX9 176 (7)) (by decide +kernel)) dX9_copy_10 ?_
          refine vp_callSi (W.runS (As := [.long v231, .long 4, .long 7]) (rest := []) ⟨hx, hb, hml, hown, hts⟩ (c9_in l v231 4 7) (va_cwS 3 hts gX9_copy_X9_in rfl rfl rfl (by decide +kernel) ⟨Nat.le_of_ble_eq_true rfl, Nat.le_of_ble_eq_true rfl⟩) (preS_of okT (trivial)) rfl rfl hl.1 rfl (lv_room (Nat.le_of_ble_eq_true rfl)) dX9_copy_13 ⟨Nat.le_of_ble_eq_true rfl, Nat.le_of_ble_eq_true rfl⟩) (fun r232 hr232 => ?_)
          have hzr232 : r232 = 1 := by rw [hr232, ev231, inq_i (y := 4) (z := 7) (by decide) (by decide)]; exact if_pos (by rw [nI_toInt (by omega)]; omega)
          subst hzr232
          refine lv_if_eq (tgt := 31) hx hb dX9_copy_16 (by decide) (fun c233 => absurd c233 (by decide)) (fun c233 => ?_)
          refine lv_iload_n hx hb dX9_copy_19 rfl (lv_at hl 2 rfl) ?_
          refine lv_i2l hx hb dX9_copy_20 rfl ?_
          refine lv_topl (fun v234 ev234 => ?_)
          refine lv_lconst (v := 0) hx hb dX9_copy_21 (by decide) ?_
          refine lv_ldc2 hx hb hown (hts (.constantLong RX9 123 (3)) (by decide +kernel)) dX9_copy_22 ?_
          refine vp_callSi (W.runS (As := [.long v234, .long 0, .long 3]) (rest := []) ⟨hx, hb, hml, hown, hts⟩ (c9_in l v234 0 3) (va_cwS 3 hts gX9_copy_X9_in rfl rfl rfl (by decide +kernel) ⟨Nat.le_of_ble_eq_true rfl, Nat.le_of_ble_eq_true rfl⟩) (preS_of okT (trivial)) rfl rfl hl.1 rfl (lv_room (Nat.le_of_ble_eq_true rfl)) dX9_copy_25 ⟨Nat.le_of_ble_eq_true rfl, Nat.le_of_ble_eq_true rfl⟩) (fun r235 hr235 => ?_)
          have hzr235 : r235 = 0 := by rw [hr235, ev234, inq_i (y := 0) (z := 3) (by decide) (by decide)]; exact if_neg (by rw [nI_toInt (by omega)]; omega)
          subst hzr235
          refine lv_if_ne (tgt := 35) hx hb dX9_copy_28 (by decide) (fun c236 => absurd (by decide) c236) (fun c236 => ?_)
          refine lv_sipush (v := -1001) hx hb dX9_copy_31 (by decide) ?_
          exact W.iret (v := -1001) hx hb hr (fun t ht hW => ⟨⟨-1001, F230, rfl, (by subst ev234 ev231; have hsp : sp_copy Sl Xx (nI j_dd) (nI j_ff) bk = (-1001, Sl, Xx) := (by unfold sp_copy; rw [hi_dd, hi_ff]; exact if_neg (fun q => hf4 q.2)); rw [hsp]; exact ⟨rfl, (by exact ⟨⟨_, _, hmo, hFo_230⟩, ⟨hm0, hFqm0_230⟩, ⟨hm1, hFqm1_230⟩, ⟨hm2, hFqm2_230⟩, ⟨hm3, hFqm3_230⟩, ⟨hm4, hFqm4_230⟩, ⟨hm5, hFqm5_230⟩, ⟨hm6, hFqm6_230⟩, ⟨hm7, hFqm7_230⟩, ⟨hm8, hFqm8_230⟩, ⟨hm9, hFqm9_230⟩, ⟨hm10, hFqm10_230⟩, ⟨hm11, hFqm11_230⟩, ⟨hm12, hFqm12_230⟩, ⟨hm13, hFqm13_230⟩, ⟨hm14, hFqm14_230⟩, ⟨hm15, hFqm15_230⟩, hne⟩)⟩), (by show va_P _ _ _ t.heap; rw [ht]; exact hP)⟩, hS.F ht⟩) hS.2.2 dX9_copy_34
      · refine lv_aload_n hx hb dX9_copy_0 rfl (lv_at hl 0 rfl) ?_
        refine lv_iconst (v := 0) hx hb dX9_copy_1 (by decide) ?_
        refine pg_put (ci := 8) (v := .int 0) (ty := .int) (C := RX9) (T := TX9) (N := 20) hx hb hts hinX9 tyX9 tyX9_ok nmX9 hown hK hP hD hS hmo hFo rfl 0 (by decide) (hts (.fieldLink RX9 61 "RopeDrumsModel" "thrown" "I") (by decide +kernel)) (fun _ h9 => h9) rfl (by decide +kernel) (rfl) (rfl) (Nat.le_of_ble_eq_true rfl) dX9_copy_2 (fun H locs F237 eF237 hP hS => ?_)
        have eF237 : F237 = va_up F o (.inr (8, [.int 0, .ref (qm 0), .ref (qm 1), .ref (qm 2), .ref (qm 3), .ref (qm 4), .ref (qm 5), .ref (qm 6), .ref (qm 7), .int Pp.1, .ref (qm 8), .ref (qm 9), .ref (qm 10), .ref (qm 11), .ref (qm 12), .ref (qm 13), .ref (qm 14), .int Xx.1, .ref (qm 15), .long oc])) := eF237
        have hFo_237 : F237 o = .inr (8, [.int 0, .ref (qm 0), .ref (qm 1), .ref (qm 2), .ref (qm 3), .ref (qm 4), .ref (qm 5), .ref (qm 6), .ref (qm 7), .int Pp.1, .ref (qm 8), .ref (qm 9), .ref (qm 10), .ref (qm 11), .ref (qm 12), .ref (qm 13), .ref (qm 14), .int Xx.1, .ref (qm 15), .long oc]) := by rw [eF237]; exact va_up_self _ _ _
        have hFqm0_237 : F237 (qm 0) = cI (cy 1) 10 Mm.1 := by rw [eF237, va_up_ne _ _ (pl_ne hF0 hFo rfl)]; exact hF0
        have hFqm1_237 : F237 (qm 1) = cJ (cy 2) 10 Mm.2 := by rw [eF237, va_up_ne _ _ (pl_ne hF1 hFo rfl)]; exact hF1
        have hFqm2_237 : F237 (qm 2) = cD (cy 0) 6 Dd.1 := by rw [eF237, va_up_ne _ _ (pl_ne hF2 hFo rfl)]; exact hF2
        have hFqm3_237 : F237 (qm 3) = cD (cy 0) 6 Dd.2.1 := by rw [eF237, va_up_ne _ _ (pl_ne hF3 hFo rfl)]; exact hF3
        have hFqm4_237 : F237 (qm 4) = cD (cy 0) 6 Dd.2.2.1 := by rw [eF237, va_up_ne _ _ (pl_ne hF4 hFo rfl)]; exact hF4
        have hFqm5_237 : F237 (qm 5) = cJ (cy 2) 6 Dd.2.2.2 := by rw [eF237, va_up_ne _ _ (pl_ne hF5 hFo rfl)]; exact hF5
        have hFqm6_237 : F237 (qm 6) = cI (cy 1) 8 Sl.1 := by rw [eF237, va_up_ne _ _ (pl_ne hF6 hFo rfl)]; exact hF6
        have hFqm7_237 : F237 (qm 7) = cJ (cy 2) 128 Sl.2 := by rw [eF237, va_up_ne _ _ (pl_ne hF7 hFo rfl)]; exact hF7
        have hFqm8_237 : F237 (qm 8) = cI (cy 1) 30 Pp.2.1 := by rw [eF237, va_up_ne _ _ (pl_ne hF8 hFo rfl)]; exact hF8
        have hFqm9_237 : F237 (qm 9) = cI (cy 3) 30 Pp.2.2 := by rw [eF237, va_up_ne _ _ (pl_ne hF9 hFo rfl)]; exact hF9
        have hFqm10_237 : F237 (qm 10) = cI (cy 1) 5 Kr.1 := by rw [eF237, va_up_ne _ _ (pl_ne hF10 hFo rfl)]; exact hF10
        have hFqm11_237 : F237 (qm 11) = cI (cy 3) 5 Kr.2.1 := by rw [eF237, va_up_ne _ _ (pl_ne hF11 hFo rfl)]; exact hF11
        have hFqm12_237 : F237 (qm 12) = cI (cy 1) 60 Kr.2.2 := by rw [eF237, va_up_ne _ _ (pl_ne hF12 hFo rfl)]; exact hF12
        have hFqm13_237 : F237 (qm 13) = cI (cy 1) 4 Bk.1 := by rw [eF237, va_up_ne _ _ (pl_ne hF13 hFo rfl)]; exact hF13
        have hFqm14_237 : F237 (qm 14) = cD (cy 0) 4 Bk.2 := by rw [eF237, va_up_ne _ _ (pl_ne hF14 hFo rfl)]; exact hF14
        have hFqm15_237 : F237 (qm 15) = cI (cy 1) 6 Xx.2 := by rw [eF237, va_up_ne _ _ (pl_ne hF15 hFo rfl)]; exact hF15
        refine lv_iload_n hx hb dX9_copy_5 rfl (lv_at hl 1 rfl) ?_
        refine lv_i2l hx hb dX9_copy_6 rfl ?_
        refine lv_topl (fun v238 ev238 => ?_)
        refine lv_ldc2 hx hb hown (hts (.constantLong RX9 143 (4)) (by decide +kernel)) dX9_copy_7 ?_
        refine lv_ldc2 hx hb hown (hts (.constantLong RX9 176 (7)) (by decide +kernel)) dX9_copy_10 ?_
        refine vp_callSi (W.runS (As := [.long v238, .long 4, .long 7]) (rest := []) ⟨hx, hb, hml, hown, hts⟩ (c9_in l v238 4 7) (va_cwS 3 hts gX9_copy_X9_in rfl rfl rfl (by decide +kernel) ⟨Nat.le_of_ble_eq_true rfl, Nat.le_of_ble_eq_true rfl⟩) (preS_of okT (trivial)) rfl rfl hl.1 rfl (lv_room (Nat.le_of_ble_eq_true rfl)) dX9_copy_13 ⟨Nat.le_of_ble_eq_true rfl, Nat.le_of_ble_eq_true rfl⟩) (fun r239 hr239 => ?_)
        have hzr239 : r239 = 0 := by rw [hr239, ev238, inq_i (y := 4) (z := 7) (by decide) (by decide)]; exact if_neg (by rw [nI_toInt (by omega)]; omega)
        subst hzr239
        refine lv_if_eq (tgt := 31) hx hb dX9_copy_16 (by decide) (fun c240 => ?_) (fun c240 => absurd (by decide) c240)
        refine lv_sipush (v := -1001) hx hb dX9_copy_31 (by decide) ?_
        exact W.iret (v := -1001) hx hb hr (fun t ht hW => ⟨⟨-1001, F237, rfl, (by subst ev238; have hsp : sp_copy Sl Xx (nI j_dd) (nI j_ff) bk = (-1001, Sl, Xx) := (by unfold sp_copy; rw [hi_dd, hi_ff]; exact if_neg (fun q => hd4 q.1)); rw [hsp]; exact ⟨rfl, (by exact ⟨⟨_, _, hmo, hFo_237⟩, ⟨hm0, hFqm0_237⟩, ⟨hm1, hFqm1_237⟩, ⟨hm2, hFqm2_237⟩, ⟨hm3, hFqm3_237⟩, ⟨hm4, hFqm4_237⟩, ⟨hm5, hFqm5_237⟩, ⟨hm6, hFqm6_237⟩, ⟨hm7, hFqm7_237⟩, ⟨hm8, hFqm8_237⟩, ⟨hm9, hFqm9_237⟩, ⟨hm10, hFqm10_237⟩, ⟨hm11, hFqm11_237⟩, ⟨hm12, hFqm12_237⟩, ⟨hm13, hFqm13_237⟩, ⟨hm14, hFqm14_237⟩, ⟨hm15, hFqm15_237⟩, hne⟩)⟩), (by show va_P _ _ _ t.heap; rw [ht]; exact hP)⟩, hS.F ht⟩) hS.2.2 dX9_copy_34
