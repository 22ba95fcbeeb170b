theorem pl1 {z i k : Int32} (h : pl0 z i = 1) : pl0 z k = 1 := by
  unfold pl0 at h ⊢
  by_cases e : z = -1
  · exact if_pos e
  · rw [if_neg e] at h
    split at h <;> cases h
theorem rest_ok {ln : Int32} {x y : Int64} {u v : UInt64} (hx : okR ln x u) (hy : okR ln y v) : (ln = 2 ∧ q_isVoid_4 u v = (if FP.Core.fIsNaN (FP.frem (fl x) (fl y)) = true then 1 else 0) ∧ (FP.Core.fIsNaN (FP.frem (fl x) (fl y)) = false → FP.Core.DFin u ∧ ¬ FP.Core.DZero v ∧ okR ln (FP.frem (fl x) (fl y)).toInt32.toInt64 (FP.drem u v))) ∨ (ln = 3 ∧ q_isVoid_4 u v = (if FP.Core.dIsNaN (FP.drem (db x) (db y)) = true then 1 else 0) ∧ (FP.Core.dIsNaN (FP.drem (db x) (db y)) = false → FP.Core.DFin u ∧ ¬ FP.Core.DZero v ∧ okR ln (FP.drem (db x) (db y)).toInt64 (FP.drem u v))) := by
  rcases hx with ⟨rfl, h1, h2, rfl⟩ | ⟨rfl, h1, rfl⟩
  · rcases hy with ⟨-, k1, k2, rfl⟩ | ⟨q, -⟩
    · left
      refine ⟨rfl, vf4 h2 k2, fun hn => ?_⟩
      obtain ⟨g1, g2⟩ := rem_fin32 h2 k2 hn
      refine ⟨f2d_DFin g1, f2d_nz k2 g2, Or.inl ⟨rfl, fl_sx.1, ?_, ?_⟩⟩
      · rw [fl_sx.2]
        exact (FP.Core.notNaN_iff32 _).mp hn
      · rw [fl_sx.2]
        exact (frem_f2d g1 k2 g2).symm
    · exact absurd q (by decide)
  · rcases hy with ⟨q, -⟩ | ⟨-, k1, rfl⟩
    · exact absurd q (by decide)
    · right
      refine ⟨rfl, void4 h1 k1, fun hn => ?_⟩
      obtain ⟨g1, g2⟩ := rem_fin h1 k1 hn
      refine ⟨g1, g2, Or.inr ⟨rfl, ?_, ?_⟩⟩
      · rw [db_u]
        exact (FP.Core.notNaN_iff _).mp hn
      · rw [db_u]

set_option maxHeartbeats 8000000 in
set_option maxRecDepth 100000 in
theorem m_rest (l : Launch) (G : va_G) (cy : Nat → ClassId) (L : List Nat) (F : Nat → va_E) (ad : Nat → Nat) (sz : Nat) (o : Nat) (qa : Nat → Nat → Nat) (Mm : SM) (Dd : SD) (Sl : SL) (Pp : SP) (Kr : SR) (Bk : SB) (Xx : SX) (hR : Rep cy L o qa Mm Dd Sl Pp Kr Bk Xx F) (lg i k : Int32)  : Met l yX8_rest wsX8_rest ({ frames := 4, cells := 0, slots := 0, locals := 109 }) (va_Pc [.ref o, .int lg, .int i, .int k] (fun U => bQE G cy L F ad sz U U.heap)) (va_Qi (fun (r : Int32) (F' : Nat → va_E) => r = (sp_rest Sl Xx lg i k).1 ∧ Rep cy L o qa Mm Dd (sp_rest Sl Xx lg i k).2.1 Pp Kr Bk (sp_rest Sl Xx lg i k).2.2 F') (fun F' t => va_P G vwCl (va_pl L F') t.heap) (va_A (va_pl L F) sz)) 0 0 (va_A (va_pl L F) sz) := by
  refine Met.ofW (cc := cX8_rest) (maxL := 6) (ret := (some .int)) (by decide) rfl ?_
  intro p e s m args below meth c s₁ B hml hv
  obtain ⟨rfl, ⟨hsz, hP, hK, hD0⟩, hE, hN⟩ := hv
  have hx := B.exec
  have hb := B.bytes
  have hr := B.returns
  have hts := atoms_spec (ws := wsX8_rest) B.pre
  have hown : s.vm.findClass RX8 = some m.cls := findClass_of_methodNamed B.named
  have hlocks := B.notSynchronized
  have hinX8 : ∀ w ∈ wsX80, w ∈ wsX8_rest := by decide +kernel
  have hinX3 : ∀ w ∈ wsX30, w ∈ wsX8_rest := by decide +kernel
  subst hsz
  have hD := hD0.self F s.heap.size
  generalize hAe : va_A (va_pl L F) s.heap.size = A at hD hE ⊢
  have hA : ∀ q : Nat, s.heap.size ≤ q → A q := fun q h => by rw [← hAe]; exact Or.inr h
  have hS : va_S A s.heap s.heap [] := va_S.rf
  obtain ⟨⟨⟨hmo, hFo⟩, ⟨hmf, hFf⟩, hms, hFs⟩, ⟨⟨hm0, hF0⟩, ⟨hm1, hF1⟩, ⟨hm2, hF2⟩, ⟨hm4, hF4⟩, hm5, hF5⟩, hRM, hRD, hRG, hRP, hRR, hRB, hRI⟩ := id hR
  have hl := lv_entry ([.ref o, .int lg, .int i, .int k]) (n := 6) (Nat.le_of_ble_eq_true rfl)
  rw [lg_entry_eq]
  generalize (lg_sl ([.ref o, .int lg, .int i, .int k]) ++ List.replicate (6 - (lg_sl ([.ref o, .int lg, .int i, .int k])).length) Slot.unset).toArray = ls at hl ⊢
  have hl : lv_has ls 6 [(0, .ref o), (1, .int lg), (2, .int i), (3, .int k)] := hl
  rcases ixc 8 lg with hi_lg | ⟨j_lg, hj_lg, hi_lg, ei_lg⟩
  · refine lv_aload_n hx hb dX8_rest_0 rfl (lv_at hl 0 rfl) ?_
    refine lv_iload_n hx hb dX8_rest_1 rfl (lv_at hl 1 rfl) ?_
    refine va_csq (W.runV (As := [.int lg]) (rest := []) ⟨hx, hb, hml, hown, hts⟩ (c_logOf_no l G cy L F o qa Mm Dd Sl Pp Kr Bk Xx hR lg hi_lg) (cwV 1 hts gX8_rest_X8_logOf rfl rfl rfl (by decide +kernel) ⟨Nat.le_of_ble_eq_true rfl, Nat.le_of_ble_eq_true rfl⟩) (preV_of okP (⟨hP, hK, hD.top⟩) (pl_recv hK hP (ci := 7) rfl hmo hFo)) rfl rfl hl.1 rfl (lv_room (Nat.le_of_ble_eq_true rfl)) dX8_rest_2 ⟨Nat.le_of_ble_eq_true rfl, Nat.le_of_ble_eq_true rfl⟩) (fun r1 hr1 => ?_)
    subst hr1
    refine W.eq (g2 := F0 m 5 ls [.null]) rfl ?_
    refine lv_astoreN (lv' := [(4, .null), (0, .ref o), (1, .int lg), (2, .int i), (3, .int k)]) hx hb dX8_rest_5 hl (by decide) rfl (fun ls hl => ?_)
    refine lv_aloadN hx hb dX8_rest_7 (lv_at hl 0 rfl) ?_
    refine lv_ifnonnullN hx hb dX8_rest_9 ?_
    refine lv_sipush (v := -1001) hx hb dX8_rest_12 (by decide) ?_
    exact W.iret (v := -1001) hx hb hr (fun t ht hW => ⟨⟨-1001, F, rfl, (by have hsp : sp_rest Sl Xx lg i k = (-1001, Sl, Xx) := (by unfold sp_rest; rw [hi_lg]); rw [hsp]; exact ⟨rfl, hR⟩), (by show va_P _ _ _ t.heap; rw [ht]; exact hP)⟩, hS.F ht⟩) hS.2.2 dX8_rest_15
  · subst ei_lg
    obtain ⟨hml_lg, hmr_lg, hFl_lg, hsz_lg, f_lg, hFr_lg, hokl_lg⟩ := hRG j_lg hj_lg
    rcases lackc (i := i) (by decide) hsz_lg with ⟨hp_i, hk_i⟩ | ⟨hp_i, hk_i⟩ | ⟨q_i, hq_i, hs_i, hp_i, hk_i, ei_i⟩
    · have hp0_i : ¬ pl0 (Sl.1 j_lg) i = 0 := by rw [hp_i]; decide
      rcases lackc (i := k) (by decide) hsz_lg with ⟨hp_k, hk_k⟩ | ⟨hp_k, hk_k⟩ | ⟨q_k, hq_k, hs_k, hp_k, hk_k, ei_k⟩
      · have hp0_k : ¬ pl0 (Sl.1 j_lg) k = 0 := by rw [hp_k]; decide
        refine lv_aload_n hx hb dX8_rest_0 rfl (lv_at hl 0 rfl) ?_
        refine lv_iload_n hx hb dX8_rest_1 rfl (lv_at hl 1 rfl) ?_
        refine va_csq (W.runV (As := [.int (nI j_lg)]) (rest := []) ⟨hx, hb, hml, hown, hts⟩ (c_logOf l G cy L F o qa Mm Dd Sl Pp Kr Bk Xx hR j_lg hj_lg) (cwV 1 hts gX8_rest_X8_logOf rfl rfl rfl (by decide +kernel) ⟨Nat.le_of_ble_eq_true rfl, Nat.le_of_ble_eq_true rfl⟩) (preV_of okP (⟨hP, hK, hD.top⟩) (pl_recv hK hP (ci := 7) rfl hmo hFo)) rfl rfl hl.1 rfl (lv_room (Nat.le_of_ble_eq_true rfl)) dX8_rest_2 ⟨Nat.le_of_ble_eq_true rfl, Nat.le_of_ble_eq_true rfl⟩) (fun r2 hr2 => ?_)
        subst hr2
        refine W.eq (g2 := F0 m 5 ls [.ref (qa 2 j_lg)]) rfl ?_
        refine lv_astore (lv' := [(4, .ref (qa 2 j_lg)), (0, .ref o), (1, .int (nI j_lg)), (2, .int i), (3, .int k)]) hx hb dX8_rest_5 hl (by decide) rfl (fun ls hl => ?_)
        refine lv_aload hx hb dX8_rest_7 (lv_at hl 0 rfl) ?_
        refine lv_ifnonnull (tgt := 16) hx hb dX8_rest_9 (by decide) ?_
        refine lv_aload hx hb dX8_rest_16 (lv_at hl 0 rfl) ?_
        refine lv_iload_n hx hb dX8_rest_18 rfl (lv_at hl 3 rfl) ?_
        refine vp_callSi (cr_of (va_runU (As := [.int i]) (rest := []) ⟨hx, hb, hml, hown, hts⟩ (c_lackAt_log l G cy L F (qa 2 j_lg) (Sl.1 j_lg) (lw j_lg) (qa 3 j_lg) hml_lg hFl_lg i) (va_cwU 1 hts gX8_rest_X5_lackAt_u213X3 rfl rfl rfl rfl (by decide +kernel) ⟨Nat.le_of_ble_eq_true rfl, Nat.le_of_ble_eq_true rfl⟩) (preV_of okP (⟨hP, hK, hD.top⟩) (pl_recv hK hP (ci := 3) rfl hml_lg hFl_lg)) rfl rfl hl.1 rfl (lv_room (Nat.le_of_ble_eq_true rfl)) dX8_rest_19 ⟨Nat.le_of_ble_eq_true rfl, Nat.le_of_ble_eq_true rfl⟩)) (fun r3 hr3 => ?_)
        rw [hk_i] at hr3
        subst hr3
        refine lv_aload hx hb dX8_rest_22 (lv_at hl 0 rfl) ?_
        refine lv_iload_n hx hb dX8_rest_24 rfl (lv_at hl 4 rfl) ?_
        refine vp_callSi (cr_of (va_runU (As := [.int k]) (rest := [.int 1]) ⟨hx, hb, hml, hown, hts⟩ (c_lackAt_log l G cy L F (qa 2 j_lg) (Sl.1 j_lg) (lw j_lg) (qa 3 j_lg) hml_lg hFl_lg k) (va_cwU 1 hts gX8_rest_X5_lackAt_u213X3 rfl rfl rfl rfl (by decide +kernel) ⟨Nat.le_of_ble_eq_true rfl, Nat.le_of_ble_eq_true rfl⟩) (preV_of okP (⟨hP, hK, hD.top⟩) (pl_recv hK hP (ci := 3) rfl hml_lg hFl_lg)) rfl rfl hl.1 rfl (lv_room (Nat.le_of_ble_eq_true rfl)) dX8_rest_25 ⟨Nat.le_of_ble_eq_true rfl, Nat.le_of_ble_eq_true rfl⟩)) (fun r4 hr4 => ?_)
        rw [hk_k] at hr4
        subst hr4
        refine va_mmax hx hb (by rw [hml]; exact hl.1.symm) hown (hts (.methodLink RX8 117 Lib.Math.max.name) (by decide +kernel)) (hts (.static Lib.Math.max.name) (by decide +kernel)) (hts (.initialized "java/lang/Math") (by decide +kernel)) (hts (.code Lib.Math.max.name Lib.Math.max.code 2 (some .int)) (by decide +kernel)) (Nat.le_of_ble_eq_true rfl) (Nat.le_of_ble_eq_true rfl) (Nat.zero_le _) (Nat.zero_le _) dX8_rest_28 ?_
        refine lv_topi (fun v5 ev5 => ?_)
        have hm : v5 = 1 := by rw [ev5]; decide
        clear ev5
        subst hm
        refine lv_istore (lv' := [(5, .int 1), (4, .ref (qa 2 j_lg)), (0, .ref o), (1, .int (nI j_lg)), (2, .int i), (3, .int k)]) hx hb dX8_rest_31 hl (by decide) rfl (fun ls hl => ?_)
        refine lv_iload hx hb dX8_rest_33 (lv_at hl 0 rfl) ?_
        refine lv_if_eq (tgt := 45) hx hb dX8_rest_35 (by decide) (fun c6 => absurd c6 (by decide)) (fun c6 => ?_)
        refine lv_aload_n hx hb dX8_rest_38 rfl (lv_at hl 2 rfl) ?_
        refine lv_iload hx hb dX8_rest_39 (lv_at hl 0 rfl) ?_
        refine va_calli (va_runV (As := [.int 1]) (rest := []) ⟨hx, hb, hml, hown, hts⟩ (c_fail_1 l G cy L F s.heap.size o qa Mm Dd Sl Pp Kr Bk Xx hR) (cwV 1 hts gX8_rest_X8_fail rfl rfl rfl (by decide +kernel) ⟨Nat.le_of_ble_eq_true rfl, Nat.le_of_ble_eq_true rfl⟩) (preV_of okQ (⟨rfl, hP, hK, hD.top⟩) (pl_recv hK hP (ci := 7) rfl hmo hFo)) rfl rfl hl.1 rfl (lv_room (Nat.le_of_ble_eq_true rfl)) dX8_rest_41 ⟨Nat.le_of_ble_eq_true rfl, Nat.le_of_ble_eq_true rfl⟩) hS (fun q _ h => pl_free hD hS hA q h) (pl_free hD hS hA) (fun r8 F7 t H1 locs ht hvm hw hP1 hz1 hk1 hS => ?_)
        have hP1 : va_P G vwCl (va_pl L F7) t.heap := hP1
        rw [ht] at hP1
        have hP := hP1
        generalize H1 = H at hP hS ⊢
        obtain ⟨hqr8, hR9⟩ := hw
        exact W.iret (v := r8) hx hb hr (fun t ht hW => ⟨⟨r8, F7, rfl, (by have hsp : sp_rest Sl Xx (nI j_lg) i k = (-10 - 1, Sl, failX Xx 1) := (by unfold sp_rest; rw [hi_lg]; exact (if_neg hp0_i).trans (by rw [hp_i]; rfl)); rw [hsp]; exact ⟨hqr8, hR9⟩), (by show va_P _ _ _ t.heap; rw [ht]; exact hP)⟩, hS.F ht⟩) hS.2.2 dX8_rest_44
      · have hp0_k : ¬ pl0 (Sl.1 j_lg) k = 0 := by rw [hp_k]; decide
        refine lv_aload_n hx hb dX8_rest_0 rfl (lv_at hl 0 rfl) ?_
        refine lv_iload_n hx hb dX8_rest_1 rfl (lv_at hl 1 rfl) ?_
        refine va_csq (W.runV (As := [.int (nI j_lg)]) (rest := []) ⟨hx, hb, hml, hown, hts⟩ (c_logOf l G cy L F o qa Mm Dd Sl Pp Kr Bk Xx hR j_lg hj_lg) (cwV 1 hts gX8_rest_X8_logOf rfl rfl rfl (by decide +kernel) ⟨Nat.le_of_ble_eq_true rfl, Nat.le_of_ble_eq_true rfl⟩) (preV_of okP (⟨hP, hK, hD.top⟩) (pl_recv hK hP (ci := 7) rfl hmo hFo)) rfl rfl hl.1 rfl (lv_room (Nat.le_of_ble_eq_true rfl)) dX8_rest_2 ⟨Nat.le_of_ble_eq_true rfl, Nat.le_of_ble_eq_true rfl⟩) (fun r10 hr10 => ?_)
        subst hr10
        refine W.eq (g2 := F0 m 5 ls [.ref (qa 2 j_lg)]) rfl ?_
        refine lv_astore (lv' := [(4, .ref (qa 2 j_lg)), (0, .ref o), (1, .int (nI j_lg)), (2, .int i), (3, .int k)]) hx hb dX8_rest_5 hl (by decide) rfl (fun ls hl => ?_)
        refine lv_aload hx hb dX8_rest_7 (lv_at hl 0 rfl) ?_
        refine lv_ifnonnull (tgt := 16) hx hb dX8_rest_9 (by decide) ?_
        refine lv_aload hx hb dX8_rest_16 (lv_at hl 0 rfl) ?_
        refine lv_iload_n hx hb dX8_rest_18 rfl (lv_at hl 3 rfl) ?_
        refine vp_callSi (cr_of (va_runU (As := [.int i]) (rest := []) ⟨hx, hb, hml, hown, hts⟩ (c_lackAt_log l G cy L F (qa 2 j_lg) (Sl.1 j_lg) (lw j_lg) (qa 3 j_lg) hml_lg hFl_lg i) (va_cwU 1 hts gX8_rest_X5_lackAt_u213X3 rfl rfl rfl rfl (by decide +kernel) ⟨Nat.le_of_ble_eq_true rfl, Nat.le_of_ble_eq_true rfl⟩) (preV_of okP (⟨hP, hK, hD.top⟩) (pl_recv hK hP (ci := 3) rfl hml_lg hFl_lg)) rfl rfl hl.1 rfl (lv_room (Nat.le_of_ble_eq_true rfl)) dX8_rest_19 ⟨Nat.le_of_ble_eq_true rfl, Nat.le_of_ble_eq_true rfl⟩)) (fun r11 hr11 => ?_)
        rw [hk_i] at hr11
        subst hr11
        refine lv_aload hx hb dX8_rest_22 (lv_at hl 0 rfl) ?_
        refine lv_iload_n hx hb dX8_rest_24 rfl (lv_at hl 4 rfl) ?_
        refine vp_callSi (cr_of (va_runU (As := [.int k]) (rest := [.int 1]) ⟨hx, hb, hml, hown, hts⟩ (c_lackAt_log l G cy L F (qa 2 j_lg) (Sl.1 j_lg) (lw j_lg) (qa 3 j_lg) hml_lg hFl_lg k) (va_cwU 1 hts gX8_rest_X5_lackAt_u213X3 rfl rfl rfl rfl (by decide +kernel) ⟨Nat.le_of_ble_eq_true rfl, Nat.le_of_ble_eq_true rfl⟩) (preV_of okP (⟨hP, hK, hD.top⟩) (pl_recv hK hP (ci := 3) rfl hml_lg hFl_lg)) rfl rfl hl.1 rfl (lv_room (Nat.le_of_ble_eq_true rfl)) dX8_rest_25 ⟨Nat.le_of_ble_eq_true rfl, Nat.le_of_ble_eq_true rfl⟩)) (fun r12 hr12 => ?_)
        rw [hk_k] at hr12
        subst hr12
        refine va_mmax hx hb (by rw [hml]; exact hl.1.symm) hown (hts (.methodLink RX8 117 Lib.Math.max.name) (by decide +kernel)) (hts (.static Lib.Math.max.name) (by decide +kernel)) (hts (.initialized "java/lang/Math") (by decide +kernel)) (hts (.code Lib.Math.max.name Lib.Math.max.code 2 (some .int)) (by decide +kernel)) (Nat.le_of_ble_eq_true rfl) (Nat.le_of_ble_eq_true rfl) (Nat.zero_le _) (Nat.zero_le _) dX8_rest_28 ?_
        refine lv_topi (fun v13 ev13 => ?_)
        exact absurd (pl1 (k := k) hp_i) (by rw [hp_k]; decide)
      · subst ei_k
        refine lv_aload_n hx hb dX8_rest_0 rfl (lv_at hl 0 rfl) ?_
        refine lv_iload_n hx hb dX8_rest_1 rfl (lv_at hl 1 rfl) ?_
        refine va_csq (W.runV (As := [.int (nI j_lg)]) (rest := []) ⟨hx, hb, hml, hown, hts⟩ (c_logOf l G cy L F o qa Mm Dd Sl Pp Kr Bk Xx hR j_lg hj_lg) (cwV 1 hts gX8_rest_X8_logOf rfl rfl rfl (by decide +kernel) ⟨Nat.le_of_ble_eq_true rfl, Nat.le_of_ble_eq_true rfl⟩) (preV_of okP (⟨hP, hK, hD.top⟩) (pl_recv hK hP (ci := 7) rfl hmo hFo)) rfl rfl hl.1 rfl (lv_room (Nat.le_of_ble_eq_true rfl)) dX8_rest_2 ⟨Nat.le_of_ble_eq_true rfl, Nat.le_of_ble_eq_true rfl⟩) (fun r14 hr14 => ?_)
        subst hr14
        refine W.eq (g2 := F0 m 5 ls [.ref (qa 2 j_lg)]) rfl ?_
        refine lv_astore (lv' := [(4, .ref (qa 2 j_lg)), (0, .ref o), (1, .int (nI j_lg)), (2, .int i), (3, .int (nI q_k))]) hx hb dX8_rest_5 hl (by decide) rfl (fun ls hl => ?_)
        refine lv_aload hx hb dX8_rest_7 (lv_at hl 0 rfl) ?_
        refine lv_ifnonnull (tgt := 16) hx hb dX8_rest_9 (by decide) ?_
        refine lv_aload hx hb dX8_rest_16 (lv_at hl 0 rfl) ?_
        refine lv_iload_n hx hb dX8_rest_18 rfl (lv_at hl 3 rfl) ?_
        refine vp_callSi (cr_of (va_runU (As := [.int i]) (rest := []) ⟨hx, hb, hml, hown, hts⟩ (c_lackAt_log l G cy L F (qa 2 j_lg) (Sl.1 j_lg) (lw j_lg) (qa 3 j_lg) hml_lg hFl_lg i) (va_cwU 1 hts gX8_rest_X5_lackAt_u213X3 rfl rfl rfl rfl (by decide +kernel) ⟨Nat.le_of_ble_eq_true rfl, Nat.le_of_ble_eq_true rfl⟩) (preV_of okP (⟨hP, hK, hD.top⟩) (pl_recv hK hP (ci := 3) rfl hml_lg hFl_lg)) rfl rfl hl.1 rfl (lv_room (Nat.le_of_ble_eq_true rfl)) dX8_rest_19 ⟨Nat.le_of_ble_eq_true rfl, Nat.le_of_ble_eq_true rfl⟩)) (fun r15 hr15 => ?_)
        rw [hk_i] at hr15
        subst hr15
        refine lv_aload hx hb dX8_rest_22 (lv_at hl 0 rfl) ?_
        refine lv_iload_n hx hb dX8_rest_24 rfl (lv_at hl 4 rfl) ?_
        refine vp_callSi (cr_of (va_runU (As := [.int (nI q_k)]) (rest := [.int 1]) ⟨hx, hb, hml, hown, hts⟩ (c_lackAt_log l G cy L F (qa 2 j_lg) (Sl.1 j_lg) (lw j_lg) (qa 3 j_lg) hml_lg hFl_lg (nI q_k)) (va_cwU 1 hts gX8_rest_X5_lackAt_u213X3 rfl rfl rfl rfl (by decide +kernel) ⟨Nat.le_of_ble_eq_true rfl, Nat.le_of_ble_eq_true rfl⟩) (preV_of okP (⟨hP, hK, hD.top⟩) (pl_recv hK hP (ci := 3) rfl hml_lg hFl_lg)) rfl rfl hl.1 rfl (lv_room (Nat.le_of_ble_eq_true rfl)) dX8_rest_25 ⟨Nat.le_of_ble_eq_true rfl, Nat.le_of_ble_eq_true rfl⟩)) (fun r16 hr16 => ?_)
        rw [hk_k] at hr16
        subst hr16
        refine va_mmax hx hb (by rw [hml]; exact hl.1.symm) hown (hts (.methodLink RX8 117 Lib.Math.max.name) (by decide +kernel)) (hts (.static Lib.Math.max.name) (by decide +kernel)) (hts (.initialized "java/lang/Math") (by decide +kernel)) (hts (.code Lib.Math.max.name Lib.Math.max.code 2 (some .int)) (by decide +kernel)) (Nat.le_of_ble_eq_true rfl) (Nat.le_of_ble_eq_true rfl) (Nat.zero_le _) (Nat.zero_le _) dX8_rest_28 ?_
        refine lv_topi (fun v17 ev17 => ?_)
        exact absurd (pl1 (k := (nI q_k)) hp_i) (by rw [hp_k]; decide)
    · have hp0_i : ¬ pl0 (Sl.1 j_lg) i = 0 := by rw [hp_i]; decide
      rcases lackc (i := k) (by decide) hsz_lg with ⟨hp_k, hk_k⟩ | ⟨hp_k, hk_k⟩ | ⟨q_k, hq_k, hs_k, hp_k, hk_k, ei_k⟩
      · have hp0_k : ¬ pl0 (Sl.1 j_lg) k = 0 := by rw [hp_k]; decide
        refine lv_aload_n hx hb dX8_rest_0 rfl (lv_at hl 0 rfl) ?_
        refine lv_iload_n hx hb dX8_rest_1 rfl (lv_at hl 1 rfl) ?_
        refine va_csq (W.runV (As := [.int (nI j_lg)]) (rest := []) ⟨hx, hb, hml, hown, hts⟩ (c_logOf l G cy L F o qa Mm Dd Sl Pp Kr Bk Xx hR j_lg hj_lg) (cwV 1 hts gX8_rest_X8_logOf rfl rfl rfl (by decide +kernel) ⟨Nat.le_of_ble_eq_true rfl, Nat.le_of_ble_eq_true rfl⟩) (preV_of okP (⟨hP, hK, hD.top⟩) (pl_recv hK hP (ci := 7) rfl hmo hFo)) rfl rfl hl.1 rfl (lv_room (Nat.le_of_ble_eq_true rfl)) dX8_rest_2 ⟨Nat.le_of_ble_eq_true rfl, Nat.le_of_ble_eq_true rfl⟩) (fun r18 hr18 => ?_)
        subst hr18
        refine W.eq (g2 := F0 m 5 ls [.ref (qa 2 j_lg)]) rfl ?_
        refine lv_astore (lv' := [(4, .ref (qa 2 j_lg)), (0, .ref o), (1, .int (nI j_lg)), (2, .int i), (3, .int k)]) hx hb dX8_rest_5 hl (by decide) rfl (fun ls hl => ?_)
        refine lv_aload hx hb dX8_rest_7 (lv_at hl 0 rfl) ?_
        refine lv_ifnonnull (tgt := 16) hx hb dX8_rest_9 (by decide) ?_
        refine lv_aload hx hb dX8_rest_16 (lv_at hl 0 rfl) ?_
        refine lv_iload_n hx hb dX8_rest_18 rfl (lv_at hl 3 rfl) ?_
        refine vp_callSi (cr_of (va_runU (As := [.int i]) (rest := []) ⟨hx, hb, hml, hown, hts⟩ (c_lackAt_log l G cy L F (qa 2 j_lg) (Sl.1 j_lg) (lw j_lg) (qa 3 j_lg) hml_lg hFl_lg i) (va_cwU 1 hts gX8_rest_X5_lackAt_u213X3 rfl rfl rfl rfl (by decide +kernel) ⟨Nat.le_of_ble_eq_true rfl, Nat.le_of_ble_eq_true rfl⟩) (preV_of okP (⟨hP, hK, hD.top⟩) (pl_recv hK hP (ci := 3) rfl hml_lg hFl_lg)) rfl rfl hl.1 rfl (lv_room (Nat.le_of_ble_eq_true rfl)) dX8_rest_19 ⟨Nat.le_of_ble_eq_true rfl, Nat.le_of_ble_eq_true rfl⟩)) (fun r19 hr19 => ?_)
        rw [hk_i] at hr19
        subst hr19
        refine lv_aload hx hb dX8_rest_22 (lv_at hl 0 rfl) ?_
        refine lv_iload_n hx hb dX8_rest_24 rfl (lv_at hl 4 rfl) ?_
        refine vp_callSi (cr_of (va_runU (As := [.int k]) (rest := [.int 2]) ⟨hx, hb, hml, hown, hts⟩ (c_lackAt_log l G cy L F (qa 2 j_lg) (Sl.1 j_lg) (lw j_lg) (qa 3 j_lg) hml_lg hFl_lg k) (va_cwU 1 hts gX8_rest_X5_lackAt_u213X3 rfl rfl rfl rfl (by decide +kernel) ⟨Nat.le_of_ble_eq_true rfl, Nat.le_of_ble_eq_true rfl⟩) (preV_of okP (⟨hP, hK, hD.top⟩) (pl_recv hK hP (ci := 3) rfl hml_lg hFl_lg)) rfl rfl hl.1 rfl (lv_room (Nat.le_of_ble_eq_true rfl)) dX8_rest_25 ⟨Nat.le_of_ble_eq_true rfl, Nat.le_of_ble_eq_true rfl⟩)) (fun r20 hr20 => ?_)
        rw [hk_k] at hr20
        subst hr20
        refine va_mmax hx hb (by rw [hml]; exact hl.1.symm) hown (hts (.methodLink RX8 117 Lib.Math.max.name) (by decide +kernel)) (hts (.static Lib.Math.max.name) (by decide +kernel)) (hts (.initialized "java/lang/Math") (by decide +kernel)) (hts (.code Lib.Math.max.name Lib.Math.max.code 2 (some .int)) (by decide +kernel)) (Nat.le_of_ble_eq_true rfl) (Nat.le_of_ble_eq_true rfl) (Nat.zero_le _) (Nat.zero_le _) dX8_rest_28 ?_
        refine lv_topi (fun v21 ev21 => ?_)
        exact absurd (pl1 (k := i) hp_k) (by rw [hp_i]; decide)
      · have hp0_k : ¬ pl0 (Sl.1 j_lg) k = 0 := by rw [hp_k]; decide
        refine lv_aload_n hx hb dX8_rest_0 rfl (lv_at hl 0 rfl) ?_
        refine lv_iload_n hx hb dX8_rest_1 rfl (lv_at hl 1 rfl) ?_
        refine va_csq (W.runV (As := [.int (nI j_lg)]) (rest := []) ⟨hx, hb, hml, hown, hts⟩ (c_logOf l G cy L F o qa Mm Dd Sl Pp Kr Bk Xx hR j_lg hj_lg) (cwV 1 hts gX8_rest_X8_logOf rfl rfl rfl (by decide +kernel) ⟨Nat.le_of_ble_eq_true rfl, Nat.le_of_ble_eq_true rfl⟩) (preV_of okP (⟨hP, hK, hD.top⟩) (pl_recv hK hP (ci := 7) rfl hmo hFo)) rfl rfl hl.1 rfl (lv_room (Nat.le_of_ble_eq_true rfl)) dX8_rest_2 ⟨Nat.le_of_ble_eq_true rfl, Nat.le_of_ble_eq_true rfl⟩) (fun r22 hr22 => ?_)
        subst hr22
        refine W.eq (g2 := F0 m 5 ls [.ref (qa 2 j_lg)]) rfl ?_
        refine lv_astore (lv' := [(4, .ref (qa 2 j_lg)), (0, .ref o), (1, .int (nI j_lg)), (2, .int i), (3, .int k)]) hx hb dX8_rest_5 hl (by decide) rfl (fun ls hl => ?_)
        refine lv_aload hx hb dX8_rest_7 (lv_at hl 0 rfl) ?_
        refine lv_ifnonnull (tgt := 16) hx hb dX8_rest_9 (by decide) ?_
        refine lv_aload hx hb dX8_rest_16 (lv_at hl 0 rfl) ?_
        refine lv_iload_n hx hb dX8_rest_18 rfl (lv_at hl 3 rfl) ?_
        refine vp_callSi (cr_of (va_runU (As := [.int i]) (rest := []) ⟨hx, hb, hml, hown, hts⟩ (c_lackAt_log l G cy L F (qa 2 j_lg) (Sl.1 j_lg) (lw j_lg) (qa 3 j_lg) hml_lg hFl_lg i) (va_cwU 1 hts gX8_rest_X5_lackAt_u213X3 rfl rfl rfl rfl (by decide +kernel) ⟨Nat.le_of_ble_eq_true rfl, Nat.le_of_ble_eq_true rfl⟩) (preV_of okP (⟨hP, hK, hD.top⟩) (pl_recv hK hP (ci := 3) rfl hml_lg hFl_lg)) rfl rfl hl.1 rfl (lv_room (Nat.le_of_ble_eq_true rfl)) dX8_rest_19 ⟨Nat.le_of_ble_eq_true rfl, Nat.le_of_ble_eq_true rfl⟩)) (fun r23 hr23 => ?_)
        rw [hk_i] at hr23
        subst hr23
        refine lv_aload hx hb dX8_rest_22 (lv_at hl 0 rfl) ?_
        refine lv_iload_n hx hb dX8_rest_24 rfl (lv_at hl 4 rfl) ?_
        refine vp_callSi (cr_of (va_runU (As := [.int k]) (rest := [.int 2]) ⟨hx, hb, hml, hown, hts⟩ (c_lackAt_log l G cy L F (qa 2 j_lg) (Sl.1 j_lg) (lw j_lg) (qa 3 j_lg) hml_lg hFl_lg k) (va_cwU 1 hts gX8_rest_X5_lackAt_u213X3 rfl rfl rfl rfl (by decide +kernel) ⟨Nat.le_of_ble_eq_true rfl, Nat.le_of_ble_eq_true rfl⟩) (preV_of okP (⟨hP, hK, hD.top⟩) (pl_recv hK hP (ci := 3) rfl hml_lg hFl_lg)) rfl rfl hl.1 rfl (lv_room (Nat.le_of_ble_eq_true rfl)) dX8_rest_25 ⟨Nat.le_of_ble_eq_true rfl, Nat.le_of_ble_eq_true rfl⟩)) (fun r24 hr24 => ?_)
        rw [hk_k] at hr24
        subst hr24
        refine va_mmax hx hb (by rw [hml]; exact hl.1.symm) hown (hts (.methodLink RX8 117 Lib.Math.max.name) (by decide +kernel)) (hts (.static Lib.Math.max.name) (by decide +kernel)) (hts (.initialized "java/lang/Math") (by decide +kernel)) (hts (.code Lib.Math.max.name Lib.Math.max.code 2 (some .int)) (by decide +kernel)) (Nat.le_of_ble_eq_true rfl) (Nat.le_of_ble_eq_true rfl) (Nat.zero_le _) (Nat.zero_le _) dX8_rest_28 ?_
        refine lv_topi (fun v25 ev25 => ?_)
        have hm : v25 = 2 := by rw [ev25]; decide
        clear ev25
        subst hm
        refine lv_istore (lv' := [(5, .int 2), (4, .ref (qa 2 j_lg)), (0, .ref o), (1, .int (nI j_lg)), (2, .int i), (3, .int k)]) hx hb dX8_rest_31 hl (by decide) rfl (fun ls hl => ?_)
        refine lv_iload hx hb dX8_rest_33 (lv_at hl 0 rfl) ?_
        refine lv_if_eq (tgt := 45) hx hb dX8_rest_35 (by decide) (fun c26 => absurd c26 (by decide)) (fun c26 => ?_)
        refine lv_aload_n hx hb dX8_rest_38 rfl (lv_at hl 2 rfl) ?_
        refine lv_iload hx hb dX8_rest_39 (lv_at hl 0 rfl) ?_
        refine va_calli (va_runV (As := [.int 2]) (rest := []) ⟨hx, hb, hml, hown, hts⟩ (c_fail_2 l G cy L F s.heap.size o qa Mm Dd Sl Pp Kr Bk Xx hR) (cwV 1 hts gX8_rest_X8_fail rfl rfl rfl (by decide +kernel) ⟨Nat.le_of_ble_eq_true rfl, Nat.le_of_ble_eq_true rfl⟩) (preV_of okQ (⟨rfl, hP, hK, hD.top⟩) (pl_recv hK hP (ci := 7) rfl hmo hFo)) rfl rfl hl.1 rfl (lv_room (Nat.le_of_ble_eq_true rfl)) dX8_rest_41 ⟨Nat.le_of_ble_eq_true rfl, Nat.le_of_ble_eq_true rfl⟩) hS (fun q _ h => pl_free hD hS hA q h) (pl_free hD hS hA) (fun r28 F27 t H1 locs ht hvm hw hP1 hz1 hk1 hS => ?_)
        have hP1 : va_P G vwCl (va_pl L F27) t.heap := hP1
        rw [ht] at hP1
        have hP := hP1
        generalize H1 = H at hP hS ⊢
        obtain ⟨hqr28, hR29⟩ := hw
        exact W.iret (v := r28) hx hb hr (fun t ht hW => ⟨⟨r28, F27, rfl, (by have hsp : sp_rest Sl Xx (nI j_lg) i k = (-10 - 2, Sl, failX Xx 2) := (by unfold sp_rest; rw [hi_lg]; exact (if_neg hp0_i).trans (by rw [hp_i]; rfl)); rw [hsp]; exact ⟨hqr28, hR29⟩), (by show va_P _ _ _ t.heap; rw [ht]; exact hP)⟩, hS.F ht⟩) hS.2.2 dX8_rest_44
      · subst ei_k
        refine lv_aload_n hx hb dX8_rest_0 rfl (lv_at hl 0 rfl) ?_
        refine lv_iload_n hx hb dX8_rest_1 rfl (lv_at hl 1 rfl) ?_
        refine va_csq (W.runV (As := [.int (nI j_lg)]) (rest := []) ⟨hx, hb, hml, hown, hts⟩ (c_logOf l G cy L F o qa Mm Dd Sl Pp Kr Bk Xx hR j_lg hj_lg) (cwV 1 hts gX8_rest_X8_logOf rfl rfl rfl (by decide +kernel) ⟨Nat.le_of_ble_eq_true rfl, Nat.le_of_ble_eq_true rfl⟩) (preV_of okP (⟨hP, hK, hD.top⟩) (pl_recv hK hP (ci := 7) rfl hmo hFo)) rfl rfl hl.1 rfl (lv_room (Nat.le_of_ble_eq_true rfl)) dX8_rest_2 ⟨Nat.le_of_ble_eq_true rfl, Nat.le_of_ble_eq_true rfl⟩) (fun r30 hr30 => ?_)
        subst hr30
        refine W.eq (g2 := F0 m 5 ls [.ref (qa 2 j_lg)]) rfl ?_
        refine lv_astore (lv' := [(4, .ref (qa 2 j_lg)), (0, .ref o), (1, .int (nI j_lg)), (2, .int i), (3, .int (nI q_k))]) hx hb dX8_rest_5 hl (by decide) rfl (fun ls hl => ?_)
        refine lv_aload hx hb dX8_rest_7 (lv_at hl 0 rfl) ?_
        refine lv_ifnonnull (tgt := 16) hx hb dX8_rest_9 (by decide) ?_
        refine lv_aload hx hb dX8_rest_16 (lv_at hl 0 rfl) ?_
        refine lv_iload_n hx hb dX8_rest_18 rfl (lv_at hl 3 rfl) ?_
        refine vp_callSi (cr_of (va_runU (As := [.int i]) (rest := []) ⟨hx, hb, hml, hown, hts⟩ (c_lackAt_log l G cy L F (qa 2 j_lg) (Sl.1 j_lg) (lw j_lg) (qa 3 j_lg) hml_lg hFl_lg i) (va_cwU 1 hts gX8_rest_X5_lackAt_u213X3 rfl rfl rfl rfl (by decide +kernel) ⟨Nat.le_of_ble_eq_true rfl, Nat.le_of_ble_eq_true rfl⟩) (preV_of okP (⟨hP, hK, hD.top⟩) (pl_recv hK hP (ci := 3) rfl hml_lg hFl_lg)) rfl rfl hl.1 rfl (lv_room (Nat.le_of_ble_eq_true rfl)) dX8_rest_19 ⟨Nat.le_of_ble_eq_true rfl, Nat.le_of_ble_eq_true rfl⟩)) (fun r31 hr31 => ?_)
        rw [hk_i] at hr31
        subst hr31
        refine lv_aload hx hb dX8_rest_22 (lv_at hl 0 rfl) ?_
        refine lv_iload_n hx hb dX8_rest_24 rfl (lv_at hl 4 rfl) ?_
        refine vp_callSi (cr_of (va_runU (As := [.int (nI q_k)]) (rest := [.int 2]) ⟨hx, hb, hml, hown, hts⟩ (c_lackAt_log l G cy L F (qa 2 j_lg) (Sl.1 j_lg) (lw j_lg) (qa 3 j_lg) hml_lg hFl_lg (nI q_k)) (va_cwU 1 hts gX8_rest_X5_lackAt_u213X3 rfl rfl rfl rfl (by decide +kernel) ⟨Nat.le_of_ble_eq_true rfl, Nat.le_of_ble_eq_true rfl⟩) (preV_of okP (⟨hP, hK, hD.top⟩) (pl_recv hK hP (ci := 3) rfl hml_lg hFl_lg)) rfl rfl hl.1 rfl (lv_room (Nat.le_of_ble_eq_true rfl)) dX8_rest_25 ⟨Nat.le_of_ble_eq_true rfl, Nat.le_of_ble_eq_true rfl⟩)) (fun r32 hr32 => ?_)
        rw [hk_k] at hr32
        subst hr32
        refine va_mmax hx hb (by rw [hml]; exact hl.1.symm) hown (hts (.methodLink RX8 117 Lib.Math.max.name) (by decide +kernel)) (hts (.static Lib.Math.max.name) (by decide +kernel)) (hts (.initialized "java/lang/Math") (by decide +kernel)) (hts (.code Lib.Math.max.name Lib.Math.max.code 2 (some .int)) (by decide +kernel)) (Nat.le_of_ble_eq_true rfl) (Nat.le_of_ble_eq_true rfl) (Nat.zero_le _) (Nat.zero_le _) dX8_rest_28 ?_
        refine lv_topi (fun v33 ev33 => ?_)
        have hm : v33 = 2 := by rw [ev33]; decide
        clear ev33
        subst hm
        refine lv_istore (lv' := [(5, .int 2), (4, .ref (qa 2 j_lg)), (0, .ref o), (1, .int (nI j_lg)), (2, .int i), (3, .int (nI q_k))]) hx hb dX8_rest_31 hl (by decide) rfl (fun ls hl => ?_)
        refine lv_iload hx hb dX8_rest_33 (lv_at hl 0 rfl) ?_
        refine lv_if_eq (tgt := 45) hx hb dX8_rest_35 (by decide) (fun c34 => absurd c34 (by decide)) (fun c34 => ?_)
        refine lv_aload_n hx hb dX8_rest_38 rfl (lv_at hl 2 rfl) ?_
        refine lv_iload hx hb dX8_rest_39 (lv_at hl 0 rfl) ?_
        refine va_calli (va_runV (As := [.int 2]) (rest := []) ⟨hx, hb, hml, hown, hts⟩ (c_fail_2 l G cy L F s.heap.size o qa Mm Dd Sl Pp Kr Bk Xx hR) (cwV 1 hts gX8_rest_X8_fail rfl rfl rfl (by decide +kernel) ⟨Nat.le_of_ble_eq_true rfl, Nat.le_of_ble_eq_true rfl⟩) (preV_of okQ (⟨rfl, hP, hK, hD.top⟩) (pl_recv hK hP (ci := 7) rfl hmo hFo)) rfl rfl hl.1 rfl (lv_room (Nat.le_of_ble_eq_true rfl)) dX8_rest_41 ⟨Nat.le_of_ble_eq_true rfl, Nat.le_of_ble_eq_true rfl⟩) hS (fun q _ h => pl_free hD hS hA q h) (pl_free hD hS hA) (fun r36 F35 t H1 locs ht hvm hw hP1 hz1 hk1 hS => ?_)
        have hP1 : va_P G vwCl (va_pl L F35) t.heap := hP1
        rw [ht] at hP1
        have hP := hP1
        generalize H1 = H at hP hS ⊢
        obtain ⟨hqr36, hR37⟩ := hw
        exact W.iret (v := r36) hx hb hr (fun t ht hW => ⟨⟨r36, F35, rfl, (by have hsp : sp_rest Sl Xx (nI j_lg) i (nI q_k) = (-10 - 2, Sl, failX Xx 2) := (by unfold sp_rest; rw [hi_lg]; exact (if_neg hp0_i).trans (by rw [hp_i]; rfl)); rw [hsp]; exact ⟨hqr36, hR37⟩), (by show va_P _ _ _ t.heap; rw [ht]; exact hP)⟩, hS.F ht⟩) hS.2.2 dX8_rest_44
    · subst ei_i
      rcases lackc (i := k) (by decide) hsz_lg with ⟨hp_k, hk_k⟩ | ⟨hp_k, hk_k⟩ | ⟨q_k, hq_k, hs_k, hp_k, hk_k, ei_k⟩
      · have hp0_k : ¬ pl0 (Sl.1 j_lg) k = 0 := by rw [hp_k]; decide
        refine lv_aload_n hx hb dX8_rest_0 rfl (lv_at hl 0 rfl) ?_
        refine lv_iload_n hx hb dX8_rest_1 rfl (lv_at hl 1 rfl) ?_
        refine va_csq (W.runV (As := [.int (nI j_lg)]) (rest := []) ⟨hx, hb, hml, hown, hts⟩ (c_logOf l G cy L F o qa Mm Dd Sl Pp Kr Bk Xx hR j_lg hj_lg) (cwV 1 hts gX8_rest_X8_logOf rfl rfl rfl (by decide +kernel) ⟨Nat.le_of_ble_eq_true rfl, Nat.le_of_ble_eq_true rfl⟩) (preV_of okP (⟨hP, hK, hD.top⟩) (pl_recv hK hP (ci := 7) rfl hmo hFo)) rfl rfl hl.1 rfl (lv_room (Nat.le_of_ble_eq_true rfl)) dX8_rest_2 ⟨Nat.le_of_ble_eq_true rfl, Nat.le_of_ble_eq_true rfl⟩) (fun r38 hr38 => ?_)
        subst hr38
        refine W.eq (g2 := F0 m 5 ls [.ref (qa 2 j_lg)]) rfl ?_
        refine lv_astore (lv' := [(4, .ref (qa 2 j_lg)), (0, .ref o), (1, .int (nI j_lg)), (2, .int (nI q_i)), (3, .int k)]) hx hb dX8_rest_5 hl (by decide) rfl (fun ls hl => ?_)
        refine lv_aload hx hb dX8_rest_7 (lv_at hl 0 rfl) ?_
        refine lv_ifnonnull (tgt := 16) hx hb dX8_rest_9 (by decide) ?_
        refine lv_aload hx hb dX8_rest_16 (lv_at hl 0 rfl) ?_
        refine lv_iload_n hx hb dX8_rest_18 rfl (lv_at hl 3 rfl) ?_
        refine vp_callSi (cr_of (va_runU (As := [.int (nI q_i)]) (rest := []) ⟨hx, hb, hml, hown, hts⟩ (c_lackAt_log l G cy L F (qa 2 j_lg) (Sl.1 j_lg) (lw j_lg) (qa 3 j_lg) hml_lg hFl_lg (nI q_i)) (va_cwU 1 hts gX8_rest_X5_lackAt_u213X3 rfl rfl rfl rfl (by decide +kernel) ⟨Nat.le_of_ble_eq_true rfl, Nat.le_of_ble_eq_true rfl⟩) (preV_of okP (⟨hP, hK, hD.top⟩) (pl_recv hK hP (ci := 3) rfl hml_lg hFl_lg)) rfl rfl hl.1 rfl (lv_room (Nat.le_of_ble_eq_true rfl)) dX8_rest_19 ⟨Nat.le_of_ble_eq_true rfl, Nat.le_of_ble_eq_true rfl⟩)) (fun r39 hr39 => ?_)
        rw [hk_i] at hr39
        subst hr39
        refine lv_aload hx hb dX8_rest_22 (lv_at hl 0 rfl) ?_
        refine lv_iload_n hx hb dX8_rest_24 rfl (lv_at hl 4 rfl) ?_
        refine vp_callSi (cr_of (va_runU (As := [.int k]) (rest := [.int 0]) ⟨hx, hb, hml, hown, hts⟩ (c_lackAt_log l G cy L F (qa 2 j_lg) (Sl.1 j_lg) (lw j_lg) (qa 3 j_lg) hml_lg hFl_lg k) (va_cwU 1 hts gX8_rest_X5_lackAt_u213X3 rfl rfl rfl rfl (by decide +kernel) ⟨Nat.le_of_ble_eq_true rfl, Nat.le_of_ble_eq_true rfl⟩) (preV_of okP (⟨hP, hK, hD.top⟩) (pl_recv hK hP (ci := 3) rfl hml_lg hFl_lg)) rfl rfl hl.1 rfl (lv_room (Nat.le_of_ble_eq_true rfl)) dX8_rest_25 ⟨Nat.le_of_ble_eq_true rfl, Nat.le_of_ble_eq_true rfl⟩)) (fun r40 hr40 => ?_)
        rw [hk_k] at hr40
        subst hr40
        refine va_mmax hx hb (by rw [hml]; exact hl.1.symm) hown (hts (.methodLink RX8 117 Lib.Math.max.name) (by decide +kernel)) (hts (.static Lib.Math.max.name) (by decide +kernel)) (hts (.initialized "java/lang/Math") (by decide +kernel)) (hts (.code Lib.Math.max.name Lib.Math.max.code 2 (some .int)) (by decide +kernel)) (Nat.le_of_ble_eq_true rfl) (Nat.le_of_ble_eq_true rfl) (Nat.zero_le _) (Nat.zero_le _) dX8_rest_28 ?_
        refine lv_topi (fun v41 ev41 => ?_)
        exact absurd (pl1 (k := (nI q_i)) hp_k) (by rw [hp_i]; decide)
      · have hp0_k : ¬ pl0 (Sl.1 j_lg) k = 0 := by rw [hp_k]; decide
        refine lv_aload_n hx hb dX8_rest_0 rfl (lv_at hl 0 rfl) ?_
        refine lv_iload_n hx hb dX8_rest_1 rfl (lv_at hl 1 rfl) ?_
        refine va_csq (W.runV (As := [.int (nI j_lg)]) (rest := []) ⟨hx, hb, hml, hown, hts⟩ (c_logOf l G cy L F o qa Mm Dd Sl Pp Kr Bk Xx hR j_lg hj_lg) (cwV 1 hts gX8_rest_X8_logOf rfl rfl rfl (by decide +kernel) ⟨Nat.le_of_ble_eq_true rfl, Nat.le_of_ble_eq_true rfl⟩) (preV_of okP (⟨hP, hK, hD.top⟩) (pl_recv hK hP (ci := 7) rfl hmo hFo)) rfl rfl hl.1 rfl (lv_room (Nat.le_of_ble_eq_true rfl)) dX8_rest_2 ⟨Nat.le_of_ble_eq_true rfl, Nat.le_of_ble_eq_true rfl⟩) (fun r42 hr42 => ?_)
        subst hr42
        refine W.eq (g2 := F0 m 5 ls [.ref (qa 2 j_lg)]) rfl ?_
        refine lv_astore (lv' := [(4, .ref (qa 2 j_lg)), (0, .ref o), (1, .int (nI j_lg)), (2, .int (nI q_i)), (3, .int k)]) hx hb dX8_rest_5 hl (by decide) rfl (fun ls hl => ?_)
        refine lv_aload hx hb dX8_rest_7 (lv_at hl 0 rfl) ?_
        refine lv_ifnonnull (tgt := 16) hx hb dX8_rest_9 (by decide) ?_
        refine lv_aload hx hb dX8_rest_16 (lv_at hl 0 rfl) ?_
        refine lv_iload_n hx hb dX8_rest_18 rfl (lv_at hl 3 rfl) ?_
        refine vp_callSi (cr_of (va_runU (As := [.int (nI q_i)]) (rest := []) ⟨hx, hb, hml, hown, hts⟩ (c_lackAt_log l G cy L F (qa 2 j_lg) (Sl.1 j_lg) (lw j_lg) (qa 3 j_lg) hml_lg hFl_lg (nI q_i)) (va_cwU 1 hts gX8_rest_X5_lackAt_u213X3 rfl rfl rfl rfl (by decide +kernel) ⟨Nat.le_of_ble_eq_true rfl, Nat.le_of_ble_eq_true rfl⟩) (preV_of okP (⟨hP, hK, hD.top⟩) (pl_recv hK hP (ci := 3) rfl hml_lg hFl_lg)) rfl rfl hl.1 rfl (lv_room (Nat.le_of_ble_eq_true rfl)) dX8_rest_19 ⟨Nat.le_of_ble_eq_true rfl, Nat.le_of_ble_eq_true rfl⟩)) (fun r43 hr43 => ?_)
        rw [hk_i] at hr43
        subst hr43
        refine lv_aload hx hb dX8_rest_22 (lv_at hl 0 rfl) ?_
        refine lv_iload_n hx hb dX8_rest_24 rfl (lv_at hl 4 rfl) ?_
        refine vp_callSi (cr_of (va_runU (As := [.int k]) (rest := [.int 0]) ⟨hx, hb, hml, hown, hts⟩ (c_lackAt_log l G cy L F (qa 2 j_lg) (Sl.1 j_lg) (lw j_lg) (qa 3 j_lg) hml_lg hFl_lg k) (va_cwU 1 hts gX8_rest_X5_lackAt_u213X3 rfl rfl rfl rfl (by decide +kernel) ⟨Nat.le_of_ble_eq_true rfl, Nat.le_of_ble_eq_true rfl⟩) (preV_of okP (⟨hP, hK, hD.top⟩) (pl_recv hK hP (ci := 3) rfl hml_lg hFl_lg)) rfl rfl hl.1 rfl (lv_room (Nat.le_of_ble_eq_true rfl)) dX8_rest_25 ⟨Nat.le_of_ble_eq_true rfl, Nat.le_of_ble_eq_true rfl⟩)) (fun r44 hr44 => ?_)
        rw [hk_k] at hr44
        subst hr44
        refine va_mmax hx hb (by rw [hml]; exact hl.1.symm) hown (hts (.methodLink RX8 117 Lib.Math.max.name) (by decide +kernel)) (hts (.static Lib.Math.max.name) (by decide +kernel)) (hts (.initialized "java/lang/Math") (by decide +kernel)) (hts (.code Lib.Math.max.name Lib.Math.max.code 2 (some .int)) (by decide +kernel)) (Nat.le_of_ble_eq_true rfl) (Nat.le_of_ble_eq_true rfl) (Nat.zero_le _) (Nat.zero_le _) dX8_rest_28 ?_
        refine lv_topi (fun v45 ev45 => ?_)
        have hm : v45 = 2 := by rw [ev45]; decide
        clear ev45
        subst hm
        refine lv_istore (lv' := [(5, .int 2), (4, .ref (qa 2 j_lg)), (0, .ref o), (1, .int (nI j_lg)), (2, .int (nI q_i)), (3, .int k)]) hx hb dX8_rest_31 hl (by decide) rfl (fun ls hl => ?_)
        refine lv_iload hx hb dX8_rest_33 (lv_at hl 0 rfl) ?_
        refine lv_if_eq (tgt := 45) hx hb dX8_rest_35 (by decide) (fun c46 => absurd c46 (by decide)) (fun c46 => ?_)
        refine lv_aload_n hx hb dX8_rest_38 rfl (lv_at hl 2 rfl) ?_
        refine lv_iload hx hb dX8_rest_39 (lv_at hl 0 rfl) ?_
        refine va_calli (va_runV (As := [.int 2]) (rest := []) ⟨hx, hb, hml, hown, hts⟩ (c_fail_2 l G cy L F s.heap.size o qa Mm Dd Sl Pp Kr Bk Xx hR) (cwV 1 hts gX8_rest_X8_fail rfl rfl rfl (by decide +kernel) ⟨Nat.le_of_ble_eq_true rfl, Nat.le_of_ble_eq_true rfl⟩) (preV_of okQ (⟨rfl, hP, hK, hD.top⟩) (pl_recv hK hP (ci := 7) rfl hmo hFo)) rfl rfl hl.1 rfl (lv_room (Nat.le_of_ble_eq_true rfl)) dX8_rest_41 ⟨Nat.le_of_ble_eq_true rfl, Nat.le_of_ble_eq_true rfl⟩) hS (fun q _ h => pl_free hD hS hA q h) (pl_free hD hS hA) (fun r48 F47 t H1 locs ht hvm hw hP1 hz1 hk1 hS => ?_)
        have hP1 : va_P G vwCl (va_pl L F47) t.heap := hP1
        rw [ht] at hP1
        have hP := hP1
        generalize H1 = H at hP hS ⊢
        obtain ⟨hqr48, hR49⟩ := hw
        exact W.iret (v := r48) hx hb hr (fun t ht hW => ⟨⟨r48, F47, rfl, (by have hsp : sp_rest Sl Xx (nI j_lg) (nI q_i) k = (-10 - 2, Sl, failX Xx 2) := (by unfold sp_rest; rw [hi_lg]; exact (if_pos hp_i).trans ((if_neg hp0_k).trans (by rw [hp_k]; rfl))); rw [hsp]; exact ⟨hqr48, hR49⟩), (by show va_P _ _ _ t.heap; rw [ht]; exact hP)⟩, hS.F ht⟩) hS.2.2 dX8_rest_44
      · subst ei_k
        refine lv_aload_n hx hb dX8_rest_0 rfl (lv_at hl 0 rfl) ?_
        refine lv_iload_n hx hb dX8_rest_1 rfl (lv_at hl 1 rfl) ?_
        refine va_csq (W.runV (As := [.int (nI j_lg)]) (rest := []) ⟨hx, hb, hml, hown, hts⟩ (c_logOf l G cy L F o qa Mm Dd Sl Pp Kr Bk Xx hR j_lg hj_lg) (cwV 1 hts gX8_rest_X8_logOf rfl rfl rfl (by decide +kernel) ⟨Nat.le_of_ble_eq_true rfl, Nat.le_of_ble_eq_true rfl⟩) (preV_of okP (⟨hP, hK, hD.top⟩) (pl_recv hK hP (ci := 7) rfl hmo hFo)) rfl rfl hl.1 rfl (lv_room (Nat.le_of_ble_eq_true rfl)) dX8_rest_2 ⟨Nat.le_of_ble_eq_true rfl, Nat.le_of_ble_eq_true rfl⟩) (fun r50 hr50 => ?_)
        subst hr50
        refine W.eq (g2 := F0 m 5 ls [.ref (qa 2 j_lg)]) rfl ?_
        refine lv_astore (lv' := [(4, .ref (qa 2 j_lg)), (0, .ref o), (1, .int (nI j_lg)), (2, .int (nI q_i)), (3, .int (nI q_k))]) hx hb dX8_rest_5 hl (by decide) rfl (fun ls hl => ?_)
        refine lv_aload hx hb dX8_rest_7 (lv_at hl 0 rfl) ?_
        refine lv_ifnonnull (tgt := 16) hx hb dX8_rest_9 (by decide) ?_
        refine lv_aload hx hb dX8_rest_16 (lv_at hl 0 rfl) ?_
        refine lv_iload_n hx hb dX8_rest_18 rfl (lv_at hl 3 rfl) ?_
        refine vp_callSi (cr_of (va_runU (As := [.int (nI q_i)]) (rest := []) ⟨hx, hb, hml, hown, hts⟩ (c_lackAt_log l G cy L F (qa 2 j_lg) (Sl.1 j_lg) (lw j_lg) (qa 3 j_lg) hml_lg hFl_lg (nI q_i)) (va_cwU 1 hts gX8_rest_X5_lackAt_u213X3 rfl rfl rfl rfl (by decide +kernel) ⟨Nat.le_of_ble_eq_true rfl, Nat.le_of_ble_eq_true rfl⟩) (preV_of okP (⟨hP, hK, hD.top⟩) (pl_recv hK hP (ci := 3) rfl hml_lg hFl_lg)) rfl rfl hl.1 rfl (lv_room (Nat.le_of_ble_eq_true rfl)) dX8_rest_19 ⟨Nat.le_of_ble_eq_true rfl, Nat.le_of_ble_eq_true rfl⟩)) (fun r51 hr51 => ?_)
        rw [hk_i] at hr51
        subst hr51
        refine lv_aload hx hb dX8_rest_22 (lv_at hl 0 rfl) ?_
        refine lv_iload_n hx hb dX8_rest_24 rfl (lv_at hl 4 rfl) ?_
        refine vp_callSi (cr_of (va_runU (As := [.int (nI q_k)]) (rest := [.int 0]) ⟨hx, hb, hml, hown, hts⟩ (c_lackAt_log l G cy L F (qa 2 j_lg) (Sl.1 j_lg) (lw j_lg) (qa 3 j_lg) hml_lg hFl_lg (nI q_k)) (va_cwU 1 hts gX8_rest_X5_lackAt_u213X3 rfl rfl rfl rfl (by decide +kernel) ⟨Nat.le_of_ble_eq_true rfl, Nat.le_of_ble_eq_true rfl⟩) (preV_of okP (⟨hP, hK, hD.top⟩) (pl_recv hK hP (ci := 3) rfl hml_lg hFl_lg)) rfl rfl hl.1 rfl (lv_room (Nat.le_of_ble_eq_true rfl)) dX8_rest_25 ⟨Nat.le_of_ble_eq_true rfl, Nat.le_of_ble_eq_true rfl⟩)) (fun r52 hr52 => ?_)
        rw [hk_k] at hr52
        subst hr52
        refine va_mmax hx hb (by rw [hml]; exact hl.1.symm) hown (hts (.methodLink RX8 117 Lib.Math.max.name) (by decide +kernel)) (hts (.static Lib.Math.max.name) (by decide +kernel)) (hts (.initialized "java/lang/Math") (by decide +kernel)) (hts (.code Lib.Math.max.name Lib.Math.max.code 2 (some .int)) (by decide +kernel)) (Nat.le_of_ble_eq_true rfl) (Nat.le_of_ble_eq_true rfl) (Nat.zero_le _) (Nat.zero_le _) dX8_rest_28 ?_
        refine lv_topi (fun v53 ev53 => ?_)
        have hm : v53 = 0 := by rw [ev53]; decide
        clear ev53
        subst hm
        refine lv_istore (lv' := [(5, .int 0), (4, .ref (qa 2 j_lg)), (0, .ref o), (1, .int (nI j_lg)), (2, .int (nI q_i)), (3, .int (nI q_k))]) hx hb dX8_rest_31 hl (by decide) rfl (fun ls hl => ?_)
        refine lv_iload hx hb dX8_rest_33 (lv_at hl 0 rfl) ?_
        refine lv_if_eq (tgt := 45) hx hb dX8_rest_35 (by decide) (fun c54 => ?_) (fun c54 => absurd (by decide) c54)
        rcases rest_ok (hokl_lg q_i hs_i) (hokl_lg q_k hs_k) with ⟨hln, hvd, hok2⟩ | ⟨hln, hvd, hok2⟩
        · refine lv_iconst (v := 4) hx hb dX8_rest_45 (by decide) ?_
          refine lv_aload hx hb dX8_rest_46 (lv_at hl 1 rfl) ?_
          refine pg_get (ci := 3) (C := RX3) (T := TX3) (N := 3) hx hb hts hinX3 hown hK hP hml_lg hFl_lg rfl 2 (by decide) (hts (.fieldLink RX8 200 "RopeDrums$Log" "row" "[D") (by decide +kernel)) (fun _ h9 => h9) rfl dX8_rest_48 ?_
          refine lv_iload_n hx hb dX8_rest_51 rfl (lv_at hl 4 rfl) ?_
          refine pg_dald hx hb hK hP 0 hmr_lg hFr_lg rfl (vp_in_nI hq_i (by decide)) dX8_rest_52 ?_
          refine lv_topd (fun v55 ev55 => ?_)
          refine lv_aload hx hb dX8_rest_53 (lv_at hl 1 rfl) ?_
          refine pg_get (ci := 3) (C := RX3) (T := TX3) (N := 3) hx hb hts hinX3 hown hK hP hml_lg hFl_lg rfl 2 (by decide) (hts (.fieldLink RX8 200 "RopeDrums$Log" "row" "[D") (by decide +kernel)) (fun _ h9 => h9) rfl dX8_rest_55 ?_
          refine lv_iload_n hx hb dX8_rest_58 rfl (lv_at hl 5 rfl) ?_
          refine pg_dald hx hb hK hP 0 hmr_lg hFr_lg rfl (vp_in_nI hq_k (by decide)) dX8_rest_59 ?_
          refine lv_topd (fun v56 ev56 => ?_)
          refine vp_callSi (W.runS (As := [.int 4, .double v55, .double v56]) (rest := []) ⟨hx, hb, hml, hown, hts⟩ (c_isVoid_4 l v55 v56) (va_cwS 3 hts gX8_rest_X8_isVoid rfl rfl rfl (by decide +kernel) ⟨Nat.le_of_ble_eq_true rfl, Nat.le_of_ble_eq_true rfl⟩) (preS_of okT (trivial)) rfl rfl hl.1 rfl (lv_room (Nat.le_of_ble_eq_true rfl)) dX8_rest_60 ⟨Nat.le_of_ble_eq_true rfl, Nat.le_of_ble_eq_true rfl⟩) (fun r57 hr57 => ?_)
          rw [ev55, ev56, nI_clamp (n := q_i) (by omega), nI_clamp (n := q_k) (by omega), hvd] at hr57
          refine lv_if_eq (tgt := 72) hx hb dX8_rest_63 (by decide) (fun c58 => ?_) (fun c58 => ?_)
          · have hnan : FP.Core.fIsNaN (FP.frem (fl (Sl.2 (16 * j_lg + q_i))) (fl (Sl.2 (16 * j_lg + q_k)))) = false := by have hc := c58; rw [hr57] at hc; exact Bool.eq_false_iff.mpr (fun q => absurd ((if_pos (t := (1 : Int32)) (e := 0) q).symm.trans hc) (by decide))
            refine lv_aload hx hb dX8_rest_72 (lv_at hl 1 rfl) ?_
            refine pg_get (ci := 3) (C := RX3) (T := TX3) (N := 3) hx hb hts hinX3 hown hK hP hml_lg hFl_lg rfl 2 (by decide) (hts (.fieldLink RX8 200 "RopeDrums$Log" "row" "[D") (by decide +kernel)) (fun _ h9 => h9) rfl dX8_rest_74 ?_
            refine lv_iload_n hx hb dX8_rest_77 rfl (lv_at hl 4 rfl) ?_
            refine lv_aload hx hb dX8_rest_78 (lv_at hl 1 rfl) ?_
            refine pg_get (ci := 3) (C := RX3) (T := TX3) (N := 3) hx hb hts hinX3 hown hK hP hml_lg hFl_lg rfl 2 (by decide) (hts (.fieldLink RX8 200 "RopeDrums$Log" "row" "[D") (by decide +kernel)) (fun _ h9 => h9) rfl dX8_rest_80 ?_
            refine lv_iload_n hx hb dX8_rest_83 rfl (lv_at hl 4 rfl) ?_
            refine pg_dald hx hb hK hP 0 hmr_lg hFr_lg rfl (vp_in_nI hq_i (by decide)) dX8_rest_84 ?_
            refine lv_topd (fun v59 ev59 => ?_)
            refine lv_aload hx hb dX8_rest_85 (lv_at hl 1 rfl) ?_
            refine pg_get (ci := 3) (C := RX3) (T := TX3) (N := 3) hx hb hts hinX3 hown hK hP hml_lg hFl_lg rfl 2 (by decide) (hts (.fieldLink RX8 200 "RopeDrums$Log" "row" "[D") (by decide +kernel)) (fun _ h9 => h9) rfl dX8_rest_87 ?_
            refine lv_iload_n hx hb dX8_rest_90 rfl (lv_at hl 5 rfl) ?_
            refine pg_dald hx hb hK hP 0 hmr_lg hFr_lg rfl (vp_in_nI hq_k (by decide)) dX8_rest_91 ?_
            refine lv_topd (fun v60 ev60 => ?_)
            refine vp_callSd (W.runS (As := [.double v59, .double v60]) (rest := [.int (nI q_i), .ref (qa 3 j_lg)]) ⟨hx, hb, hml, hown, hts⟩ (c_leftOf l ad v59 v60 (by rw [ev59, nI_clamp (n := q_i) (by omega)]; exact (hok2 hnan).1) (by rw [ev60, nI_clamp (n := q_k) (by omega)]; exact (hokl_lg q_k hs_k).ne) (by rw [ev60, nI_clamp (n := q_k) (by omega)]; exact (hok2 hnan).2.1)) (va_cwS 2 hts gX8_rest_X8_leftOf rfl rfl rfl (by decide +kernel) ⟨Nat.le_of_ble_eq_true rfl, Nat.le_of_ble_eq_true rfl⟩) (preS_of okE (pE.low hE hN hS)) rfl rfl hl.1 rfl (lv_room (Nat.le_of_ble_eq_true rfl)) dX8_rest_92 ⟨Nat.le_of_ble_eq_true rfl, Nat.le_of_ble_eq_true rfl⟩) (fun r61 hr61 => ?_)
            refine pg_dast hx hb hK hP hD hS 0 hmr_lg hFr_lg rfl (vp_in_nI hq_i (by decide)) dX8_rest_95 (fun H locs F62 eF62 hP hS => ?_)
            have hFo_62 : F62 o = .inr (7, [.ref (qa 8 0), .ref (qa 8 1), .ref (qa 8 2), .ref (qa 8 3), .ref (qa 8 4), .ref (qa 8 5), .ref (qa 8 6), .int Pp.1, .int Xx.1]) := by rw [eF62, va_up_ne _ _ (pl_ne hFo hFr_lg rfl)]; exact hFo
            have hFqa80_62 : F62 (qa 8 0) = cQ (cy 7) 10 (pR 10 (qa 0)) := by rw [eF62, va_up_ne _ _ (pl_ne hF0 hFr_lg rfl)]; exact hF0
            have hFqa81_62 : F62 (qa 8 1) = cQ (cy 5) 6 (pR 6 (qa 1)) := by rw [eF62, va_up_ne _ _ (pl_ne hF1 hFr_lg rfl)]; exact hF1
            have hFqa82_62 : F62 (qa 8 2) = cQ (cy 6) 8 (pR 8 (qa 2)) := by rw [eF62, va_up_ne _ _ (pl_ne hF2 hFr_lg rfl)]; exact hF2
            have hFqa83_62 : F62 (qa 8 3) = cQ (cy 9) 30 (pR Pp.1.toInt.toNat (qa 7)) := by rw [eF62, va_up_ne _ _ (pl_ne hFs hFr_lg rfl)]; exact hFs
            have hFqa84_62 : F62 (qa 8 4) = cQ (cy 8) 5 (pR 5 (qa 4)) := by rw [eF62, va_up_ne _ _ (pl_ne hF4 hFr_lg rfl)]; exact hF4
            have hFqa85_62 : F62 (qa 8 5) = cQ (cy 4) 4 (pR 4 (qa 6)) := by rw [eF62, va_up_ne _ _ (pl_ne hF5 hFr_lg rfl)]; exact hF5
            have hFqa86_62 : F62 (qa 8 6) = cI (cy 1) 6 Xx.2 := by rw [eF62, va_up_ne _ _ (pl_ne hFf hFr_lg rfl)]; exact hFf
            have hFqa2j_lg_62 : F62 (qa 2 j_lg) = .inr (3, [.int (Sl.1 j_lg), .int (lw j_lg), .ref (qa 3 j_lg)]) := by rw [eF62, va_up_ne _ _ (pl_ne hFl_lg hFr_lg rfl)]; exact hFl_lg
            have hFqa3j_lg_62 : F62 (qa 3 j_lg) = cD (cy 0) 16 (vf_upd f_lg (nI q_i : Int32).toNatClampNeg r61) := by rw [eF62]; exact va_up_self _ _ _
            have hR63 : Rep cy L o qa Mm Dd (Sl.1, vp_updL Sl.2 (16 * j_lg + q_i) (FP.frem (fl (Sl.2 (16 * j_lg + q_i))) (fl (Sl.2 (16 * j_lg + q_k)))).toInt32.toInt64) Pp Kr Bk Xx F62 := by rw [eF62]; exact hR.cellR hj_lg hq_i hFr_lg hokl_lg (by rw [hr61, ev59, ev60, nI_clamp (n := q_i) (by omega), nI_clamp (n := q_k) (by omega)]; exact (hok2 hnan).2.2)
            refine lv_aload_n hx hb dX8_rest_96 rfl (lv_at hl 2 rfl) ?_
            refine lv_iconst (v := 1) hx hb dX8_rest_97 (by decide) ?_
            refine va_calli (va_runV (As := [.int 1]) (rest := []) ⟨hx, hb, hml, hown, hts⟩ (c_succeed l G cy L F62 H.size o qa Mm Dd (Sl.1, vp_updL Sl.2 (16 * j_lg + q_i) (FP.frem (fl (Sl.2 (16 * j_lg + q_i))) (fl (Sl.2 (16 * j_lg + q_k)))).toInt32.toInt64) Pp Kr Bk Xx hR63 1) (cwV 1 hts gX8_rest_X8_succeed rfl rfl rfl (by decide +kernel) ⟨Nat.le_of_ble_eq_true rfl, Nat.le_of_ble_eq_true rfl⟩) (preV_of okQ (⟨rfl, hP, hK, hD.top⟩) (pl_recv hK hP (ci := 7) rfl hmo hFo_62)) rfl rfl hl.1 rfl (lv_room (Nat.le_of_ble_eq_true rfl)) dX8_rest_98 ⟨Nat.le_of_ble_eq_true rfl, Nat.le_of_ble_eq_true rfl⟩) hS (fun q _ h => pl_free hD hS hA q h) (pl_free hD hS hA) (fun r65 F64 t H1 locs ht hvm hw hP1 hz1 hk1 hS => ?_)
            have hP1 : va_P G vwCl (va_pl L F64) t.heap := hP1
            rw [ht] at hP1
            have hP := hP1
            generalize H1 = H at hP hS ⊢
            obtain ⟨hqr65, hR66⟩ := hw
            exact W.iret (v := r65) hx hb hr (fun t ht hW => ⟨⟨r65, F64, rfl, (by have hsp : sp_rest Sl Xx (nI j_lg) (nI q_i) (nI q_k) = (1, (Sl.1, vp_updL Sl.2 (16 * j_lg + q_i) (FP.frem (fl (Sl.2 (16 * j_lg + q_i))) (fl (Sl.2 (16 * j_lg + q_k)))).toInt32.toInt64), goodX Xx) := (by unfold sp_rest; rw [hi_lg]; exact (if_pos hp_i).trans ((if_pos hp_k).trans ((if_pos hln).trans (by rw [nI_tn (q := q_i) (by omega), nI_tn (q := q_k) (by omega)]; exact if_neg (by rw [hnan]; decide))))); rw [hsp]; exact ⟨hqr65, hR66⟩), (by show va_P _ _ _ t.heap; rw [ht]; exact hP)⟩, hS.F ht⟩) hS.2.2 dX8_rest_101
          · have hnan : FP.Core.fIsNaN (FP.frem (fl (Sl.2 (16 * j_lg + q_i))) (fl (Sl.2 (16 * j_lg + q_k)))) = true := Decidable.byContradiction (fun q => c58 (by rw [hr57]; exact if_neg q))
            refine lv_aload_n hx hb dX8_rest_66 rfl (lv_at hl 2 rfl) ?_
            refine lv_iconst (v := 5) hx hb dX8_rest_67 (by decide) ?_
            refine va_calli (va_runV (As := [.int 5]) (rest := []) ⟨hx, hb, hml, hown, hts⟩ (c_fail_5 l G cy L F s.heap.size o qa Mm Dd Sl Pp Kr Bk Xx hR) (cwV 1 hts gX8_rest_X8_fail rfl rfl rfl (by decide +kernel) ⟨Nat.le_of_ble_eq_true rfl, Nat.le_of_ble_eq_true rfl⟩) (preV_of okQ (⟨rfl, hP, hK, hD.top⟩) (pl_recv hK hP (ci := 7) rfl hmo hFo)) rfl rfl hl.1 rfl (lv_room (Nat.le_of_ble_eq_true rfl)) dX8_rest_68 ⟨Nat.le_of_ble_eq_true rfl, Nat.le_of_ble_eq_true rfl⟩) hS (fun q _ h => pl_free hD hS hA q h) (pl_free hD hS hA) (fun r68 F67 t H1 locs ht hvm hw hP1 hz1 hk1 hS => ?_)
            have hP1 : va_P G vwCl (va_pl L F67) t.heap := hP1
            rw [ht] at hP1
            have hP := hP1
            generalize H1 = H at hP hS ⊢
            obtain ⟨hqr68, hR69⟩ := hw
            exact W.iret (v := r68) hx hb hr (fun t ht hW => ⟨⟨r68, F67, rfl, (by have hsp : sp_rest Sl Xx (nI j_lg) (nI q_i) (nI q_k) = (-15, Sl, failX Xx 5) := (by unfold sp_rest; rw [hi_lg]; exact (if_pos hp_i).trans ((if_pos hp_k).trans ((if_pos hln).trans (by rw [nI_tn (q := q_i) (by omega), nI_tn (q := q_k) (by omega)]; exact if_pos hnan)))); rw [hsp]; exact ⟨hqr68, hR69⟩), (by show va_P _ _ _ t.heap; rw [ht]; exact hP)⟩, hS.F ht⟩) hS.2.2 dX8_rest_71
        · refine lv_iconst (v := 4) hx hb dX8_rest_45 (by decide) ?_
          refine lv_aload hx hb dX8_rest_46 (lv_at hl 1 rfl) ?_
          refine pg_get (ci := 3) (C := RX3) (T := TX3) (N := 3) hx hb hts hinX3 hown hK hP hml_lg hFl_lg rfl 2 (by decide) (hts (.fieldLink RX8 200 "RopeDrums$Log" "row" "[D") (by decide +kernel)) (fun _ h9 => h9) rfl dX8_rest_48 ?_
          refine lv_iload_n hx hb dX8_rest_51 rfl (lv_at hl 4 rfl) ?_
          refine pg_dald hx hb hK hP 0 hmr_lg hFr_lg rfl (vp_in_nI hq_i (by decide)) dX8_rest_52 ?_
          refine lv_topd (fun v70 ev70 => ?_)
          refine lv_aload hx hb dX8_rest_53 (lv_at hl 1 rfl) ?_
          refine pg_get (ci := 3) (C := RX3) (T := TX3) (N := 3) hx hb hts hinX3 hown hK hP hml_lg hFl_lg rfl 2 (by decide) (hts (.fieldLink RX8 200 "RopeDrums$Log" "row" "[D") (by decide +kernel)) (fun _ h9 => h9) rfl dX8_rest_55 ?_
          refine lv_iload_n hx hb dX8_rest_58 rfl (lv_at hl 5 rfl) ?_
          refine pg_dald hx hb hK hP 0 hmr_lg hFr_lg rfl (vp_in_nI hq_k (by decide)) dX8_rest_59 ?_
          refine lv_topd (fun v71 ev71 => ?_)
          refine vp_callSi (W.runS (As := [.int 4, .double v70, .double v71]) (rest := []) ⟨hx, hb, hml, hown, hts⟩ (c_isVoid_4 l v70 v71) (va_cwS 3 hts gX8_rest_X8_isVoid rfl rfl rfl (by decide +kernel) ⟨Nat.le_of_ble_eq_true rfl, Nat.le_of_ble_eq_true rfl⟩) (preS_of okT (trivial)) rfl rfl hl.1 rfl (lv_room (Nat.le_of_ble_eq_true rfl)) dX8_rest_60 ⟨Nat.le_of_ble_eq_true rfl, Nat.le_of_ble_eq_true rfl⟩) (fun r72 hr72 => ?_)
          rw [ev70, ev71, nI_clamp (n := q_i) (by omega), nI_clamp (n := q_k) (by omega), hvd] at hr72
          refine lv_if_eq (tgt := 72) hx hb dX8_rest_63 (by decide) (fun c73 => ?_) (fun c73 => ?_)
          · have hnan : FP.Core.dIsNaN (FP.drem (db (Sl.2 (16 * j_lg + q_i))) (db (Sl.2 (16 * j_lg + q_k)))) = false := by have hc := c73; rw [hr72] at hc; exact Bool.eq_false_iff.mpr (fun q => absurd ((if_pos (t := (1 : Int32)) (e := 0) q).symm.trans hc) (by decide))
            refine lv_aload hx hb dX8_rest_72 (lv_at hl 1 rfl) ?_
            refine pg_get (ci := 3) (C := RX3) (T := TX3) (N := 3) hx hb hts hinX3 hown hK hP hml_lg hFl_lg rfl 2 (by decide) (hts (.fieldLink RX8 200 "RopeDrums$Log" "row" "[D") (by decide +kernel)) (fun _ h9 => h9) rfl dX8_rest_74 ?_
            refine lv_iload_n hx hb dX8_rest_77 rfl (lv_at hl 4 rfl) ?_
            refine lv_aload hx hb dX8_rest_78 (lv_at hl 1 rfl) ?_
            refine pg_get (ci := 3) (C := RX3) (T := TX3) (N := 3) hx hb hts hinX3 hown hK hP hml_lg hFl_lg rfl 2 (by decide) (hts (.fieldLink RX8 200 "RopeDrums$Log" "row" "[D") (by decide +kernel)) (fun _ h9 => h9) rfl dX8_rest_80 ?_
            refine lv_iload_n hx hb dX8_rest_83 rfl (lv_at hl 4 rfl) ?_
            refine pg_dald hx hb hK hP 0 hmr_lg hFr_lg rfl (vp_in_nI hq_i (by decide)) dX8_rest_84 ?_
            refine lv_topd (fun v74 ev74 => ?_)
            refine lv_aload hx hb dX8_rest_85 (lv_at hl 1 rfl) ?_
            refine pg_get (ci := 3) (C := RX3) (T := TX3) (N := 3) hx hb hts hinX3 hown hK hP hml_lg hFl_lg rfl 2 (by decide) (hts (.fieldLink RX8 200 "RopeDrums$Log" "row" "[D") (by decide +kernel)) (fun _ h9 => h9) rfl dX8_rest_87 ?_
            refine lv_iload_n hx hb dX8_rest_90 rfl (lv_at hl 5 rfl) ?_
            refine pg_dald hx hb hK hP 0 hmr_lg hFr_lg rfl (vp_in_nI hq_k (by decide)) dX8_rest_91 ?_
            refine lv_topd (fun v75 ev75 => ?_)
            refine vp_callSd (W.runS (As := [.double v74, .double v75]) (rest := [.int (nI q_i), .ref (qa 3 j_lg)]) ⟨hx, hb, hml, hown, hts⟩ (c_leftOf l ad v74 v75 (by rw [ev74, nI_clamp (n := q_i) (by omega)]; exact (hok2 hnan).1) (by rw [ev75, nI_clamp (n := q_k) (by omega)]; exact (hokl_lg q_k hs_k).ne) (by rw [ev75, nI_clamp (n := q_k) (by omega)]; exact (hok2 hnan).2.1)) (va_cwS 2 hts gX8_rest_X8_leftOf rfl rfl rfl (by decide +kernel) ⟨Nat.le_of_ble_eq_true rfl, Nat.le_of_ble_eq_true rfl⟩) (preS_of okE (pE.low hE hN hS)) rfl rfl hl.1 rfl (lv_room (Nat.le_of_ble_eq_true rfl)) dX8_rest_92 ⟨Nat.le_of_ble_eq_true rfl, Nat.le_of_ble_eq_true rfl⟩) (fun r76 hr76 => ?_)
            refine pg_dast hx hb hK hP hD hS 0 hmr_lg hFr_lg rfl (vp_in_nI hq_i (by decide)) dX8_rest_95 (fun H locs F77 eF77 hP hS => ?_)
            have hFo_77 : F77 o = .inr (7, [.ref (qa 8 0), .ref (qa 8 1), .ref (qa 8 2), .ref (qa 8 3), .ref (qa 8 4), .ref (qa 8 5), .ref (qa 8 6), .int Pp.1, .int Xx.1]) := by rw [eF77, va_up_ne _ _ (pl_ne hFo hFr_lg rfl)]; exact hFo
            have hFqa80_77 : F77 (qa 8 0) = cQ (cy 7) 10 (pR 10 (qa 0)) := by rw [eF77, va_up_ne _ _ (pl_ne hF0 hFr_lg rfl)]; exact hF0
            have hFqa81_77 : F77 (qa 8 1) = cQ (cy 5) 6 (pR 6 (qa 1)) := by rw [eF77, va_up_ne _ _ (pl_ne hF1 hFr_lg rfl)]; exact hF1
            have hFqa82_77 : F77 (qa 8 2) = cQ (cy 6) 8 (pR 8 (qa 2)) := by rw [eF77, va_up_ne _ _ (pl_ne hF2 hFr_lg rfl)]; exact hF2
            have hFqa83_77 : F77 (qa 8 3) = cQ (cy 9) 30 (pR Pp.1.toInt.toNat (qa 7)) := by rw [eF77, va_up_ne _ _ (pl_ne hFs hFr_lg rfl)]; exact hFs
            have hFqa84_77 : F77 (qa 8 4) = cQ (cy 8) 5 (pR 5 (qa 4)) := by rw [eF77, va_up_ne _ _ (pl_ne hF4 hFr_lg rfl)]; exact hF4
            have hFqa85_77 : F77 (qa 8 5) = cQ (cy 4) 4 (pR 4 (qa 6)) := by rw [eF77, va_up_ne _ _ (pl_ne hF5 hFr_lg rfl)]; exact hF5
            have hFqa86_77 : F77 (qa 8 6) = cI (cy 1) 6 Xx.2 := by rw [eF77, va_up_ne _ _ (pl_ne hFf hFr_lg rfl)]; exact hFf
            have hFqa2j_lg_77 : F77 (qa 2 j_lg) = .inr (3, [.int (Sl.1 j_lg), .int (lw j_lg), .ref (qa 3 j_lg)]) := by rw [eF77, va_up_ne _ _ (pl_ne hFl_lg hFr_lg rfl)]; exact hFl_lg
            have hFqa3j_lg_77 : F77 (qa 3 j_lg) = cD (cy 0) 16 (vf_upd f_lg (nI q_i : Int32).toNatClampNeg r76) := by rw [eF77]; exact va_up_self _ _ _
            have hR78 : Rep cy L o qa Mm Dd (Sl.1, vp_updL Sl.2 (16 * j_lg + q_i) (FP.drem (db (Sl.2 (16 * j_lg + q_i))) (db (Sl.2 (16 * j_lg + q_k)))).toInt64) Pp Kr Bk Xx F77 := by rw [eF77]; exact hR.cellR hj_lg hq_i hFr_lg hokl_lg (by rw [hr76, ev74, ev75, nI_clamp (n := q_i) (by omega), nI_clamp (n := q_k) (by omega)]; exact (hok2 hnan).2.2)
            refine lv_aload_n hx hb dX8_rest_96 rfl (lv_at hl 2 rfl) ?_
            refine lv_iconst (v := 1) hx hb dX8_rest_97 (by decide) ?_
            refine va_calli (va_runV (As := [.int 1]) (rest := []) ⟨hx, hb, hml, hown, hts⟩ (c_succeed l G cy L F77 H.size o qa Mm Dd (Sl.1, vp_updL Sl.2 (16 * j_lg + q_i) (FP.drem (db (Sl.2 (16 * j_lg + q_i))) (db (Sl.2 (16 * j_lg + q_k)))).toInt64) Pp Kr Bk Xx hR78 1) (cwV 1 hts gX8_rest_X8_succeed rfl rfl rfl (by decide +kernel) ⟨Nat.le_of_ble_eq_true rfl, Nat.le_of_ble_eq_true rfl⟩) (preV_of okQ (⟨rfl, hP, hK, hD.top⟩) (pl_recv hK hP (ci := 7) rfl hmo hFo_77)) rfl rfl hl.1 rfl (lv_room (Nat.le_of_ble_eq_true rfl)) dX8_rest_98 ⟨Nat.le_of_ble_eq_true rfl, Nat.le_of_ble_eq_true rfl⟩) hS (fun q _ h => pl_free hD hS hA q h) (pl_free hD hS hA) (fun r80 F79 t H1 locs ht hvm hw hP1 hz1 hk1 hS => ?_)
            have hP1 : va_P G vwCl (va_pl L F79) t.heap := hP1
            rw [ht] at hP1
            have hP := hP1
            generalize H1 = H at hP hS ⊢
            obtain ⟨hqr80, hR81⟩ := hw
            exact W.iret (v := r80) hx hb hr (fun t ht hW => ⟨⟨r80, F79, rfl, (by have hsp : sp_rest Sl Xx (nI j_lg) (nI q_i) (nI q_k) = (1, (Sl.1, vp_updL Sl.2 (16 * j_lg + q_i) (FP.drem (db (Sl.2 (16 * j_lg + q_i))) (db (Sl.2 (16 * j_lg + q_k)))).toInt64), goodX Xx) := (by unfold sp_rest; rw [hi_lg]; exact (if_pos hp_i).trans ((if_pos hp_k).trans ((if_neg (by rw [hln]; decide)).trans (by rw [nI_tn (q := q_i) (by omega), nI_tn (q := q_k) (by omega)]; exact if_neg (by rw [hnan]; decide))))); rw [hsp]; exact ⟨hqr80, hR81⟩), (by show va_P _ _ _ t.heap; rw [ht]; exact hP)⟩, hS.F ht⟩) hS.2.2 dX8_rest_101
          · have hnan : FP.Core.dIsNaN (FP.drem (db (Sl.2 (16 * j_lg + q_i))) (db (Sl.2 (16 * j_lg + q_k)))) = true := Decidable.byContradiction (fun q => c73 (by rw [hr72]; exact if_neg q))
            refine lv_aload_n hx hb dX8_rest_66 rfl (lv_at hl 2 rfl) ?_
            refine lv_iconst (v := 5) hx hb dX8_rest_67 (by decide) ?_
            refine va_calli (va_runV (As := [.int 5]) (rest := []) ⟨hx, hb, hml, hown, hts⟩ (c_fail_5 l G cy L F s.heap.size o qa Mm Dd Sl Pp Kr Bk Xx hR) (cwV 1 hts gX8_rest_X8_fail rfl rfl rfl (by decide +kernel) ⟨Nat.le_of_ble_eq_true rfl, Nat.le_of_ble_eq_true rfl⟩) (preV_of okQ (⟨rfl, hP, hK, hD.top⟩) (pl_recv hK hP (ci := 7) rfl hmo hFo)) rfl rfl hl.1 rfl (lv_room (Nat.le_of_ble_eq_true rfl)) dX8_rest_68 ⟨Nat.le_of_ble_eq_true rfl, Nat.le_of_ble_eq_true rfl⟩) hS (fun q _ h => pl_free hD hS hA q h) (pl_free hD hS hA) (fun r83 F82 t H1 locs ht hvm hw hP1 hz1 hk1 hS => ?_)
            have hP1 : va_P G vwCl (va_pl L F82) t.heap := hP1
            rw [ht] at hP1
            have hP := hP1
            generalize H1 = H at hP hS ⊢
            obtain ⟨hqr83, hR84⟩ := hw
            exact W.iret (v := r83) hx hb hr (fun t ht hW => ⟨⟨r83, F82, rfl, (by have hsp : sp_rest Sl Xx (nI j_lg) (nI q_i) (nI q_k) = (-15, Sl, failX Xx 5) := (by unfold sp_rest; rw [hi_lg]; exact (if_pos hp_i).trans ((if_pos hp_k).trans ((if_neg (by rw [hln]; decide)).trans (by rw [nI_tn (q := q_i) (by omega), nI_tn (q := q_k) (by omega)]; exact if_pos hnan)))); rw [hsp]; exact ⟨hqr83, hR84⟩), (by show va_P _ _ _ t.heap; rw [ht]; exact hP)⟩, hS.F ht⟩) hS.2.2 dX8_rest_71

set_option maxHeartbeats 8000000 in
set_option maxRecDepth 100000 in
theorem m_whole (l : Launch) (G : va_G) (cy : Nat → ClassId) (L : List Nat) (F : Nat → va_E) (ad : Nat → Nat) (sz : Nat) (o : Nat) (qa : Nat → Nat → Nat) (Mm : SM) (Dd : SD) (Sl : SL) (Pp : SP) (Kr : SR) (Bk : SB) (Xx : SX) (hR : Rep cy L o qa Mm Dd Sl Pp Kr Bk Xx F) (lg i : Int32)  : Met l yX8_whole wsX8_whole ({ frames := 1, cells := 0, slots := 0, locals := 21 }) (va_Pc [.ref o, .int lg, .int i] (fun U => bQE G cy L F ad sz U U.heap)) (va_Ql (fun (r : Int64) (F' : Nat → va_E) => r = (sp_whole Sl Xx lg i).1 ∧ Rep cy L o qa Mm Dd Sl Pp Kr Bk (sp_whole Sl Xx lg i).2 F') (fun F' t => va_P G vwCl (va_pl L F') t.heap) (va_A (va_pl L F) sz)) 0 0 (va_A (va_pl L F) sz) := by
  refine Met.ofW (cc := cX8_whole) (maxL := 5) (ret := (some .long)) (by decide) rfl ?_
  intro p e s m args below meth c s₁ B hml hv
  obtain ⟨rfl, ⟨hsz, hP, hK, hD0⟩, hE, hN⟩ := hv
  have hx := B.exec
  have hb := B.bytes
  have hr := B.returns
  have hts := atoms_spec (ws := wsX8_whole) B.pre
  have hown : s.vm.findClass RX8 = some m.cls := findClass_of_methodNamed B.named
  have hlocks := B.notSynchronized
  have hinX8 : ∀ w ∈ wsX80, w ∈ wsX8_whole := by decide +kernel
  have hinX3 : ∀ w ∈ wsX30, w ∈ wsX8_whole := by decide +kernel
  subst hsz
  have hD := hD0.self F s.heap.size
  generalize hAe : va_A (va_pl L F) s.heap.size = A at hD hE ⊢
  have hA : ∀ q : Nat, s.heap.size ≤ q → A q := fun q h => by rw [← hAe]; exact Or.inr h
  have hS : va_S A s.heap s.heap [] := va_S.rf
  obtain ⟨⟨⟨hmo, hFo⟩, ⟨hmf, hFf⟩, hms, hFs⟩, ⟨⟨hm0, hF0⟩, ⟨hm1, hF1⟩, ⟨hm2, hF2⟩, ⟨hm4, hF4⟩, hm5, hF5⟩, hRM, hRD, hRG, hRP, hRR, hRB, hRI⟩ := id hR
  have hl := lv_entry ([.ref o, .int lg, .int i]) (n := 5) (Nat.le_of_ble_eq_true rfl)
  rw [lg_entry_eq]
  generalize (lg_sl ([.ref o, .int lg, .int i]) ++ List.replicate (5 - (lg_sl ([.ref o, .int lg, .int i])).length) Slot.unset).toArray = ls at hl ⊢
  have hl : lv_has ls 5 [(0, .ref o), (1, .int lg), (2, .int i)] := hl
  rcases ixc 8 lg with hi_lg | ⟨j_lg, hj_lg, hi_lg, ei_lg⟩
  · refine lv_aload_n hx hb dX8_whole_0 rfl (lv_at hl 0 rfl) ?_
    refine lv_iload_n hx hb dX8_whole_1 rfl (lv_at hl 1 rfl) ?_
    refine va_csq (W.runV (As := [.int lg]) (rest := []) ⟨hx, hb, hml, hown, hts⟩ (c_logOf_no l G cy L F o qa Mm Dd Sl Pp Kr Bk Xx hR lg hi_lg) (cwV 1 hts gX8_whole_X8_logOf rfl rfl rfl (by decide +kernel) ⟨Nat.le_of_ble_eq_true rfl, Nat.le_of_ble_eq_true rfl⟩) (preV_of okP (⟨hP, hK, hD.top⟩) (pl_recv hK hP (ci := 7) rfl hmo hFo)) rfl rfl hl.1 rfl (lv_room (Nat.le_of_ble_eq_true rfl)) dX8_whole_2 ⟨Nat.le_of_ble_eq_true rfl, Nat.le_of_ble_eq_true rfl⟩) (fun r1 hr1 => ?_)
    subst hr1
    refine W.eq (g2 := F0 m 5 ls [.null]) rfl ?_
    refine lv_astore_nN (lv' := [(3, .null), (0, .ref o), (1, .int lg), (2, .int i)]) hx hb dX8_whole_5 rfl hl (by decide) rfl (fun ls hl => ?_)
    refine lv_aload_nN hx hb dX8_whole_6 rfl (lv_at hl 0 rfl) ?_
    refine lv_ifnonnullN hx hb dX8_whole_7 ?_
    refine lv_lconst (v := 0) hx hb dX8_whole_10 (by decide) ?_
    exact W.lret (v := 0) hx hb hr (fun t ht hW => ⟨⟨0, F, rfl, (by have hsp : sp_whole Sl Xx lg i = (0, Xx) := (by unfold sp_whole; rw [hi_lg]); rw [hsp]; exact ⟨rfl, hR⟩), (by show va_P _ _ _ t.heap; rw [ht]; exact hP)⟩, hS.F ht⟩) hS.2.2 dX8_whole_11
  · subst ei_lg
    obtain ⟨hml_lg, hmr_lg, hFl_lg, hsz_lg, f_lg, hFr_lg, hokl_lg⟩ := hRG j_lg hj_lg
    rcases lackc (i := i) (by decide) hsz_lg with ⟨hp_i, hk_i⟩ | ⟨hp_i, hk_i⟩ | ⟨q_i, hq_i, hs_i, hp_i, hk_i, ei_i⟩
    · have hp0_i : ¬ pl0 (Sl.1 j_lg) i = 0 := by rw [hp_i]; decide
      refine lv_aload_n hx hb dX8_whole_0 rfl (lv_at hl 0 rfl) ?_
      refine lv_iload_n hx hb dX8_whole_1 rfl (lv_at hl 1 rfl) ?_
      refine va_csq (W.runV (As := [.int (nI j_lg)]) (rest := []) ⟨hx, hb, hml, hown, hts⟩ (c_logOf l G cy L F o qa Mm Dd Sl Pp Kr Bk Xx hR j_lg hj_lg) (cwV 1 hts gX8_whole_X8_logOf rfl rfl rfl (by decide +kernel) ⟨Nat.le_of_ble_eq_true rfl, Nat.le_of_ble_eq_true rfl⟩) (preV_of okP (⟨hP, hK, hD.top⟩) (pl_recv hK hP (ci := 7) rfl hmo hFo)) rfl rfl hl.1 rfl (lv_room (Nat.le_of_ble_eq_true rfl)) dX8_whole_2 ⟨Nat.le_of_ble_eq_true rfl, Nat.le_of_ble_eq_true rfl⟩) (fun r2 hr2 => ?_)
      subst hr2
      refine W.eq (g2 := F0 m 5 ls [.ref (qa 2 j_lg)]) rfl ?_
      refine lv_astore_n (lv' := [(3, .ref (qa 2 j_lg)), (0, .ref o), (1, .int (nI j_lg)), (2, .int i)]) hx hb dX8_whole_5 rfl hl (by decide) rfl (fun ls hl => ?_)
      refine lv_aload_n hx hb dX8_whole_6 rfl (lv_at hl 0 rfl) ?_
      refine lv_ifnonnull (tgt := 12) hx hb dX8_whole_7 (by decide) ?_
      refine lv_aload_n hx hb dX8_whole_12 rfl (lv_at hl 0 rfl) ?_
      refine lv_iload_n hx hb dX8_whole_13 rfl (lv_at hl 3 rfl) ?_
      refine vp_callSi (cr_of (va_runU (As := [.int i]) (rest := []) ⟨hx, hb, hml, hown, hts⟩ (c_lackAt_log l G cy L F (qa 2 j_lg) (Sl.1 j_lg) (lw j_lg) (qa 3 j_lg) hml_lg hFl_lg i) (va_cwU 1 hts gX8_whole_X5_lackAt_u213X3 rfl rfl rfl rfl (by decide +kernel) ⟨Nat.le_of_ble_eq_true rfl, Nat.le_of_ble_eq_true rfl⟩) (preV_of okP (⟨hP, hK, hD.top⟩) (pl_recv hK hP (ci := 3) rfl hml_lg hFl_lg)) rfl rfl hl.1 rfl (lv_room (Nat.le_of_ble_eq_true rfl)) dX8_whole_14 ⟨Nat.le_of_ble_eq_true rfl, Nat.le_of_ble_eq_true rfl⟩)) (fun r3 hr3 => ?_)
      rw [hk_i] at hr3
      subst hr3
      refine lv_istore (lv' := [(4, .int 1), (3, .ref (qa 2 j_lg)), (0, .ref o), (1, .int (nI j_lg)), (2, .int i)]) hx hb dX8_whole_17 hl (by decide) rfl (fun ls hl => ?_)
      refine lv_iload hx hb dX8_whole_19 (lv_at hl 0 rfl) ?_
      refine lv_if_eq (tgt := 33) hx hb dX8_whole_21 (by decide) (fun c4 => absurd c4 (by decide)) (fun c4 => ?_)
      refine lv_aload_n hx hb dX8_whole_24 rfl (lv_at hl 2 rfl) ?_
      refine lv_iload hx hb dX8_whole_25 (lv_at hl 0 rfl) ?_
      refine va_calli (va_runV (As := [.int 1]) (rest := []) ⟨hx, hb, hml, hown, hts⟩ (c_fail_1 l G cy L F s.heap.size o qa Mm Dd Sl Pp Kr Bk Xx hR) (cwV 1 hts gX8_whole_X8_fail rfl rfl rfl (by decide +kernel) ⟨Nat.le_of_ble_eq_true rfl, Nat.le_of_ble_eq_true rfl⟩) (preV_of okQ (⟨rfl, hP, hK, hD.top⟩) (pl_recv hK hP (ci := 7) rfl hmo hFo)) rfl rfl hl.1 rfl (lv_room (Nat.le_of_ble_eq_true rfl)) dX8_whole_27 ⟨Nat.le_of_ble_eq_true rfl, Nat.le_of_ble_eq_true rfl⟩) hS (fun q _ h => pl_free hD hS hA q h) (pl_free hD hS hA) (fun r6 F5 t H1 locs ht hvm hw hP1 hz1 hk1 hS => ?_)
      have hP1 : va_P G vwCl (va_pl L F5) t.heap := hP1
      rw [ht] at hP1
      have hP := hP1
      generalize H1 = H at hP hS ⊢
      obtain ⟨hqr6, hR7⟩ := hw
      refine lv_pop hx hb dX8_whole_30 rfl ?_
      refine lv_lconst (v := 0) hx hb dX8_whole_31 (by decide) ?_
      exact W.lret (v := 0) hx hb hr (fun t ht hW => ⟨⟨0, F5, rfl, (by have hsp : sp_whole Sl Xx (nI j_lg) i = (0, failX Xx 1) := (by unfold sp_whole; rw [hi_lg]; exact (if_neg hp0_i).trans (by rw [hp_i])); rw [hsp]; exact ⟨rfl, hR7⟩), (by show va_P _ _ _ t.heap; rw [ht]; exact hP)⟩, hS.F ht⟩) hS.2.2 dX8_whole_32
    · have hp0_i : ¬ pl0 (Sl.1 j_lg) i = 0 := by rw [hp_i]; decide
      refine lv_aload_n hx hb dX8_whole_0 rfl (lv_at hl 0 rfl) ?_
      refine lv_iload_n hx hb dX8_whole_1 rfl (lv_at hl 1 rfl) ?_
      refine va_csq (W.runV (As := [.int (nI j_lg)]) (rest := []) ⟨hx, hb, hml, hown, hts⟩ (c_logOf l G cy L F o qa Mm Dd Sl Pp Kr Bk Xx hR j_lg hj_lg) (cwV 1 hts gX8_whole_X8_logOf rfl rfl rfl (by decide +kernel) ⟨Nat.le_of_ble_eq_true rfl, Nat.le_of_ble_eq_true rfl⟩) (preV_of okP (⟨hP, hK, hD.top⟩) (pl_recv hK hP (ci := 7) rfl hmo hFo)) rfl rfl hl.1 rfl (lv_room (Nat.le_of_ble_eq_true rfl)) dX8_whole_2 ⟨Nat.le_of_ble_eq_true rfl, Nat.le_of_ble_eq_true rfl⟩) (fun r8 hr8 => ?_)
      subst hr8
      refine W.eq (g2 := F0 m 5 ls [.ref (qa 2 j_lg)]) rfl ?_
      refine lv_astore_n (lv' := [(3, .ref (qa 2 j_lg)), (0, .ref o), (1, .int (nI j_lg)), (2, .int i)]) hx hb dX8_whole_5 rfl hl (by decide) rfl (fun ls hl => ?_)
      refine lv_aload_n hx hb dX8_whole_6 rfl (lv_at hl 0 rfl) ?_
      refine lv_ifnonnull (tgt := 12) hx hb dX8_whole_7 (by decide) ?_
      refine lv_aload_n hx hb dX8_whole_12 rfl (lv_at hl 0 rfl) ?_
      refine lv_iload_n hx hb dX8_whole_13 rfl (lv_at hl 3 rfl) ?_
      refine vp_callSi (cr_of (va_runU (As := [.int i]) (rest := []) ⟨hx, hb, hml, hown, hts⟩ (c_lackAt_log l G cy L F (qa 2 j_lg) (Sl.1 j_lg) (lw j_lg) (qa 3 j_lg) hml_lg hFl_lg i) (va_cwU 1 hts gX8_whole_X5_lackAt_u213X3 rfl rfl rfl rfl (by decide +kernel) ⟨Nat.le_of_ble_eq_true rfl, Nat.le_of_ble_eq_true rfl⟩) (preV_of okP (⟨hP, hK, hD.top⟩) (pl_recv hK hP (ci := 3) rfl hml_lg hFl_lg)) rfl rfl hl.1 rfl (lv_room (Nat.le_of_ble_eq_true rfl)) dX8_whole_14 ⟨Nat.le_of_ble_eq_true rfl, Nat.le_of_ble_eq_true rfl⟩)) (fun r9 hr9 => ?_)
      rw [hk_i] at hr9
      subst hr9
      refine lv_istore (lv' := [(4, .int 2), (3, .ref (qa 2 j_lg)), (0, .ref o), (1, .int (nI j_lg)), (2, .int i)]) hx hb dX8_whole_17 hl (by decide) rfl (fun ls hl => ?_)
      refine lv_iload hx hb dX8_whole_19 (lv_at hl 0 rfl) ?_
      refine lv_if_eq (tgt := 33) hx hb dX8_whole_21 (by decide) (fun c10 => absurd c10 (by decide)) (fun c10 => ?_)
      refine lv_aload_n hx hb dX8_whole_24 rfl (lv_at hl 2 rfl) ?_
      refine lv_iload hx hb dX8_whole_25 (lv_at hl 0 rfl) ?_
      refine va_calli (va_runV (As := [.int 2]) (rest := []) ⟨hx, hb, hml, hown, hts⟩ (c_fail_2 l G cy L F s.heap.size o qa Mm Dd Sl Pp Kr Bk Xx hR) (cwV 1 hts gX8_whole_X8_fail rfl rfl rfl (by decide +kernel) ⟨Nat.le_of_ble_eq_true rfl, Nat.le_of_ble_eq_true rfl⟩) (preV_of okQ (⟨rfl, hP, hK, hD.top⟩) (pl_recv hK hP (ci := 7) rfl hmo hFo)) rfl rfl hl.1 rfl (lv_room (Nat.le_of_ble_eq_true rfl)) dX8_whole_27 ⟨Nat.le_of_ble_eq_true rfl, Nat.le_of_ble_eq_true rfl⟩) hS (fun q _ h => pl_free hD hS hA q h) (pl_free hD hS hA) (fun r12 F11 t H1 locs ht hvm hw hP1 hz1 hk1 hS => ?_)
      have hP1 : va_P G vwCl (va_pl L F11) t.heap := hP1
      rw [ht] at hP1
      have hP := hP1
      generalize H1 = H at hP hS ⊢
      obtain ⟨hqr12, hR13⟩ := hw
      refine lv_pop hx hb dX8_whole_30 rfl ?_
      refine lv_lconst (v := 0) hx hb dX8_whole_31 (by decide) ?_
      exact W.lret (v := 0) hx hb hr (fun t ht hW => ⟨⟨0, F11, rfl, (by have hsp : sp_whole Sl Xx (nI j_lg) i = (0, failX Xx 2) := (by unfold sp_whole; rw [hi_lg]; exact (if_neg hp0_i).trans (by rw [hp_i])); rw [hsp]; exact ⟨rfl, hR13⟩), (by show va_P _ _ _ t.heap; rw [ht]; exact hP)⟩, hS.F ht⟩) hS.2.2 dX8_whole_32
    · subst ei_i
      refine lv_aload_n hx hb dX8_whole_0 rfl (lv_at hl 0 rfl) ?_
      refine lv_iload_n hx hb dX8_whole_1 rfl (lv_at hl 1 rfl) ?_
      refine va_csq (W.runV (As := [.int (nI j_lg)]) (rest := []) ⟨hx, hb, hml, hown, hts⟩ (c_logOf l G cy L F o qa Mm Dd Sl Pp Kr Bk Xx hR j_lg hj_lg) (cwV 1 hts gX8_whole_X8_logOf rfl rfl rfl (by decide +kernel) ⟨Nat.le_of_ble_eq_true rfl, Nat.le_of_ble_eq_true rfl⟩) (preV_of okP (⟨hP, hK, hD.top⟩) (pl_recv hK hP (ci := 7) rfl hmo hFo)) rfl rfl hl.1 rfl (lv_room (Nat.le_of_ble_eq_true rfl)) dX8_whole_2 ⟨Nat.le_of_ble_eq_true rfl, Nat.le_of_ble_eq_true rfl⟩) (fun r14 hr14 => ?_)
      subst hr14
      refine W.eq (g2 := F0 m 5 ls [.ref (qa 2 j_lg)]) rfl ?_
      refine lv_astore_n (lv' := [(3, .ref (qa 2 j_lg)), (0, .ref o), (1, .int (nI j_lg)), (2, .int (nI q_i))]) hx hb dX8_whole_5 rfl hl (by decide) rfl (fun ls hl => ?_)
      refine lv_aload_n hx hb dX8_whole_6 rfl (lv_at hl 0 rfl) ?_
      refine lv_ifnonnull (tgt := 12) hx hb dX8_whole_7 (by decide) ?_
      refine lv_aload_n hx hb dX8_whole_12 rfl (lv_at hl 0 rfl) ?_
      refine lv_iload_n hx hb dX8_whole_13 rfl (lv_at hl 3 rfl) ?_
      refine vp_callSi (cr_of (va_runU (As := [.int (nI q_i)]) (rest := []) ⟨hx, hb, hml, hown, hts⟩ (c_lackAt_log l G cy L F (qa 2 j_lg) (Sl.1 j_lg) (lw j_lg) (qa 3 j_lg) hml_lg hFl_lg (nI q_i)) (va_cwU 1 hts gX8_whole_X5_lackAt_u213X3 rfl rfl rfl rfl (by decide +kernel) ⟨Nat.le_of_ble_eq_true rfl, Nat.le_of_ble_eq_true rfl⟩) (preV_of okP (⟨hP, hK, hD.top⟩) (pl_recv hK hP (ci := 3) rfl hml_lg hFl_lg)) rfl rfl hl.1 rfl (lv_room (Nat.le_of_ble_eq_true rfl)) dX8_whole_14 ⟨Nat.le_of_ble_eq_true rfl, Nat.le_of_ble_eq_true rfl⟩)) (fun r15 hr15 => ?_)
      rw [hk_i] at hr15
      subst hr15
      refine lv_istore (lv' := [(4, .int 0), (3, .ref (qa 2 j_lg)), (0, .ref o), (1, .int (nI j_lg)), (2, .int (nI q_i))]) hx hb dX8_whole_17 hl (by decide) rfl (fun ls hl => ?_)
      refine lv_iload hx hb dX8_whole_19 (lv_at hl 0 rfl) ?_
      refine lv_if_eq (tgt := 33) hx hb dX8_whole_21 (by decide) (fun c16 => ?_) (fun c16 => absurd (by decide) c16)
      refine lv_aload_n hx hb dX8_whole_33 rfl (lv_at hl 2 rfl) ?_
      refine lv_iconst (v := 1) hx hb dX8_whole_34 (by decide) ?_
      refine va_calli (va_runV (As := [.int 1]) (rest := []) ⟨hx, hb, hml, hown, hts⟩ (c_succeed l G cy L F s.heap.size o qa Mm Dd Sl Pp Kr Bk Xx hR 1) (cwV 1 hts gX8_whole_X8_succeed rfl rfl rfl (by decide +kernel) ⟨Nat.le_of_ble_eq_true rfl, Nat.le_of_ble_eq_true rfl⟩) (preV_of okQ (⟨rfl, hP, hK, hD.top⟩) (pl_recv hK hP (ci := 7) rfl hmo hFo)) rfl rfl hl.1 rfl (lv_room (Nat.le_of_ble_eq_true rfl)) dX8_whole_35 ⟨Nat.le_of_ble_eq_true rfl, Nat.le_of_ble_eq_true rfl⟩) hS (fun q _ h => pl_free hD hS hA q h) (pl_free hD hS hA) (fun r18 F17 t H1 locs ht hvm hw hP1 hz1 hk1 hS => ?_)
      have hP1 : va_P G vwCl (va_pl L F17) t.heap := hP1
      rw [ht] at hP1
      have hP := hP1
      generalize H1 = H at hP hS ⊢
      obtain ⟨hqr18, hR19⟩ := hw
      refine lv_pop hx hb dX8_whole_38 rfl ?_
      obtain ⟨-, -, -, -, hRG2, -⟩ := id hR19
      obtain ⟨hml2, hmr2, hFl2, -, f2, hFr2, hokl2⟩ := hRG2 j_lg hj_lg
      refine lv_aload_n hx hb dX8_whole_39 rfl (lv_at hl 1 rfl) ?_
      refine pg_get (ci := 3) (C := RX3) (T := TX3) (N := 3) hx hb hts hinX3 hown hK hP hml2 hFl2 rfl 2 (by decide) (hts (.fieldLink RX8 200 "RopeDrums$Log" "row" "[D") (by decide +kernel)) (fun _ h9 => h9) rfl dX8_whole_40 ?_
      refine lv_iload_n hx hb dX8_whole_43 rfl (lv_at hl 4 rfl) ?_
      refine pg_dald hx hb hK hP 0 hmr2 hFr2 rfl (vp_in_nI hq_i (by decide)) dX8_whole_44 ?_
      refine lv_topd (fun v20 ev20 => ?_)
      refine lv_d2l hx hb dX8_whole_45 ?_
      refine lv_topl (fun v21 ev21 => ?_)
      exact W.lret (v := v21) hx hb hr (fun t ht hW => ⟨⟨v21, F17, rfl, (by have hsp : sp_whole Sl Xx (nI j_lg) (nI q_i) = (tn (lw j_lg) (Sl.2 (16 * j_lg + q_i)) 1, goodX Xx) := (by unfold sp_whole; rw [hi_lg]; exact (if_pos hp_i).trans (by rw [nI_tn (by omega)])); rw [hsp]; exact ⟨(by subst ev21 ev20; rw [nI_clamp (by omega)]; exact okR_whole (hokl2 q_i hs_i)), hR19⟩), (by show va_P _ _ _ t.heap; rw [ht]; exact hP)⟩, hS.F ht⟩) hS.2.2 dX8_whole_46

def cpf (ln : Int32) (f g : Nat → UInt64) (k : Nat) : Nat → UInt64 := fun x => if x < k then (if ln = 2 then FP.f2d (FP.d2f (f x)) else f x) else g x
theorem cpf0 (ln : Int32) (f g : Nat → UInt64) : cpf ln f g 0 = g := by funext i; simp [cpf]
theorem cpfs {ln : Int32} {f g : Nat → UInt64} {k : Nat} {v : UInt64} (hk : k < 2 ^ 31) (hv : v = if ln = 2 then FP.f2d (FP.d2f (f k)) else f k) : vf_upd (cpf ln f g k) (nI k).toNatClampNeg v = cpf ln f g (k + 1) := by
  funext i
  rw [nI_clamp hk]
  unfold vf_upd cpf
  by_cases h1 : i = k
  · subst h1
    rw [if_pos rfl, if_pos (by omega)]
    exact hv
  · rw [if_neg h1]
    by_cases h2 : i < k
    · rw [if_pos h2, if_pos (show i < k + 1 by omega)]
    · rw [if_neg h2, if_neg (show ¬ i < k + 1 by omega)]
theorem cpf_ok {S : SL} {i j k : Nat} {f g : Nat → UInt64} (hi : ∀ x : Nat, (x : Int) < (S.1 i).toInt → okR (lw i) (S.2 (16 * i + x)) (f x)) (hj : ∀ x : Nat, (x : Int) < (S.1 j).toInt → okR (lw j) (S.2 (16 * j + x)) (g x)) (h1 : (k : Int) ≤ (S.1 i).toInt) : ∀ x : Nat, (x : Int) < (S.1 j).toInt → okR (lw j) (cpy S i j k (16 * j + x)) (cpf (lw j) f g k x) := by
  intro x hx
  unfold cpy cpf
  by_cases h : x < k
  · rw [if_pos h, if_pos (by omega), show 16 * j + x - 16 * j = x by omega]
    exact okR_copy (hi x (by omega)) (lwc j)
  · rw [if_neg h, if_neg (by omega)]
    exact hj x hx

set_option maxHeartbeats 8000000 in
set_option maxRecDepth 100000 in
theorem c_copyPlaces (l : Launch) (G : va_G) (cy : Nat → ClassId) (L : List Nat) (F : Nat → va_E) (sz : Nat) (o : Nat) (qa : Nat → Nat → Nat) (Mm : SM) (Dd : SD) (Sl : SL) (Pp : SP) (Kr : SR) (Bk : SB) (Xx : SX) (hR : Rep cy L o qa Mm Dd Sl Pp Kr Bk Xx F) (ii jj : Nat) (hii : ii < 8) (hjj : jj < 8) (hij : ¬ ii = jj)  : Met l yX8_copyPlaces wsX8_copyPlaces ({ frames := 1, cells := 0, slots := 0, locals := 21 }) (va_Pc [.ref o, .ref (qa 2 ii), .ref (qa 2 jj)] (fun U => bQ G cy L F sz U U.heap)) (va_Qi (fun (r : Int32) (F' : Nat → va_E) => r = (cp Sl Xx ii jj).1 ∧ Rep cy L o qa Mm Dd (cp Sl Xx ii jj).2.1 Pp Kr Bk (cp Sl Xx ii jj).2.2 F') (fun F' t => va_P G vwCl (va_pl L F') t.heap) (va_A (va_pl L F) sz)) 0 0 (va_A (va_pl L F) sz) := by
  refine Met.ofW (cc := cX8_copyPlaces) (maxL := 7) (ret := (some .int)) (by decide) rfl ?_
  intro p e s m args below meth c s₁ B hml hv
  obtain ⟨rfl, hsz, hP, hK, hD0⟩ := hv
  have hx := B.exec
  have hb := B.bytes
  have hr := B.returns
  have hts := atoms_spec (ws := wsX8_copyPlaces) B.pre
  have hown : s.vm.findClass RX8 = some m.cls := findClass_of_methodNamed B.named
  have hlocks := B.notSynchronized
  have hinX8 : ∀ w ∈ wsX80, w ∈ wsX8_copyPlaces := by decide +kernel
  have hinX3 : ∀ w ∈ wsX30, w ∈ wsX8_copyPlaces := by decide +kernel
  subst hsz
  have hD := hD0.self F s.heap.size
  generalize hAe : va_A (va_pl L F) s.heap.size = A at hD ⊢
  have hA : ∀ q : Nat, s.heap.size ≤ q → A q := fun q h => by rw [← hAe]; exact Or.inr h
  have hS : va_S A s.heap s.heap [] := va_S.rf
  obtain ⟨⟨⟨hmo, hFo⟩, ⟨hmf, hFf⟩, hms, hFs⟩, ⟨⟨hm0, hF0⟩, ⟨hm1, hF1⟩, ⟨hm2, hF2⟩, ⟨hm4, hF4⟩, hm5, hF5⟩, hRM, hRD, hRG, hRP, hRR, hRB, hRI⟩ := id hR
  obtain ⟨hml_fr, hmr_fr, hFl_fr, hsz_fr, f_fr, hFr_fr, hokl_fr⟩ := hRG ii hii
  obtain ⟨hml_to, hmr_to, hFl_to, hsz_to, f_to, hFr_to, hokl_to⟩ := hRG jj hjj
  have hne3 : qa 3 ii ≠ qa 3 jj := fun q => hij (hRI.2.2.2.1 ii jj hii hjj q)
  have hl := lv_entry ([.ref o, .ref (qa 2 ii), .ref (qa 2 jj)]) (n := 7) (Nat.le_of_ble_eq_true rfl)
  rw [lg_entry_eq]
  generalize (lg_sl ([.ref o, .ref (qa 2 ii), .ref (qa 2 jj)]) ++ List.replicate (7 - (lg_sl ([.ref o, .ref (qa 2 ii), .ref (qa 2 jj)])).length) Slot.unset).toArray = ls at hl ⊢
  have hl : lv_has ls 7 [(0, .ref o), (1, .ref (qa 2 ii)), (2, .ref (qa 2 jj))] := hl
  refine lv_aload_n hx hb dX8_copyPlaces_0 rfl (lv_at hl 1 rfl) ?_
  refine pg_get (ci := 3) (C := RX3) (T := TX3) (N := 3) hx hb hts hinX3 hown hK hP hml_fr hFl_fr rfl 0 (by decide) (hts (.fieldLink RX8 210 "RopeDrums$Log" "size" "I") (by decide +kernel)) (fun x h9 => u_same (hts (.sameField "RopeDrums$Log" "RopeDrums$Places" "size" "I") (by decide +kernel)) x h9) rfl dX8_copyPlaces_1 ?_
  refine lv_iconst (v := -1) hx hb dX8_copyPlaces_4 (by decide) ?_
  refine lv_icmp_ne (tgt := 14) hx hb dX8_copyPlaces_5 (by decide) (fun c1 => ?_) (fun c1 => ?_)
  · refine lv_aload_n hx hb dX8_copyPlaces_14 rfl (lv_at hl 1 rfl) ?_
    refine pg_get (ci := 3) (C := RX3) (T := TX3) (N := 3) hx hb hts hinX3 hown hK hP hml_fr hFl_fr rfl 0 (by decide) (hts (.fieldLink RX8 210 "RopeDrums$Log" "size" "I") (by decide +kernel)) (fun x h9 => u_same (hts (.sameField "RopeDrums$Log" "RopeDrums$Places" "size" "I") (by decide +kernel)) x h9) rfl dX8_copyPlaces_15 ?_
    refine lv_if_ne (tgt := 27) hx hb dX8_copyPlaces_18 (by decide) (fun c2 => ?_) (fun c2 => ?_)
    · refine lv_aload_n hx hb dX8_copyPlaces_27 rfl (lv_at hl 2 rfl) ?_
      refine pg_get (ci := 3) (C := RX3) (T := TX3) (N := 3) hx hb hts hinX3 hown hK hP hml_to hFl_to rfl 0 (by decide) (hts (.fieldLink RX8 210 "RopeDrums$Log" "size" "I") (by decide +kernel)) (fun x h9 => u_same (hts (.sameField "RopeDrums$Log" "RopeDrums$Places" "size" "I") (by decide +kernel)) x h9) rfl dX8_copyPlaces_28 ?_
      refine lv_iconst (v := -1) hx hb dX8_copyPlaces_31 (by decide) ?_
      refine lv_icmp_ne (tgt := 41) hx hb dX8_copyPlaces_32 (by decide) (fun c3 => ?_) (fun c3 => ?_)
      · refine lv_aload_n hx hb dX8_copyPlaces_41 rfl (lv_at hl 1 rfl) ?_
        refine pg_get (ci := 3) (C := RX3) (T := TX3) (N := 3) hx hb hts hinX3 hown hK hP hml_fr hFl_fr rfl 0 (by decide) (hts (.fieldLink RX8 210 "RopeDrums$Log" "size" "I") (by decide +kernel)) (fun x h9 => u_same (hts (.sameField "RopeDrums$Log" "RopeDrums$Places" "size" "I") (by decide +kernel)) x h9) rfl dX8_copyPlaces_42 ?_
        refine lv_aload_n hx hb dX8_copyPlaces_45 rfl (lv_at hl 2 rfl) ?_
        refine pg_get (ci := 3) (C := RX3) (T := TX3) (N := 3) hx hb hts hinX3 hown hK hP hml_to hFl_to rfl 0 (by decide) (hts (.fieldLink RX8 210 "RopeDrums$Log" "size" "I") (by decide +kernel)) (fun x h9 => u_same (hts (.sameField "RopeDrums$Log" "RopeDrums$Places" "size" "I") (by decide +kernel)) x h9) rfl dX8_copyPlaces_46 ?_
        refine va_mmin hx hb (by rw [hml]; exact hl.1.symm) hown (hts (.methodLink RX8 221 Lib.Math.min.name) (by decide +kernel)) (hts (.static Lib.Math.min.name) (by decide +kernel)) (hts (.initialized "java/lang/Math") (by decide +kernel)) (hts (.code Lib.Math.min.name Lib.Math.min.code 2 (some .int)) (by decide +kernel)) (Nat.le_of_ble_eq_true rfl) (Nat.le_of_ble_eq_true rfl) (Nat.zero_le _) (Nat.zero_le _) dX8_copyPlaces_49 ?_
        refine lv_topi (fun v4 ev4 => ?_)
        have hmn : v4 = mn (Sl.1 ii) (Sl.1 jj) := ev4
        have hb4 : 0 ≤ v4.toInt ∧ v4.toInt ≤ 16 ∧ v4.toInt ≤ (Sl.1 ii).toInt ∧ v4.toInt ≤ (Sl.1 jj).toInt := by
          have hc1 := c1
          have hc3 := c3
          have h1 : (-1 : Int32).toInt = -1 := (by decide)
          rw [fa_eq] at hc1 hc3
          unfold szOK at hsz_fr hsz_to
          rw [hmn]
          unfold mn
          split
          · rename_i hq
            rw [fa_lt] at hq
            omega
          · rename_i hq
            rw [fa_lt] at hq
            omega
        refine lv_istore_n (lv' := [(3, .int v4), (0, .ref o), (1, .ref (qa 2 ii)), (2, .ref (qa 2 jj))]) hx hb dX8_copyPlaces_52 rfl hl (by decide) rfl (fun ls hl => ?_)
        refine lv_iconst (v := 0) hx hb dX8_copyPlaces_53 (by decide) ?_
        refine lv_istore (lv' := [(4, .int 0), (3, .int v4), (0, .ref o), (1, .ref (qa 2 ii)), (2, .ref (qa 2 jj))]) hx hb dX8_copyPlaces_54 hl (by decide) rfl (fun ls hl => ?_)
        refine lp_w (pc := 56) (nL := 7) (α := Nat) (fun xx => (xx : Int) ≤ v4.toInt) (fun xx => [(4, .int (nI xx)), (3, .int v4), (0, .ref o), (1, .ref (qa 2 ii)), (2, .ref (qa 2 jj))]) (fun xx => va_pl L (va_up F (qa 3 jj) (cD (cy 0) 16 (cpf (lw jj) f_fr f_to xx)))) (fun xx => (v4.toInt - xx).toNat) (fun kk ls H locs hI hP hS hl K => ?_) 0 ls (hb4.1) (by rw [show va_up F (qa 3 jj) (cD (cy 0) 16 (cpf (lw jj) f_fr f_to 0)) = F from (by rw [cpf0]; exact upid hFr_to)]; exact hP) hS (lv_sub hl [0, 1, 2, 3, 4] rfl)
        obtain ⟨F5, eF5⟩ : ∃ y : Nat → va_E, y = va_up F (qa 3 jj) (cD (cy 0) 16 (cpf (lw jj) f_fr f_to kk)) := ⟨_, rfl⟩
        rw [← eF5] at hP
        have hFo_5 : F5 o = .inr (7, [.ref (qa 8 0), .ref (qa 8 1), .ref (qa 8 2), .ref (qa 8 3), .ref (qa 8 4), .ref (qa 8 5), .ref (qa 8 6), .int Pp.1, .int Xx.1]) := by rw [eF5, va_up_ne _ _ (pl_ne hFo hFr_to rfl)]; exact hFo
        have hFqa80_5 : F5 (qa 8 0) = cQ (cy 7) 10 (pR 10 (qa 0)) := by rw [eF5, va_up_ne _ _ (pl_ne hF0 hFr_to rfl)]; exact hF0
        have hFqa81_5 : F5 (qa 8 1) = cQ (cy 5) 6 (pR 6 (qa 1)) := by rw [eF5, va_up_ne _ _ (pl_ne hF1 hFr_to rfl)]; exact hF1
        have hFqa82_5 : F5 (qa 8 2) = cQ (cy 6) 8 (pR 8 (qa 2)) := by rw [eF5, va_up_ne _ _ (pl_ne hF2 hFr_to rfl)]; exact hF2
        have hFqa83_5 : F5 (qa 8 3) = cQ (cy 9) 30 (pR Pp.1.toInt.toNat (qa 7)) := by rw [eF5, va_up_ne _ _ (pl_ne hFs hFr_to rfl)]; exact hFs
        have hFqa84_5 : F5 (qa 8 4) = cQ (cy 8) 5 (pR 5 (qa 4)) := by rw [eF5, va_up_ne _ _ (pl_ne hF4 hFr_to rfl)]; exact hF4
        have hFqa85_5 : F5 (qa 8 5) = cQ (cy 4) 4 (pR 4 (qa 6)) := by rw [eF5, va_up_ne _ _ (pl_ne hF5 hFr_to rfl)]; exact hF5
        have hFqa86_5 : F5 (qa 8 6) = cI (cy 1) 6 Xx.2 := by rw [eF5, va_up_ne _ _ (pl_ne hFf hFr_to rfl)]; exact hFf
        have hFqa2ii_5 : F5 (qa 2 ii) = .inr (3, [.int (Sl.1 ii), .int (lw ii), .ref (qa 3 ii)]) := by rw [eF5, va_up_ne _ _ (pl_ne hFl_fr hFr_to rfl)]; exact hFl_fr
        have hFqa3ii_5 : F5 (qa 3 ii) = cD (cy 0) 16 f_fr := by rw [eF5, va_up_ne _ _ (hne3)]; exact hFr_fr
        have hFqa2jj_5 : F5 (qa 2 jj) = .inr (3, [.int (Sl.1 jj), .int (lw jj), .ref (qa 3 jj)]) := by rw [eF5, va_up_ne _ _ (pl_ne hFl_to hFr_to rfl)]; exact hFl_to
        have hFqa3jj_5 : F5 (qa 3 jj) = cD (cy 0) 16 (cpf (lw jj) f_fr f_to kk) := by rw [eF5]; exact va_up_self _ _ _
        have hl : lv_has ls 7 [(4, .int (nI kk)), (3, .int v4), (0, .ref o), (1, .ref (qa 2 ii)), (2, .ref (qa 2 jj))] := hl
        refine lv_iload hx hb dX8_copyPlaces_56 (lv_at hl 0 rfl) ?_
        refine lv_iload_n hx hb dX8_copyPlaces_58 rfl (lv_at hl 1 rfl) ?_
        refine lv_icmp_ge (tgt := 101) hx hb dX8_copyPlaces_59 (by decide) (fun c6 => ?_) (fun c6 => ?_)
        · have hge : v4.toInt.toNat = kk := by have hc := c6; rw [fa_le, nI_toInt (by omega)] at hc; omega
          have hR7 : Rep cy L o qa Mm Dd (Sl.1, cpy Sl ii jj v4.toInt.toNat) Pp Kr Bk Xx F5 := by rw [eF5, hge]; exact hR.row hjj (fun x hx => by unfold cpy; exact if_neg (by unfold szOK at hsz_to; omega)) (cpf_ok hokl_fr hokl_to (by omega))
          refine lv_iload_n hx hb dX8_copyPlaces_101 rfl (lv_at hl 1 rfl) ?_
          refine lv_aload_n hx hb dX8_copyPlaces_102 rfl (lv_at hl 3 rfl) ?_
          refine pg_get (ci := 3) (C := RX3) (T := TX3) (N := 3) hx hb hts hinX3 hown hK hP hml_fr hFqa2ii_5 rfl 0 (by decide) (hts (.fieldLink RX8 210 "RopeDrums$Log" "size" "I") (by decide +kernel)) (fun x h9 => u_same (hts (.sameField "RopeDrums$Log" "RopeDrums$Places" "size" "I") (by decide +kernel)) x h9) rfl dX8_copyPlaces_103 ?_
          refine lv_icmp_ge (tgt := 117) hx hb dX8_copyPlaces_106 (by decide) (fun c8 => ?_) (fun c8 => ?_)
          · refine lv_aload_n hx hb dX8_copyPlaces_117 rfl (lv_at hl 2 rfl) ?_
            refine lv_iload_n hx hb dX8_copyPlaces_118 rfl (lv_at hl 1 rfl) ?_
            refine va_calli (va_runV (As := [.int v4]) (rest := []) ⟨hx, hb, hml, hown, hts⟩ (c_succeed l G cy L F5 H.size o qa Mm Dd (Sl.1, cpy Sl ii jj v4.toInt.toNat) Pp Kr Bk Xx hR7 v4) (cwV 1 hts gX8_copyPlaces_X8_succeed rfl rfl rfl (by decide +kernel) ⟨Nat.le_of_ble_eq_true rfl, Nat.le_of_ble_eq_true rfl⟩) (preV_of okQ (⟨rfl, hP, hK, hD.top⟩) (pl_recv hK hP (ci := 7) rfl hmo hFo_5)) rfl rfl hl.1 rfl (lv_room (Nat.le_of_ble_eq_true rfl)) dX8_copyPlaces_119 ⟨Nat.le_of_ble_eq_true rfl, Nat.le_of_ble_eq_true rfl⟩) hS (fun q _ h => pl_free hD hS hA q h) (pl_free hD hS hA) (fun r10 F9 t H1 locs ht hvm hw hP1 hz1 hk1 hS => ?_)
            have hP1 : va_P G vwCl (va_pl L F9) t.heap := hP1
            rw [ht] at hP1
            have hP := hP1
            generalize H1 = H at hP hS ⊢
            obtain ⟨hqr10, hR11⟩ := hw
            exact W.iret (v := r10) hx hb hr (fun t ht hW => ⟨⟨r10, F9, rfl, (by have hsp : cp Sl Xx ii jj = (v4, (Sl.1, cpy Sl ii jj v4.toInt.toNat), goodX Xx) := (by unfold cp; rw [if_neg c1, if_neg c2, if_neg c3, ← hmn, if_neg (by have hc := c8; rw [fa_le] at hc; rw [fa_lt]; omega)]); rw [hsp]; exact ⟨hqr10, hR11⟩), (by show va_P _ _ _ t.heap; rw [ht]; exact hP)⟩, hS.F ht⟩) hS.2.2 dX8_copyPlaces_122
          · refine lv_aload_n hx hb dX8_copyPlaces_109 rfl (lv_at hl 2 rfl) ?_
            refine lv_iconst (v := 2) hx hb dX8_copyPlaces_110 (by decide) ?_
            refine va_calli (va_runV (As := [.int 2]) (rest := []) ⟨hx, hb, hml, hown, hts⟩ (c_fail_2 l G cy L F5 H.size o qa Mm Dd (Sl.1, cpy Sl ii jj v4.toInt.toNat) Pp Kr Bk Xx hR7) (cwV 1 hts gX8_copyPlaces_X8_fail rfl rfl rfl (by decide +kernel) ⟨Nat.le_of_ble_eq_true rfl, Nat.le_of_ble_eq_true rfl⟩) (preV_of okQ (⟨rfl, hP, hK, hD.top⟩) (pl_recv hK hP (ci := 7) rfl hmo hFo_5)) rfl rfl hl.1 rfl (lv_room (Nat.le_of_ble_eq_true rfl)) dX8_copyPlaces_111 ⟨Nat.le_of_ble_eq_true rfl, Nat.le_of_ble_eq_true rfl⟩) hS (fun q _ h => pl_free hD hS hA q h) (pl_free hD hS hA) (fun r13 F12 t H1 locs ht hvm hw hP1 hz1 hk1 hS => ?_)
            have hP1 : va_P G vwCl (va_pl L F12) t.heap := hP1
            rw [ht] at hP1
            have hP := hP1
            generalize H1 = H at hP hS ⊢
            obtain ⟨hqr13, hR14⟩ := hw
            refine lv_pop hx hb dX8_copyPlaces_114 rfl ?_
            refine lv_iload_n hx hb dX8_copyPlaces_115 rfl (lv_at hl 1 rfl) ?_
            exact W.iret (v := v4) hx hb hr (fun t ht hW => ⟨⟨v4, F12, rfl, (by have hsp : cp Sl Xx ii jj = (v4, (Sl.1, cpy Sl ii jj v4.toInt.toNat), failX Xx 2) := (by unfold cp; rw [if_neg c1, if_neg c2, if_neg c3, ← hmn, if_pos (by have hc := c8; rw [fa_le] at hc; rw [fa_lt]; omega)]); rw [hsp]; exact ⟨rfl, hR14⟩), (by show va_P _ _ _ t.heap; rw [ht]; exact hP)⟩, hS.F ht⟩) hS.2.2 dX8_copyPlaces_116
        · have hlt : (kk : Int) < v4.toInt := by have hc := c6; rw [fa_le, nI_toInt (by omega)] at hc; omega
          have hlt16 : kk < 16 := by omega
          refine lv_aload_n hx hb dX8_copyPlaces_62 rfl (lv_at hl 3 rfl) ?_
          refine pg_get (ci := 3) (C := RX3) (T := TX3) (N := 3) hx hb hts hinX3 hown hK hP hml_fr hFqa2ii_5 rfl 2 (by decide) (hts (.fieldLink RX8 200 "RopeDrums$Log" "row" "[D") (by decide +kernel)) (fun _ h9 => h9) rfl dX8_copyPlaces_63 ?_
          refine lv_iload hx hb dX8_copyPlaces_66 (lv_at hl 0 rfl) ?_
          refine pg_dald hx hb hK hP 0 hmr_fr hFqa3ii_5 rfl (vp_in_nI hlt16 (by decide)) dX8_copyPlaces_68 ?_
          refine lv_topd (fun v15 ev15 => ?_)
          refine lv_dstore (lv' := [(5, .double v15), (4, .int (nI kk)), (3, .int v4), (0, .ref o), (1, .ref (qa 2 ii)), (2, .ref (qa 2 jj))]) hx hb dX8_copyPlaces_69 hl (by decide) rfl (fun ls hl => ?_)
          refine lv_aload_n hx hb dX8_copyPlaces_71 rfl (lv_at hl 5 rfl) ?_
          refine pg_get (ci := 3) (C := RX3) (T := TX3) (N := 3) hx hb hts hinX3 hown hK hP hml_to hFqa2jj_5 rfl 2 (by decide) (hts (.fieldLink RX8 200 "RopeDrums$Log" "row" "[D") (by decide +kernel)) (fun _ h9 => h9) rfl dX8_copyPlaces_72 ?_
          refine lv_iload hx hb dX8_copyPlaces_75 (lv_at hl 1 rfl) ?_
          refine lv_aload_n hx hb dX8_copyPlaces_77 rfl (lv_at hl 5 rfl) ?_
          refine pg_get (ci := 3) (C := RX3) (T := TX3) (N := 3) hx hb hts hinX3 hown hK hP hml_to hFqa2jj_5 rfl 1 (by decide) (hts (.fieldLink RX8 216 "RopeDrums$Log" "lane" "I") (by decide +kernel)) (fun _ h9 => h9) rfl dX8_copyPlaces_78 ?_
          refine lv_iconst (v := 2) hx hb dX8_copyPlaces_81 (by decide) ?_
          refine lv_icmp_ne (tgt := 92) hx hb dX8_copyPlaces_82 (by decide) (fun c16 => ?_) (fun c16 => ?_)
          · refine lv_dload hx hb dX8_copyPlaces_92 (lv_at hl 0 rfl) ?_
            refine pg_dast hx hb hK hP hD hS 0 hmr_to hFqa3jj_5 rfl (vp_in_nI hlt16 (by decide)) dX8_copyPlaces_94 (fun H locs F17 eF17 hP hS => ?_)
            have hFo_17 : F17 o = .inr (7, [.ref (qa 8 0), .ref (qa 8 1), .ref (qa 8 2), .ref (qa 8 3), .ref (qa 8 4), .ref (qa 8 5), .ref (qa 8 6), .int Pp.1, .int Xx.1]) := by rw [eF17, va_up_ne _ _ (pl_ne hFo_5 hFqa3jj_5 rfl)]; exact hFo_5
            have hFqa80_17 : F17 (qa 8 0) = cQ (cy 7) 10 (pR 10 (qa 0)) := by rw [eF17, va_up_ne _ _ (pl_ne hFqa80_5 hFqa3jj_5 rfl)]; exact hFqa80_5
            have hFqa81_17 : F17 (qa 8 1) = cQ (cy 5) 6 (pR 6 (qa 1)) := by rw [eF17, va_up_ne _ _ (pl_ne hFqa81_5 hFqa3jj_5 rfl)]; exact hFqa81_5
            have hFqa82_17 : F17 (qa 8 2) = cQ (cy 6) 8 (pR 8 (qa 2)) := by rw [eF17, va_up_ne _ _ (pl_ne hFqa82_5 hFqa3jj_5 rfl)]; exact hFqa82_5
            have hFqa83_17 : F17 (qa 8 3) = cQ (cy 9) 30 (pR Pp.1.toInt.toNat (qa 7)) := by rw [eF17, va_up_ne _ _ (pl_ne hFqa83_5 hFqa3jj_5 rfl)]; exact hFqa83_5
            have hFqa84_17 : F17 (qa 8 4) = cQ (cy 8) 5 (pR 5 (qa 4)) := by rw [eF17, va_up_ne _ _ (pl_ne hFqa84_5 hFqa3jj_5 rfl)]; exact hFqa84_5
            have hFqa85_17 : F17 (qa 8 5) = cQ (cy 4) 4 (pR 4 (qa 6)) := by rw [eF17, va_up_ne _ _ (pl_ne hFqa85_5 hFqa3jj_5 rfl)]; exact hFqa85_5
            have hFqa86_17 : F17 (qa 8 6) = cI (cy 1) 6 Xx.2 := by rw [eF17, va_up_ne _ _ (pl_ne hFqa86_5 hFqa3jj_5 rfl)]; exact hFqa86_5
            have hFqa2ii_17 : F17 (qa 2 ii) = .inr (3, [.int (Sl.1 ii), .int (lw ii), .ref (qa 3 ii)]) := by rw [eF17, va_up_ne _ _ (pl_ne hFqa2ii_5 hFqa3jj_5 rfl)]; exact hFqa2ii_5
            have hFqa3ii_17 : F17 (qa 3 ii) = cD (cy 0) 16 f_fr := by rw [eF17, va_up_ne _ _ (hne3)]; exact hFqa3ii_5
            have hFqa2jj_17 : F17 (qa 2 jj) = .inr (3, [.int (Sl.1 jj), .int (lw jj), .ref (qa 3 jj)]) := by rw [eF17, va_up_ne _ _ (pl_ne hFqa2jj_5 hFqa3jj_5 rfl)]; exact hFqa2jj_5
            have hFqa3jj_17 : F17 (qa 3 jj) = cD (cy 0) 16 (vf_upd (cpf (lw jj) f_fr f_to kk) (nI kk : Int32).toNatClampNeg v15) := by rw [eF17]; exact va_up_self _ _ _
            obtain ⟨v18, ev18⟩ : ∃ y : Int32, y = (nI kk) + (1) := ⟨_, rfl⟩
            refine lv_iinc (v := v18) (lv' := [(4, .int v18), (5, .double v15), (3, .int v4), (0, .ref o), (1, .ref (qa 2 ii)), (2, .ref (qa 2 jj))]) hx hb dX8_copyPlaces_95 hl (k := 1) rfl (by rw [ev18]; rfl) (by decide) rfl (fun ls hl => ?_)
            refine lv_goto (tgt := 56) hx hb dX8_copyPlaces_98 (by decide) ?_
            have hv : v18 = nI (kk + 1) := by rw [ev18, nI_succ]
            rw [hv] at hl
            exact K (kk + 1) ls H locs (by omega) (by omega) (by rw [← show F17 = va_up F (qa 3 jj) (cD (cy 0) 16 (cpf (lw jj) f_fr f_to (kk + 1))) from (by rw [eF17, eF5, upup]; exact congrArg (fun x => va_up F (qa 3 jj) (cD (cy 0) 16 x)) (cpfs (by omega) (by rw [if_neg c16]; rw [nI_clamp (by omega)] at ev15; exact ev15)))]; exact hP) hS (lv_sub hl [0, 2, 3, 4, 5] rfl)
          · refine lv_dload hx hb dX8_copyPlaces_85 (lv_at hl 0 rfl) ?_
            refine lv_d2f hx hb dX8_copyPlaces_87 (n32.mpr (d2f_ok (by rw [ev15, nI_clamp (by omega)]; exact (hokl_fr kk (by omega)).ne)).2) ?_
            refine lv_topf (fun v19 ev19 => ?_)
            refine lv_f2d hx hb dX8_copyPlaces_88 (n64.mpr (f2d_ok (by rw [ev19]; exact (d2f_ok (by rw [ev15, nI_clamp (by omega)]; exact (hokl_fr kk (by omega)).ne)).2)).2) ?_
            refine lv_topd (fun v20 ev20 => ?_)
            refine lv_goto (tgt := 94) hx hb dX8_copyPlaces_89 (by decide) ?_
            refine pg_dast hx hb hK hP hD hS 0 hmr_to hFqa3jj_5 rfl (vp_in_nI hlt16 (by decide)) dX8_copyPlaces_94 (fun H locs F21 eF21 hP hS => ?_)
            have hFo_21 : F21 o = .inr (7, [.ref (qa 8 0), .ref (qa 8 1), .ref (qa 8 2), .ref (qa 8 3), .ref (qa 8 4), .ref (qa 8 5), .ref (qa 8 6), .int Pp.1, .int Xx.1]) := by rw [eF21, va_up_ne _ _ (pl_ne hFo_5 hFqa3jj_5 rfl)]; exact hFo_5
            have hFqa80_21 : F21 (qa 8 0) = cQ (cy 7) 10 (pR 10 (qa 0)) := by rw [eF21, va_up_ne _ _ (pl_ne hFqa80_5 hFqa3jj_5 rfl)]; exact hFqa80_5
            have hFqa81_21 : F21 (qa 8 1) = cQ (cy 5) 6 (pR 6 (qa 1)) := by rw [eF21, va_up_ne _ _ (pl_ne hFqa81_5 hFqa3jj_5 rfl)]; exact hFqa81_5
            have hFqa82_21 : F21 (qa 8 2) = cQ (cy 6) 8 (pR 8 (qa 2)) := by rw [eF21, va_up_ne _ _ (pl_ne hFqa82_5 hFqa3jj_5 rfl)]; exact hFqa82_5
            have hFqa83_21 : F21 (qa 8 3) = cQ (cy 9) 30 (pR Pp.1.toInt.toNat (qa 7)) := by rw [eF21, va_up_ne _ _ (pl_ne hFqa83_5 hFqa3jj_5 rfl)]; exact hFqa83_5
            have hFqa84_21 : F21 (qa 8 4) = cQ (cy 8) 5 (pR 5 (qa 4)) := by rw [eF21, va_up_ne _ _ (pl_ne hFqa84_5 hFqa3jj_5 rfl)]; exact hFqa84_5
            have hFqa85_21 : F21 (qa 8 5) = cQ (cy 4) 4 (pR 4 (qa 6)) := by rw [eF21, va_up_ne _ _ (pl_ne hFqa85_5 hFqa3jj_5 rfl)]; exact hFqa85_5
            have hFqa86_21 : F21 (qa 8 6) = cI (cy 1) 6 Xx.2 := by rw [eF21, va_up_ne _ _ (pl_ne hFqa86_5 hFqa3jj_5 rfl)]; exact hFqa86_5
            have hFqa2ii_21 : F21 (qa 2 ii) = .inr (3, [.int (Sl.1 ii), .int (lw ii), .ref (qa 3 ii)]) := by rw [eF21, va_up_ne _ _ (pl_ne hFqa2ii_5 hFqa3jj_5 rfl)]; exact hFqa2ii_5
            have hFqa3ii_21 : F21 (qa 3 ii) = cD (cy 0) 16 f_fr := by rw [eF21, va_up_ne _ _ (hne3)]; exact hFqa3ii_5
            have hFqa2jj_21 : F21 (qa 2 jj) = .inr (3, [.int (Sl.1 jj), .int (lw jj), .ref (qa 3 jj)]) := by rw [eF21, va_up_ne _ _ (pl_ne hFqa2jj_5 hFqa3jj_5 rfl)]; exact hFqa2jj_5
            have hFqa3jj_21 : F21 (qa 3 jj) = cD (cy 0) 16 (vf_upd (cpf (lw jj) f_fr f_to kk) (nI kk : Int32).toNatClampNeg v20) := by rw [eF21]; exact va_up_self _ _ _
            obtain ⟨v22, ev22⟩ : ∃ y : Int32, y = (nI kk) + (1) := ⟨_, rfl⟩
            refine lv_iinc (v := v22) (lv' := [(4, .int v22), (5, .double v15), (3, .int v4), (0, .ref o), (1, .ref (qa 2 ii)), (2, .ref (qa 2 jj))]) hx hb dX8_copyPlaces_95 hl (k := 1) rfl (by rw [ev22]; rfl) (by decide) rfl (fun ls hl => ?_)
            refine lv_goto (tgt := 56) hx hb dX8_copyPlaces_98 (by decide) ?_
            have hv : v22 = nI (kk + 1) := by rw [ev22, nI_succ]
            rw [hv] at hl
            exact K (kk + 1) ls H locs (by omega) (by omega) (by rw [← show F21 = va_up F (qa 3 jj) (cD (cy 0) 16 (cpf (lw jj) f_fr f_to (kk + 1))) from (by rw [eF21, eF5, upup]; exact congrArg (fun x => va_up F (qa 3 jj) (cD (cy 0) 16 x)) (cpfs (by omega) (by rw [if_pos c16]; rw [nI_clamp (by omega)] at ev15; rw [ev20, ev19, ev15])))]; exact hP) hS (lv_sub hl [0, 2, 3, 4, 5] rfl)
      · refine lv_aload_n hx hb dX8_copyPlaces_35 rfl (lv_at hl 0 rfl) ?_
        refine lv_iconst (v := 1) hx hb dX8_copyPlaces_36 (by decide) ?_
        refine va_calli (va_runV (As := [.int 1]) (rest := []) ⟨hx, hb, hml, hown, hts⟩ (c_fail_1 l G cy L F s.heap.size o qa Mm Dd Sl Pp Kr Bk Xx hR) (cwV 1 hts gX8_copyPlaces_X8_fail rfl rfl rfl (by decide +kernel) ⟨Nat.le_of_ble_eq_true rfl, Nat.le_of_ble_eq_true rfl⟩) (preV_of okQ (⟨rfl, hP, hK, hD.top⟩) (pl_recv hK hP (ci := 7) rfl hmo hFo)) rfl rfl hl.1 rfl (lv_room (Nat.le_of_ble_eq_true rfl)) dX8_copyPlaces_37 ⟨Nat.le_of_ble_eq_true rfl, Nat.le_of_ble_eq_true rfl⟩) hS (fun q _ h => pl_free hD hS hA q h) (pl_free hD hS hA) (fun r24 F23 t H1 locs ht hvm hw hP1 hz1 hk1 hS => ?_)
        have hP1 : va_P G vwCl (va_pl L F23) t.heap := hP1
        rw [ht] at hP1
        have hP := hP1
        generalize H1 = H at hP hS ⊢
        obtain ⟨hqr24, hR25⟩ := hw
        exact W.iret (v := r24) hx hb hr (fun t ht hW => ⟨⟨r24, F23, rfl, (by have hsp : cp Sl Xx ii jj = (-11, Sl, failX Xx 1) := (by unfold cp; rw [if_neg c1, if_neg c2, if_pos c3]); rw [hsp]; exact ⟨(by rw [hqr24]; show (-10 - 1 : Int32) = -11; decide), hR25⟩), (by show va_P _ _ _ t.heap; rw [ht]; exact hP)⟩, hS.F ht⟩) hS.2.2 dX8_copyPlaces_40
    · refine lv_aload_n hx hb dX8_copyPlaces_21 rfl (lv_at hl 0 rfl) ?_
      refine lv_iconst (v := 0) hx hb dX8_copyPlaces_22 (by decide) ?_
      refine va_calli (va_runV (As := [.int 0]) (rest := []) ⟨hx, hb, hml, hown, hts⟩ (c_succeed l G cy L F s.heap.size o qa Mm Dd Sl Pp Kr Bk Xx hR 0) (cwV 1 hts gX8_copyPlaces_X8_succeed rfl rfl rfl (by decide +kernel) ⟨Nat.le_of_ble_eq_true rfl, Nat.le_of_ble_eq_true rfl⟩) (preV_of okQ (⟨rfl, hP, hK, hD.top⟩) (pl_recv hK hP (ci := 7) rfl hmo hFo)) rfl rfl hl.1 rfl (lv_room (Nat.le_of_ble_eq_true rfl)) dX8_copyPlaces_23 ⟨Nat.le_of_ble_eq_true rfl, Nat.le_of_ble_eq_true rfl⟩) hS (fun q _ h => pl_free hD hS hA q h) (pl_free hD hS hA) (fun r27 F26 t H1 locs ht hvm hw hP1 hz1 hk1 hS => ?_)
      have hP1 : va_P G vwCl (va_pl L F26) t.heap := hP1
      rw [ht] at hP1
      have hP := hP1
      generalize H1 = H at hP hS ⊢
      obtain ⟨hqr27, hR28⟩ := hw
      exact W.iret (v := r27) hx hb hr (fun t ht hW => ⟨⟨r27, F26, rfl, (by have hsp : cp Sl Xx ii jj = (0, Sl, goodX Xx) := (by unfold cp; rw [if_neg c1, if_pos c2]); rw [hsp]; exact ⟨hqr27, hR28⟩), (by show va_P _ _ _ t.heap; rw [ht]; exact hP)⟩, hS.F ht⟩) hS.2.2 dX8_copyPlaces_26
  · refine lv_aload_n hx hb dX8_copyPlaces_8 rfl (lv_at hl 0 rfl) ?_
    refine lv_iconst (v := 1) hx hb dX8_copyPlaces_9 (by decide) ?_
    refine va_calli (va_runV (As := [.int 1]) (rest := []) ⟨hx, hb, hml, hown, hts⟩ (c_fail_1 l G cy L F s.heap.size o qa Mm Dd Sl Pp Kr Bk Xx hR) (cwV 1 hts gX8_copyPlaces_X8_fail rfl rfl rfl (by decide +kernel) ⟨Nat.le_of_ble_eq_true rfl, Nat.le_of_ble_eq_true rfl⟩) (preV_of okQ (⟨rfl, hP, hK, hD.top⟩) (pl_recv hK hP (ci := 7) rfl hmo hFo)) rfl rfl hl.1 rfl (lv_room (Nat.le_of_ble_eq_true rfl)) dX8_copyPlaces_10 ⟨Nat.le_of_ble_eq_true rfl, Nat.le_of_ble_eq_true rfl⟩) hS (fun q _ h => pl_free hD hS hA q h) (pl_free hD hS hA) (fun r30 F29 t H1 locs ht hvm hw hP1 hz1 hk1 hS => ?_)
    have hP1 : va_P G vwCl (va_pl L F29) t.heap := hP1
    rw [ht] at hP1
    have hP := hP1
    generalize H1 = H at hP hS ⊢
    obtain ⟨hqr30, hR31⟩ := hw
    exact W.iret (v := r30) hx hb hr (fun t ht hW => ⟨⟨r30, F29, rfl, (by have hsp : cp Sl Xx ii jj = (-11, Sl, failX Xx 1) := (by unfold cp; rw [if_pos c1]); rw [hsp]; exact ⟨(by rw [hqr30]; show (-10 - 1 : Int32) = -11; decide), hR31⟩), (by show va_P _ _ _ t.heap; rw [ht]; exact hP)⟩, hS.F ht⟩) hS.2.2 dX8_copyPlaces_13

set_option maxHeartbeats 8000000 in
set_option maxRecDepth 100000 in
theorem m_copy (l : Launch) (G : va_G) (cy : Nat → ClassId) (L : List Nat) (F : Nat → va_E) (ad : Nat → Nat) (sz : Nat) (o : Nat) (qa : Nat → Nat → Nat) (Mm : SM) (Dd : SD) (Sl : SL) (Pp : SP) (Kr : SR) (Bk : SB) (Xx : SX) (hR : Rep cy L o qa Mm Dd Sl Pp Kr Bk Xx F) (dd ff bk : Int32)  : Met l yX8_copy wsX8_copy ({ frames := 2, cells := 0, slots := 0, locals := 47 }) (va_Pc [.ref o, .int dd, .int ff, .int bk] (fun U => bQE G cy L F ad sz U U.heap)) (va_Qi (fun (r : Int32) (F' : Nat → va_E) => r = (sp_copy Sl Xx dd ff bk).1 ∧ Rep cy L o qa Mm Dd (sp_copy Sl Xx dd ff bk).2.1 Pp Kr Bk (sp_copy Sl Xx dd ff bk).2.2 F') (fun F' t => va_P G vwCl (va_pl L F') t.heap) (va_A (va_pl L F) sz)) 0 0 (va_A (va_pl L F) sz) := by
  refine Met.ofW (cc := cX8_copy) (maxL := 6) (ret := (some .int)) (by decide) rfl ?_
  intro p e s m args below meth c s₁ B hml hv
  obtain ⟨rfl, ⟨hsz, hP, hK, hD0⟩, hE, hN⟩ := hv
  have hx := B.exec
  have hb := B.bytes
  have hr := B.returns
  have hts := atoms_spec (ws := wsX8_copy) B.pre
  have hown : s.vm.findClass RX8 = some m.cls := findClass_of_methodNamed B.named
  have hlocks := B.notSynchronized
  have hinX8 : ∀ w ∈ wsX80, w ∈ wsX8_copy := by decide +kernel
  have hinX3 : ∀ w ∈ wsX30, w ∈ wsX8_copy := by decide +kernel
  subst hsz
  have hD := hD0.self F s.heap.size
  generalize hAe : va_A (va_pl L F) s.heap.size = A at hD hE ⊢
  have hA : ∀ q : Nat, s.heap.size ≤ q → A q := fun q h => by rw [← hAe]; exact Or.inr h
  have hS : va_S A s.heap s.heap [] := va_S.rf
  obtain ⟨⟨⟨hmo, hFo⟩, ⟨hmf, hFf⟩, hms, hFs⟩, ⟨⟨hm0, hF0⟩, ⟨hm1, hF1⟩, ⟨hm2, hF2⟩, ⟨hm4, hF4⟩, hm5, hF5⟩, hRM, hRD, hRG, hRP, hRR, hRB, hRI⟩ := id hR
  have hl := lv_entry ([.ref o, .int dd, .int ff, .int bk]) (n := 6) (Nat.le_of_ble_eq_true rfl)
  rw [lg_entry_eq]
  generalize (lg_sl ([.ref o, .int dd, .int ff, .int bk]) ++ List.replicate (6 - (lg_sl ([.ref o, .int dd, .int ff, .int bk])).length) Slot.unset).toArray = ls at hl ⊢
  have hl : lv_has ls 6 [(0, .ref o), (1, .int dd), (2, .int ff), (3, .int bk)] := hl
  rcases ixc 8 dd with hi_dd | ⟨j_dd, hj_dd, hi_dd, ei_dd⟩
  · rcases ixc 8 ff with hi_ff | ⟨j_ff, hj_ff, hi_ff, ei_ff⟩
    · refine lv_aload_n hx hb dX8_copy_0 rfl (lv_at hl 0 rfl) ?_
      refine lv_iload_n hx hb dX8_copy_1 rfl (lv_at hl 1 rfl) ?_
      refine va_csq (W.runV (As := [.int dd]) (rest := []) ⟨hx, hb, hml, hown, hts⟩ (c_logOf_no l G cy L F o qa Mm Dd Sl Pp Kr Bk Xx hR dd hi_dd) (cwV 1 hts gX8_copy_X8_logOf rfl rfl rfl (by decide +kernel) ⟨Nat.le_of_ble_eq_true rfl, Nat.le_of_ble_eq_true rfl⟩) (preV_of okP (⟨hP, hK, hD.top⟩) (pl_recv hK hP (ci := 7) rfl hmo hFo)) rfl rfl hl.1 rfl (lv_room (Nat.le_of_ble_eq_true rfl)) dX8_copy_2 ⟨Nat.le_of_ble_eq_true rfl, Nat.le_of_ble_eq_true rfl⟩) (fun r1 hr1 => ?_)
      subst hr1
      refine W.eq (g2 := F0 m 5 ls [.null]) rfl ?_
      refine lv_astoreN (lv' := [(4, .null), (0, .ref o), (1, .int dd), (2, .int ff), (3, .int bk)]) hx hb dX8_copy_5 hl (by decide) rfl (fun ls hl => ?_)
      refine lv_aload_n hx hb dX8_copy_7 rfl (lv_at hl 1 rfl) ?_
      refine lv_iload_n hx hb dX8_copy_8 rfl (lv_at hl 3 rfl) ?_
      refine va_csq (W.runV (As := [.int ff]) (rest := []) ⟨hx, hb, hml, hown, hts⟩ (c_logOf_no l G cy L F o qa Mm Dd Sl Pp Kr Bk Xx hR ff hi_ff) (cwV 1 hts gX8_copy_X8_logOf rfl rfl rfl (by decide +kernel) ⟨Nat.le_of_ble_eq_true rfl, Nat.le_of_ble_eq_true rfl⟩) (preV_of okP (⟨hP, hK, hD.top⟩) (pl_recv hK hP (ci := 7) rfl hmo hFo)) rfl rfl hl.1 rfl (lv_room (Nat.le_of_ble_eq_true rfl)) dX8_copy_9 ⟨Nat.le_of_ble_eq_true rfl, Nat.le_of_ble_eq_true rfl⟩) (fun r2 hr2 => ?_)
      subst hr2
      refine W.eq (g2 := F0 m 12 ls [.null]) rfl ?_
      refine lv_astoreN (lv' := [(5, .null), (4, .null), (0, .ref o), (1, .int dd), (2, .int ff), (3, .int bk)]) hx hb dX8_copy_12 hl (by decide) rfl (fun ls hl => ?_)
      refine lv_aloadN hx hb dX8_copy_14 (lv_at hl 1 rfl) ?_
      refine lv_ifnullN (tgt := 24) hx hb dX8_copy_16 (by decide) ?_
      refine lv_sipush (v := -1001) hx hb dX8_copy_24 (by decide) ?_
      exact W.iret (v := -1001) hx hb hr (fun t ht hW => ⟨⟨-1001, F, rfl, (by have hsp : sp_copy Sl Xx dd ff bk = (-1001, Sl, Xx) := (by unfold sp_copy; rw [hi_dd]); rw [hsp]; exact ⟨rfl, hR⟩), (by show va_P _ _ _ t.heap; rw [ht]; exact hP)⟩, hS.F ht⟩) hS.2.2 dX8_copy_27
    · subst ei_ff
      obtain ⟨hml_ff, hmr_ff, hFl_ff, hsz_ff, f_ff, hFr_ff, hokl_ff⟩ := hRG j_ff hj_ff
      refine lv_aload_n hx hb dX8_copy_0 rfl (lv_at hl 0 rfl) ?_
      refine lv_iload_n hx hb dX8_copy_1 rfl (lv_at hl 1 rfl) ?_
      refine va_csq (W.runV (As := [.int dd]) (rest := []) ⟨hx, hb, hml, hown, hts⟩ (c_logOf_no l G cy L F o qa Mm Dd Sl Pp Kr Bk Xx hR dd hi_dd) (cwV 1 hts gX8_copy_X8_logOf rfl rfl rfl (by decide +kernel) ⟨Nat.le_of_ble_eq_true rfl, Nat.le_of_ble_eq_true rfl⟩) (preV_of okP (⟨hP, hK, hD.top⟩) (pl_recv hK hP (ci := 7) rfl hmo hFo)) rfl rfl hl.1 rfl (lv_room (Nat.le_of_ble_eq_true rfl)) dX8_copy_2 ⟨Nat.le_of_ble_eq_true rfl, Nat.le_of_ble_eq_true rfl⟩) (fun r3 hr3 => ?_)
      subst hr3
      refine W.eq (g2 := F0 m 5 ls [.null]) rfl ?_
      refine lv_astoreN (lv' := [(4, .null), (0, .ref o), (1, .int dd), (2, .int (nI j_ff)), (3, .int bk)]) hx hb dX8_copy_5 hl (by decide) rfl (fun ls hl => ?_)
      refine lv_aload_n hx hb dX8_copy_7 rfl (lv_at hl 1 rfl) ?_
      refine lv_iload_n hx hb dX8_copy_8 rfl (lv_at hl 3 rfl) ?_
      refine va_csq (W.runV (As := [.int (nI j_ff)]) (rest := []) ⟨hx, hb, hml, hown, hts⟩ (c_logOf l G cy L F o qa Mm Dd Sl Pp Kr Bk Xx hR j_ff hj_ff) (cwV 1 hts gX8_copy_X8_logOf rfl rfl rfl (by decide +kernel) ⟨Nat.le_of_ble_eq_true rfl, Nat.le_of_ble_eq_true rfl⟩) (preV_of okP (⟨hP, hK, hD.top⟩) (pl_recv hK hP (ci := 7) rfl hmo hFo)) rfl rfl hl.1 rfl (lv_room (Nat.le_of_ble_eq_true rfl)) dX8_copy_9 ⟨Nat.le_of_ble_eq_true rfl, Nat.le_of_ble_eq_true rfl⟩) (fun r4 hr4 => ?_)
      subst hr4
      refine W.eq (g2 := F0 m 12 ls [.ref (qa 2 j_ff)]) rfl ?_
      refine lv_astore (lv' := [(5, .ref (qa 2 j_ff)), (4, .null), (0, .ref o), (1, .int dd), (2, .int (nI j_ff)), (3, .int bk)]) hx hb dX8_copy_12 hl (by decide) rfl (fun ls hl => ?_)
      refine lv_aloadN hx hb dX8_copy_14 (lv_at hl 1 rfl) ?_
      refine lv_ifnullN (tgt := 24) hx hb dX8_copy_16 (by decide) ?_
      refine lv_sipush (v := -1001) hx hb dX8_copy_24 (by decide) ?_
      exact W.iret (v := -1001) hx hb hr (fun t ht hW => ⟨⟨-1001, F, rfl, (by have hsp : sp_copy Sl Xx dd (nI j_ff) bk = (-1001, Sl, Xx) := (by unfold sp_copy; rw [hi_dd]); rw [hsp]; exact ⟨rfl, hR⟩), (by show va_P _ _ _ t.heap; rw [ht]; exact hP)⟩, hS.F ht⟩) hS.2.2 dX8_copy_27
  · subst ei_dd
    obtain ⟨hml_dd, hmr_dd, hFl_dd, hsz_dd, f_dd, hFr_dd, hokl_dd⟩ := hRG j_dd hj_dd
    rcases ixc 8 ff with hi_ff | ⟨j_ff, hj_ff, hi_ff, ei_ff⟩
    · refine lv_aload_n hx hb dX8_copy_0 rfl (lv_at hl 0 rfl) ?_
      refine lv_iload_n hx hb dX8_copy_1 rfl (lv_at hl 1 rfl) ?_
      refine va_csq (W.runV (As := [.int (nI j_dd)]) (rest := []) ⟨hx, hb, hml, hown, hts⟩ (c_logOf l G cy L F o qa Mm Dd Sl Pp Kr Bk Xx hR j_dd hj_dd) (cwV 1 hts gX8_copy_X8_logOf rfl rfl rfl (by decide +kernel) ⟨Nat.le_of_ble_eq_true rfl, Nat.le_of_ble_eq_true rfl⟩) (preV_of okP (⟨hP, hK, hD.top⟩) (pl_recv hK hP (ci := 7) rfl hmo hFo)) rfl rfl hl.1 rfl (lv_room (Nat.le_of_ble_eq_true rfl)) dX8_copy_2 ⟨Nat.le_of_ble_eq_true rfl, Nat.le_of_ble_eq_true rfl⟩) (fun r5 hr5 => ?_)
      subst hr5
      refine W.eq (g2 := F0 m 5 ls [.ref (qa 2 j_dd)]) rfl ?_
      refine lv_astore (lv' := [(4, .ref (qa 2 j_dd)), (0, .ref o), (1, .int (nI j_dd)), (2, .int ff), (3, .int bk)]) hx hb dX8_copy_5 hl (by decide) rfl (fun ls hl => ?_)
      refine lv_aload_n hx hb dX8_copy_7 rfl (lv_at hl 1 rfl) ?_
      refine lv_iload_n hx hb dX8_copy_8 rfl (lv_at hl 3 rfl) ?_
      refine va_csq (W.runV (As := [.int ff]) (rest := []) ⟨hx, hb, hml, hown, hts⟩ (c_logOf_no l G cy L F o qa Mm Dd Sl Pp Kr Bk Xx hR ff hi_ff) (cwV 1 hts gX8_copy_X8_logOf rfl rfl rfl (by decide +kernel) ⟨Nat.le_of_ble_eq_true rfl, Nat.le_of_ble_eq_true rfl⟩) (preV_of okP (⟨hP, hK, hD.top⟩) (pl_recv hK hP (ci := 7) rfl hmo hFo)) rfl rfl hl.1 rfl (lv_room (Nat.le_of_ble_eq_true rfl)) dX8_copy_9 ⟨Nat.le_of_ble_eq_true rfl, Nat.le_of_ble_eq_true rfl⟩) (fun r6 hr6 => ?_)
      subst hr6
      refine W.eq (g2 := F0 m 12 ls [.null]) rfl ?_
      refine lv_astoreN (lv' := [(5, .null), (4, .ref (qa 2 j_dd)), (0, .ref o), (1, .int (nI j_dd)), (2, .int ff), (3, .int bk)]) hx hb dX8_copy_12 hl (by decide) rfl (fun ls hl => ?_)
      refine lv_aload hx hb dX8_copy_14 (lv_at hl 1 rfl) ?_
      refine lv_ifnull hx hb dX8_copy_16 ?_
      refine lv_aloadN hx hb dX8_copy_19 (lv_at hl 0 rfl) ?_
      refine lv_ifnonnullN hx hb dX8_copy_21 ?_
      refine lv_sipush (v := -1001) hx hb dX8_copy_24 (by decide) ?_
      exact W.iret (v := -1001) hx hb hr (fun t ht hW => ⟨⟨-1001, F, rfl, (by have hsp : sp_copy Sl Xx (nI j_dd) ff bk = (-1001, Sl, Xx) := (by unfold sp_copy; rw [hi_dd, hi_ff]); rw [hsp]; exact ⟨rfl, hR⟩), (by show va_P _ _ _ t.heap; rw [ht]; exact hP)⟩, hS.F ht⟩) hS.2.2 dX8_copy_27
    · subst ei_ff
      obtain ⟨hml_ff, hmr_ff, hFl_ff, hsz_ff, f_ff, hFr_ff, hokl_ff⟩ := hRG j_ff hj_ff
      refine lv_aload_n hx hb dX8_copy_0 rfl (lv_at hl 0 rfl) ?_
      refine lv_iload_n hx hb dX8_copy_1 rfl (lv_at hl 1 rfl) ?_
      refine va_csq (W.runV (As := [.int (nI j_dd)]) (rest := []) ⟨hx, hb, hml, hown, hts⟩ (c_logOf l G cy L F o qa Mm Dd Sl Pp Kr Bk Xx hR j_dd hj_dd) (cwV 1 hts gX8_copy_X8_logOf rfl rfl rfl (by decide +kernel) ⟨Nat.le_of_ble_eq_true rfl, Nat.le_of_ble_eq_true rfl⟩) (preV_of okP (⟨hP, hK, hD.top⟩) (pl_recv hK hP (ci := 7) rfl hmo hFo)) rfl rfl hl.1 rfl (lv_room (Nat.le_of_ble_eq_true rfl)) dX8_copy_2 ⟨Nat.le_of_ble_eq_true rfl, Nat.le_of_ble_eq_true rfl⟩) (fun r7 hr7 => ?_)
      subst hr7
      refine W.eq (g2 := F0 m 5 ls [.ref (qa 2 j_dd)]) rfl ?_
      refine lv_astore (lv' := [(4, .ref (qa 2 j_dd)), (0, .ref o), (1, .int (nI j_dd)), (2, .int (nI j_ff)), (3, .int bk)]) hx hb dX8_copy_5 hl (by decide) rfl (fun ls hl => ?_)
      refine lv_aload_n hx hb dX8_copy_7 rfl (lv_at hl 1 rfl) ?_
      refine lv_iload_n hx hb dX8_copy_8 rfl (lv_at hl 3 rfl) ?_
      refine va_csq (W.runV (As := [.int (nI j_ff)]) (rest := []) ⟨hx, hb, hml, hown, hts⟩ (c_logOf l G cy L F o qa Mm Dd Sl Pp Kr Bk Xx hR j_ff hj_ff) (cwV 1 hts gX8_copy_X8_logOf rfl rfl rfl (by decide +kernel) ⟨Nat.le_of_ble_eq_true rfl, Nat.le_of_ble_eq_true rfl⟩) (preV_of okP (⟨hP, hK, hD.top⟩) (pl_recv hK hP (ci := 7) rfl hmo hFo)) rfl rfl hl.1 rfl (lv_room (Nat.le_of_ble_eq_true rfl)) dX8_copy_9 ⟨Nat.le_of_ble_eq_true rfl, Nat.le_of_ble_eq_true rfl⟩) (fun r8 hr8 => ?_)
      subst hr8
      refine W.eq (g2 := F0 m 12 ls [.ref (qa 2 j_ff)]) rfl ?_
      refine lv_astore (lv' := [(5, .ref (qa 2 j_ff)), (4, .ref (qa 2 j_dd)), (0, .ref o), (1, .int (nI j_dd)), (2, .int (nI j_ff)), (3, .int bk)]) hx hb dX8_copy_12 hl (by decide) rfl (fun ls hl => ?_)
      refine lv_aload hx hb dX8_copy_14 (lv_at hl 1 rfl) ?_
      refine lv_ifnull hx hb dX8_copy_16 ?_
      refine lv_aload hx hb dX8_copy_19 (lv_at hl 0 rfl) ?_
      refine lv_ifnonnull (tgt := 28) hx hb dX8_copy_21 (by decide) ?_
      refine lv_aload hx hb dX8_copy_28 (lv_at hl 1 rfl) ?_
      refine pg_get (ci := 3) (C := RX3) (T := TX3) (N := 3) hx hb hts hinX3 hown hK hP hml_dd hFl_dd rfl 1 (by decide) (hts (.fieldLink RX8 216 "RopeDrums$Log" "lane" "I") (by decide +kernel)) (fun _ h9 => h9) rfl dX8_copy_30 ?_
      refine lv_iconst (v := 3) hx hb dX8_copy_33 (by decide) ?_
      refine lv_icmp_ne (tgt := 46) hx hb dX8_copy_34 (by decide) (fun c9 => ?_) (fun c9 => ?_)
      · refine lv_sipush (v := -1001) hx hb dX8_copy_46 (by decide) ?_
        exact W.iret (v := -1001) hx hb hr (fun t ht hW => ⟨⟨-1001, F, rfl, (by have hsp : sp_copy Sl Xx (nI j_dd) (nI j_ff) bk = (-1001, Sl, Xx) := (by unfold sp_copy; rw [hi_dd, hi_ff]; exact if_neg (fun q => c9 ((lw3 _).mpr q.1))); rw [hsp]; exact ⟨rfl, hR⟩), (by show va_P _ _ _ t.heap; rw [ht]; exact hP)⟩, hS.F ht⟩) hS.2.2 dX8_copy_49
      · refine lv_aload hx hb dX8_copy_37 (lv_at hl 0 rfl) ?_
        refine pg_get (ci := 3) (C := RX3) (T := TX3) (N := 3) hx hb hts hinX3 hown hK hP hml_ff hFl_ff rfl 1 (by decide) (hts (.fieldLink RX8 216 "RopeDrums$Log" "lane" "I") (by decide +kernel)) (fun _ h9 => h9) rfl dX8_copy_39 ?_
        refine lv_iconst (v := 2) hx hb dX8_copy_42 (by decide) ?_
        refine lv_icmp_eq (tgt := 50) hx hb dX8_copy_43 (by decide) (fun c10 => ?_) (fun c10 => ?_)
        · refine lv_iload_n hx hb dX8_copy_50 rfl (lv_at hl 5 rfl) ?_
          refine lv_if_eq (tgt := 65) hx hb dX8_copy_51 (by decide) (fun c11 => ?_) (fun c11 => ?_)
          · refine lv_aload_n hx hb dX8_copy_65 rfl (lv_at hl 2 rfl) ?_
            refine lv_aload hx hb dX8_copy_66 (lv_at hl 1 rfl) ?_
            refine lv_aload hx hb dX8_copy_68 (lv_at hl 0 rfl) ?_
            refine va_calli (va_runV (As := [.ref (qa 2 j_dd), .ref (qa 2 j_ff)]) (rest := []) ⟨hx, hb, hml, hown, hts⟩ (c_copyPlaces l G cy L F s.heap.size o qa Mm Dd Sl Pp Kr Bk Xx hR j_dd j_ff hj_dd hj_ff (by have h1 := (lw3 j_dd).mp c9; have h2 := (lw2 j_ff).mp c10; omega)) (cwV 2 hts gX8_copy_X8_copyPlaces rfl rfl rfl (by decide +kernel) ⟨Nat.le_of_ble_eq_true rfl, Nat.le_of_ble_eq_true rfl⟩) (preV_of okQ (⟨rfl, hP, hK, hD.top⟩) (pl_recv hK hP (ci := 7) rfl hmo hFo)) rfl rfl hl.1 rfl (lv_room (Nat.le_of_ble_eq_true rfl)) dX8_copy_70 ⟨Nat.le_of_ble_eq_true rfl, Nat.le_of_ble_eq_true rfl⟩) hS (fun q _ h => pl_free hD hS hA q h) (pl_free hD hS hA) (fun r13 F12 t H1 locs ht hvm hw hP1 hz1 hk1 hS => ?_)
            have hP1 : va_P G vwCl (va_pl L F12) t.heap := hP1
            rw [ht] at hP1
            have hP := hP1
            generalize H1 = H at hP hS ⊢
            obtain ⟨hqr13, hR14⟩ := hw
            exact W.iret (v := r13) hx hb hr (fun t ht hW => ⟨⟨r13, F12, rfl, (by have hsp : sp_copy Sl Xx (nI j_dd) (nI j_ff) bk = cp Sl Xx j_dd j_ff := (by unfold sp_copy; rw [hi_dd, hi_ff]; exact (if_pos ⟨(lw3 _).mp c9, (lw2 _).mp c10⟩).trans (if_pos c11)); rw [hsp]; exact ⟨hqr13, hR14⟩), (by show va_P _ _ _ t.heap; rw [ht]; exact hP)⟩, hS.F ht⟩) hS.2.2 dX8_copy_73
          · refine lv_aload_n hx hb dX8_copy_54 rfl (lv_at hl 2 rfl) ?_
            refine lv_aload hx hb dX8_copy_55 (lv_at hl 0 rfl) ?_
            refine lv_aload hx hb dX8_copy_57 (lv_at hl 1 rfl) ?_
            refine va_calli (va_runV (As := [.ref (qa 2 j_ff), .ref (qa 2 j_dd)]) (rest := []) ⟨hx, hb, hml, hown, hts⟩ (c_copyPlaces l G cy L F s.heap.size o qa Mm Dd Sl Pp Kr Bk Xx hR j_ff j_dd hj_ff hj_dd (by have h1 := (lw3 j_dd).mp c9; have h2 := (lw2 j_ff).mp c10; omega)) (cwV 2 hts gX8_copy_X8_copyPlaces rfl rfl rfl (by decide +kernel) ⟨Nat.le_of_ble_eq_true rfl, Nat.le_of_ble_eq_true rfl⟩) (preV_of okQ (⟨rfl, hP, hK, hD.top⟩) (pl_recv hK hP (ci := 7) rfl hmo hFo)) rfl rfl hl.1 rfl (lv_room (Nat.le_of_ble_eq_true rfl)) dX8_copy_59 ⟨Nat.le_of_ble_eq_true rfl, Nat.le_of_ble_eq_true rfl⟩) hS (fun q _ h => pl_free hD hS hA q h) (pl_free hD hS hA) (fun r16 F15 t H1 locs ht hvm hw hP1 hz1 hk1 hS => ?_)
            have hP1 : va_P G vwCl (va_pl L F15) t.heap := hP1
            rw [ht] at hP1
            have hP := hP1
            generalize H1 = H at hP hS ⊢
            obtain ⟨hqr16, hR17⟩ := hw
            refine lv_goto (tgt := 73) hx hb dX8_copy_62 (by decide) ?_
            exact W.iret (v := r16) hx hb hr (fun t ht hW => ⟨⟨r16, F15, rfl, (by have hsp : sp_copy Sl Xx (nI j_dd) (nI j_ff) bk = cp Sl Xx j_ff j_dd := (by unfold sp_copy; rw [hi_dd, hi_ff]; exact (if_pos ⟨(lw3 _).mp c9, (lw2 _).mp c10⟩).trans (if_neg c11)); rw [hsp]; exact ⟨hqr16, hR17⟩), (by show va_P _ _ _ t.heap; rw [ht]; exact hP)⟩, hS.F ht⟩) hS.2.2 dX8_copy_73
        · refine lv_sipush (v := -1001) hx hb dX8_copy_46 (by decide) ?_
          exact W.iret (v := -1001) hx hb hr (fun t ht hW => ⟨⟨-1001, F, rfl, (by have hsp : sp_copy Sl Xx (nI j_dd) (nI j_ff) bk = (-1001, Sl, Xx) := (by unfold sp_copy; rw [hi_dd, hi_ff]; exact if_neg (fun q => c10 ((lw2 _).mpr q.2))); rw [hsp]; exact ⟨rfl, hR⟩), (by show va_P _ _ _ t.heap; rw [ht]; exact hP)⟩, hS.F ht⟩) hS.2.2 dX8_copy_49
