def fz (n : Nat) (z : UInt64) (f : Nat → UInt64) (k : Nat) : Nat → UInt64 := fun i => if i < k then z else f i
theorem fz0 (n : Nat) (z : UInt64) (f : Nat → UInt64) : fz n z f 0 = f := by funext i; simp [fz]
theorem fzs (n : Nat) (z : UInt64) (f : Nat → UInt64) (k : Nat) (hk : k < 2 ^ 31) : vf_upd (fz n z f k) (nI k).toNatClampNeg z = fz n z f (k + 1) := by
  funext i
  rw [nI_clamp hk]
  unfold vf_upd fz
  by_cases h1 : i = k
  · rw [if_pos h1, if_pos (by omega)]
  · rw [if_neg h1]
    by_cases h2 : i < k
    · rw [if_pos h2, if_pos (by omega)]
    · rw [if_neg h2, if_neg (by omega)]

set_option maxHeartbeats 8000000 in
set_option maxRecDepth 100000 in
theorem c_fill (l : Launch) (G : va_G) (cy : Nat → ClassId) (L : List Nat) (F : Nat → va_E) (sz : Nat) (a : Nat) (f : Nat → UInt64) (z : UInt64) (hma : a ∈ L) (hFa : F a = cD (cy 0) 16 f)  : Met l yJ7_fill_7f8df wsJ7_fill_7f8df ({ frames := 0, cells := 0, slots := 0, locals := 0 }) (va_Pc [.ref a, .double z] (fun U => bQ G cy L F sz U U.heap)) (va_Qv (fun F' : Nat → va_E => F' = va_up F a (cD (cy 0) 16 (fz 16 z f 16))) (fun F' t => va_P G vwCl (va_pl L F') t.heap) (va_A (va_pl L F) sz)) 0 0 (va_A (va_pl L F) sz) := by
  refine Met.ofW (cc := cJ7_fill_7f8df) (maxL := 5) (ret := none) (by decide) rfl ?_
  intro p e s m args below meth c s₁ B hml hv
  obtain ⟨rfl, hsz, hP, hK, hD0⟩ := hv
  have hx := B.exec
  have hb := B.bytes
  have hr := B.returns
  have hts := atoms_spec (ws := wsJ7_fill_7f8df) B.pre
  have hown : s.vm.findClass RJ7 = some m.cls := findClass_of_methodNamed B.named
  have hlocks := B.notSynchronized
  subst hsz
  have hD := hD0.self F s.heap.size
  generalize hAe : va_A (va_pl L F) s.heap.size = A at hD ⊢
  have hA : ∀ q : Nat, s.heap.size ≤ q → A q := fun q h => by rw [← hAe]; exact Or.inr h
  have hS : va_S A s.heap s.heap [] := va_S.rf
  have hl := lv_entry ([.ref a, .double z]) (n := 5) (Nat.le_of_ble_eq_true rfl)
  rw [lg_entry_eq]
  generalize (lg_sl ([.ref a, .double z]) ++ List.replicate (5 - (lg_sl ([.ref a, .double z])).length) Slot.unset).toArray = ls at hl ⊢
  have hl : lv_has ls 5 [(0, .ref a), (1, .double z)] := hl
  refine lv_iconst (v := 0) hx hb dJ7_fill_7f8df_0 (by decide) ?_
  refine lv_istore_n (lv' := [(3, .int 0), (0, .ref a), (1, .double z)]) hx hb dJ7_fill_7f8df_1 rfl hl (by decide) rfl (fun ls hl => ?_)
  refine lv_aload_n hx hb dJ7_fill_7f8df_2 rfl (lv_at hl 1 rfl) ?_
  refine pg_alen (v := 16) hx hb hK hP 0 hma hFa rfl rfl dJ7_fill_7f8df_3 ?_
  refine lv_istore (lv' := [(4, .int 16), (3, .int 0), (0, .ref a), (1, .double z)]) hx hb dJ7_fill_7f8df_4 hl (by decide) rfl (fun ls hl => ?_)
  refine lp_w (pc := 6) (nL := 5) (α := Nat) (fun xx => xx ≤ 16) (fun xx => [(4, .int 16), (3, .int (nI xx)), (0, .ref a), (1, .double z)]) (fun xx => va_pl L (va_up F a (cD (cy 0) 16 (fz 16 z f xx)))) (fun xx => 16 - xx) (fun kk ls H locs hI hP hS hl K => ?_) 0 ls (by decide) (by rw [show va_up F a (cD (cy 0) 16 (fz 16 z f 0)) = F from (by rw [fz0]; exact upid hFa)]; exact hP) hS (lv_sub hl [0, 1, 2, 3] rfl)
  obtain ⟨F1, eF1⟩ : ∃ y : Nat → va_E, y = va_up F a (cD (cy 0) 16 (fz 16 z f kk)) := ⟨_, rfl⟩
  rw [← eF1] at hP
  have hFa_1 : F1 a = cD (cy 0) 16 (fz 16 z f kk) := by rw [eF1]; exact va_up_self _ _ _
  have hl : lv_has ls 5 [(4, .int 16), (3, .int (nI kk)), (0, .ref a), (1, .double z)] := hl
  refine lv_iload_n hx hb dJ7_fill_7f8df_6 rfl (lv_at hl 1 rfl) ?_
  refine lv_iload hx hb dJ7_fill_7f8df_7 (lv_at hl 0 rfl) ?_
  refine lv_icmp_ge (tgt := 22) hx hb dJ7_fill_7f8df_9 (by decide) (fun c2 => ?_) (fun c2 => ?_)
  · exact W.vret hx hb hr (fun t ht hW => ⟨⟨F1, rfl, (by have hge : kk = 16 := (by have hc := c2; rw [fa_le, nI_toInt (by omega)] at hc; have h7 : (16 : Int32).toInt = 16 := (by decide); omega); subst hge; rw [eF1]), (by show va_P _ _ _ t.heap; rw [ht]; exact hP)⟩, hS.F ht⟩) hS.2.2 dJ7_fill_7f8df_22
  · have hlt : kk < 16 := by have hc := c2; rw [fa_le, nI_toInt (by omega)] at hc; have h7 : (16 : Int32).toInt = 16 := (by decide); omega
    refine lv_aload_n hx hb dJ7_fill_7f8df_12 rfl (lv_at hl 2 rfl) ?_
    refine lv_iload_n hx hb dJ7_fill_7f8df_13 rfl (lv_at hl 1 rfl) ?_
    refine lv_dload_n hx hb dJ7_fill_7f8df_14 rfl (lv_at hl 3 rfl) ?_
    refine pg_dast hx hb hK hP hD hS 0 hma hFa_1 rfl (vp_in_nI hlt (by decide)) dJ7_fill_7f8df_15 (fun H locs F3 eF3 hP hS => ?_)
    have hFa_3 : F3 a = cD (cy 0) 16 (vf_upd (fz 16 z f kk) (nI kk : Int32).toNatClampNeg z) := by rw [eF3]; exact va_up_self _ _ _
    obtain ⟨v4, ev4⟩ : ∃ y : Int32, y = (nI kk) + (1) := ⟨_, rfl⟩
    refine lv_iinc (v := v4) (lv' := [(3, .int v4), (4, .int 16), (0, .ref a), (1, .double z)]) hx hb dJ7_fill_7f8df_16 hl (k := 1) rfl (by rw [ev4]; rfl) (by decide) rfl (fun ls hl => ?_)
    refine lv_goto (tgt := 6) hx hb dJ7_fill_7f8df_19 (by decide) ?_
    have hv : v4 = nI (kk + 1) := by rw [ev4, nI_succ]
    rw [hv] at hl
    exact K (kk + 1) ls H locs (by omega) (by omega) (by rw [← show F3 = va_up F a (cD (cy 0) 16 (fz 16 z f (kk + 1))) from (by rw [eF3, eF1, upup]; exact congrArg (fun x => va_up F a (cD (cy 0) 16 x)) (fzs 16 z f kk (by omega)))]; exact hP) hS (lv_sub hl [1, 0, 2, 3] rfl)

set_option maxHeartbeats 8000000 in
set_option maxRecDepth 100000 in
theorem m_log (l : Launch) (G : va_G) (cy : Nat → ClassId) (L : List Nat) (F : Nat → va_E) (ad : Nat → Nat) (sz : Nat) (o : Nat) (qa : Nat → Nat → Nat) (Mm : SM) (Dd : SD) (Sl : SL) (Pp : SP) (Kr : SR) (Bk : SB) (Xx : SX) (hR : Rep cy L o qa Mm Dd Sl Pp Kr Bk Xx F) (lg n : Int32)  : Met l yX8_log wsX8_log ({ frames := 1, cells := 0, slots := 0, locals := 24 }) (va_Pc [.ref o, .int lg, .int n] (fun U => bQE G cy L F ad sz U U.heap)) (va_Qi (fun (r : Int32) (F' : Nat → va_E) => r = (sp_log Sl lg n).1 ∧ Rep cy L o qa Mm Dd (sp_log Sl lg n).2 Pp Kr Bk Xx F') (fun F' t => va_P G vwCl (va_pl L F') t.heap) (va_A (va_pl L F) sz)) 0 0 (va_A (va_pl L F) sz) := by
  refine Met.ofW (cc := cX8_log) (maxL := 4) (ret := (some .int)) (by decide) rfl ?_
  intro p e s m args below meth c s₁ B hml hv
  obtain ⟨rfl, ⟨hsz, hP, hK, hD0⟩, hE, hN⟩ := hv
  have hx := B.exec
  have hb := B.bytes
  have hr := B.returns
  have hts := atoms_spec (ws := wsX8_log) B.pre
  have hown : s.vm.findClass RX8 = some m.cls := findClass_of_methodNamed B.named
  have hlocks := B.notSynchronized
  have hinX8 : ∀ w ∈ wsX80, w ∈ wsX8_log := by decide +kernel
  have hinX3 : ∀ w ∈ wsX30, w ∈ wsX8_log := by decide +kernel
  subst hsz
  have hD := hD0.self F s.heap.size
  generalize hAe : va_A (va_pl L F) s.heap.size = A at hD hE ⊢
  have hA : ∀ q : Nat, s.heap.size ≤ q → A q := fun q h => by rw [← hAe]; exact Or.inr h
  have hS : va_S A s.heap s.heap [] := va_S.rf
  obtain ⟨⟨⟨hmo, hFo⟩, ⟨hmf, hFf⟩, hms, hFs⟩, ⟨⟨hm0, hF0⟩, ⟨hm1, hF1⟩, ⟨hm2, hF2⟩, ⟨hm4, hF4⟩, hm5, hF5⟩, hRM, hRD, hRG, hRP, hRR, hRB, hRI⟩ := id hR
  have hl := lv_entry ([.ref o, .int lg, .int n]) (n := 4) (Nat.le_of_ble_eq_true rfl)
  rw [lg_entry_eq]
  generalize (lg_sl ([.ref o, .int lg, .int n]) ++ List.replicate (4 - (lg_sl ([.ref o, .int lg, .int n])).length) Slot.unset).toArray = ls at hl ⊢
  have hl : lv_has ls 4 [(0, .ref o), (1, .int lg), (2, .int n)] := hl
  rcases ixc 8 lg with hi_lg | ⟨j_lg, hj_lg, hi_lg, ei_lg⟩
  · refine lv_aload_n hx hb dX8_log_0 rfl (lv_at hl 0 rfl) ?_
    refine lv_iload_n hx hb dX8_log_1 rfl (lv_at hl 1 rfl) ?_
    refine va_csq (W.runV (As := [.int lg]) (rest := []) ⟨hx, hb, hml, hown, hts⟩ (c_logOf_no l G cy L F o qa Mm Dd Sl Pp Kr Bk Xx hR lg hi_lg) (cwV 1 hts gX8_log_X8_logOf rfl rfl rfl (by decide +kernel) ⟨Nat.le_of_ble_eq_true rfl, Nat.le_of_ble_eq_true rfl⟩) (preV_of okP (⟨hP, hK, hD.top⟩) (pl_recv hK hP (ci := 7) rfl hmo hFo)) rfl rfl hl.1 rfl (lv_room (Nat.le_of_ble_eq_true rfl)) dX8_log_2 ⟨Nat.le_of_ble_eq_true rfl, Nat.le_of_ble_eq_true rfl⟩) (fun r1 hr1 => ?_)
    subst hr1
    refine W.eq (g2 := F0 m 5 ls [.null]) rfl ?_
    refine lv_astore_nN (lv' := [(3, .null), (0, .ref o), (1, .int lg), (2, .int n)]) hx hb dX8_log_5 rfl hl (by decide) rfl (fun ls hl => ?_)
    refine lv_aload_nN hx hb dX8_log_6 rfl (lv_at hl 0 rfl) ?_
    refine lv_ifnonnullN hx hb dX8_log_7 ?_
    refine lv_sipush (v := -1001) hx hb dX8_log_10 (by decide) ?_
    exact W.iret (v := -1001) hx hb hr (fun t ht hW => ⟨⟨-1001, F, rfl, (by have hsp : sp_log Sl lg n = (-1001, Sl) := (by unfold sp_log; rw [hi_lg]); rw [hsp]; exact ⟨rfl, hR⟩), (by show va_P _ _ _ t.heap; rw [ht]; exact hP)⟩, hS.F ht⟩) hS.2.2 dX8_log_13
  · subst ei_lg
    obtain ⟨hml_lg, hmr_lg, hFl_lg, hsz_lg, f_lg, hFr_lg, hokl_lg⟩ := hRG j_lg hj_lg
    refine lv_aload_n hx hb dX8_log_0 rfl (lv_at hl 0 rfl) ?_
    refine lv_iload_n hx hb dX8_log_1 rfl (lv_at hl 1 rfl) ?_
    refine va_csq (W.runV (As := [.int (nI j_lg)]) (rest := []) ⟨hx, hb, hml, hown, hts⟩ (c_logOf l G cy L F o qa Mm Dd Sl Pp Kr Bk Xx hR j_lg hj_lg) (cwV 1 hts gX8_log_X8_logOf rfl rfl rfl (by decide +kernel) ⟨Nat.le_of_ble_eq_true rfl, Nat.le_of_ble_eq_true rfl⟩) (preV_of okP (⟨hP, hK, hD.top⟩) (pl_recv hK hP (ci := 7) rfl hmo hFo)) rfl rfl hl.1 rfl (lv_room (Nat.le_of_ble_eq_true rfl)) dX8_log_2 ⟨Nat.le_of_ble_eq_true rfl, Nat.le_of_ble_eq_true rfl⟩) (fun r2 hr2 => ?_)
    subst hr2
    refine W.eq (g2 := F0 m 5 ls [.ref (qa 2 j_lg)]) rfl ?_
    refine lv_astore_n (lv' := [(3, .ref (qa 2 j_lg)), (0, .ref o), (1, .int (nI j_lg)), (2, .int n)]) hx hb dX8_log_5 rfl hl (by decide) rfl (fun ls hl => ?_)
    refine lv_aload_n hx hb dX8_log_6 rfl (lv_at hl 0 rfl) ?_
    refine lv_ifnonnull (tgt := 14) hx hb dX8_log_7 (by decide) ?_
    refine lv_iload_n hx hb dX8_log_14 rfl (lv_at hl 3 rfl) ?_
    refine lv_iconst (v := -1) hx hb dX8_log_15 (by decide) ?_
    refine lv_icmp_lt (tgt := 25) hx hb dX8_log_16 (by decide) (fun c3 => ?_) (fun c3 => ?_)
    · refine lv_sipush (v := -1002) hx hb dX8_log_25 (by decide) ?_
      exact W.iret (v := -1002) hx hb hr (fun t ht hW => ⟨⟨-1002, F, rfl, (by have hsp : sp_log Sl (nI j_lg) n = (-1002, Sl) := (by unfold sp_log; rw [hi_lg]; exact if_neg (by intro hq; have hc := c3; have h1 : (-1 : Int32).toInt = -1 := (by decide); have h16 : (16 : Int32).toInt = 16 := (by decide); rw [fa_lt] at hc; omega)); rw [hsp]; exact ⟨rfl, hR⟩), (by show va_P _ _ _ t.heap; rw [ht]; exact hP)⟩, hS.F ht⟩) hS.2.2 dX8_log_28
    · refine lv_iload_n hx hb dX8_log_19 rfl (lv_at hl 3 rfl) ?_
      refine lv_bipush (v := 16) hx hb dX8_log_20 (by decide) ?_
      refine lv_icmp_le (tgt := 29) hx hb dX8_log_22 (by decide) (fun c4 => ?_) (fun c4 => ?_)
      · refine lv_aload_n hx hb dX8_log_29 rfl (lv_at hl 0 rfl) ?_
        refine pg_get (ci := 3) (C := RX3) (T := TX3) (N := 3) hx hb hts hinX3 hown hK hP hml_lg hFl_lg rfl 2 (by decide) (hts (.fieldLink RX8 200 "RopeDrums$Log" "row" "[D") (by decide +kernel)) (fun _ h9 => h9) rfl dX8_log_30 ?_
        refine lv_dconst0 hx hb dX8_log_33 ?_
        refine va_callv (va_runS (As := [.ref (qa 3 j_lg), .double FP.dconst0]) (rest := []) ⟨hx, hb, hml, hown, hts⟩ (c_fill l G cy L F s.heap.size (qa 3 j_lg) f_lg FP.dconst0 hmr_lg hFr_lg) (va_cwS 2 hts gX8_log_J7_fill_7f8df rfl rfl rfl (by decide +kernel) ⟨Nat.le_of_ble_eq_true rfl, Nat.le_of_ble_eq_true rfl⟩) (preS_of okQ (⟨rfl, hP, hK, hD.top⟩)) rfl rfl hl.1 rfl (lv_room (Nat.le_of_ble_eq_true rfl)) dX8_log_34 ⟨Nat.le_of_ble_eq_true rfl, Nat.le_of_ble_eq_true rfl⟩) hS (fun q _ h => pl_free hD hS hA q h) (pl_free hD hS hA) (fun F5 t H1 locs ht hvm hw hP1 hz1 hk1 hS => ?_)
        have hP1 : va_P G vwCl (va_pl L F5) t.heap := hP1
        rw [ht] at hP1
        have hP := hP1
        generalize H1 = H at hP hS ⊢
        have eF5 : F5 = va_up F (qa 3 j_lg) (cD (cy 0) 16 (fz 16 FP.dconst0 f_lg 16)) := hw
        have hFo_5 : F5 o = .inr (7, [.ref (qa 8 0), .ref (qa 8 1), .ref (qa 8 2), .ref (qa 8 3), .ref (qa 8 4), .ref (qa 8 5), .ref (qa 8 6), .int Pp.1, .int Xx.1]) := by rw [eF5, va_up_ne _ _ (pl_ne hFo hFr_lg rfl)]; exact hFo
        have hFqa80_5 : F5 (qa 8 0) = cQ (cy 7) 10 (pR 10 (qa 0)) := by rw [eF5, va_up_ne _ _ (pl_ne hF0 hFr_lg rfl)]; exact hF0
        have hFqa81_5 : F5 (qa 8 1) = cQ (cy 5) 6 (pR 6 (qa 1)) := by rw [eF5, va_up_ne _ _ (pl_ne hF1 hFr_lg rfl)]; exact hF1
        have hFqa82_5 : F5 (qa 8 2) = cQ (cy 6) 8 (pR 8 (qa 2)) := by rw [eF5, va_up_ne _ _ (pl_ne hF2 hFr_lg rfl)]; exact hF2
        have hFqa83_5 : F5 (qa 8 3) = cQ (cy 9) 30 (pR Pp.1.toInt.toNat (qa 7)) := by rw [eF5, va_up_ne _ _ (pl_ne hFs hFr_lg rfl)]; exact hFs
        have hFqa84_5 : F5 (qa 8 4) = cQ (cy 8) 5 (pR 5 (qa 4)) := by rw [eF5, va_up_ne _ _ (pl_ne hF4 hFr_lg rfl)]; exact hF4
        have hFqa85_5 : F5 (qa 8 5) = cQ (cy 4) 4 (pR 4 (qa 6)) := by rw [eF5, va_up_ne _ _ (pl_ne hF5 hFr_lg rfl)]; exact hF5
        have hFqa86_5 : F5 (qa 8 6) = cI (cy 1) 6 Xx.2 := by rw [eF5, va_up_ne _ _ (pl_ne hFf hFr_lg rfl)]; exact hFf
        have hFqa2j_lg_5 : F5 (qa 2 j_lg) = .inr (3, [.int (Sl.1 j_lg), .int (lw j_lg), .ref (qa 3 j_lg)]) := by rw [eF5, va_up_ne _ _ (pl_ne hFl_lg hFr_lg rfl)]; exact hFl_lg
        have hFqa3j_lg_5 : F5 (qa 3 j_lg) = cD (cy 0) 16 (fz 16 FP.dconst0 f_lg 16) := by rw [eF5]; exact va_up_self _ _ _
        refine lv_aload_n hx hb dX8_log_37 rfl (lv_at hl 0 rfl) ?_
        refine lv_iload_n hx hb dX8_log_38 rfl (lv_at hl 3 rfl) ?_
        refine pg_put (ci := 3) (v := .int n) (ty := .int) (C := RX3) (T := TX3) (N := 3) hx hb hts hinX3 tyX3 tyX3_ok nmX3 hown hK hP hD hS hml_lg hFqa2j_lg_5 rfl 0 (by decide) (hts (.fieldLink RX8 210 "RopeDrums$Log" "size" "I") (by decide +kernel)) (fun x h9 => u_same (hts (.sameField "RopeDrums$Log" "RopeDrums$Places" "size" "I") (by decide +kernel)) x h9) rfl (by decide +kernel) (rfl) (rfl) (Nat.le_of_ble_eq_true rfl) dX8_log_39 (fun H locs F6 eF6 hP hS => ?_)
        have eF6 : F6 = va_up F5 (qa 2 j_lg) (.inr (3, [.int n, .int (lw j_lg), .ref (qa 3 j_lg)])) := eF6
        have hFo_6 : F6 o = .inr (7, [.ref (qa 8 0), .ref (qa 8 1), .ref (qa 8 2), .ref (qa 8 3), .ref (qa 8 4), .ref (qa 8 5), .ref (qa 8 6), .int Pp.1, .int Xx.1]) := by rw [eF6, va_up_ne _ _ (pl_ne hFo_5 hFqa2j_lg_5 rfl)]; exact hFo_5
        have hFqa80_6 : F6 (qa 8 0) = cQ (cy 7) 10 (pR 10 (qa 0)) := by rw [eF6, va_up_ne _ _ (pl_ne hFqa80_5 hFqa2j_lg_5 rfl)]; exact hFqa80_5
        have hFqa81_6 : F6 (qa 8 1) = cQ (cy 5) 6 (pR 6 (qa 1)) := by rw [eF6, va_up_ne _ _ (pl_ne hFqa81_5 hFqa2j_lg_5 rfl)]; exact hFqa81_5
        have hFqa82_6 : F6 (qa 8 2) = cQ (cy 6) 8 (pR 8 (qa 2)) := by rw [eF6, va_up_ne _ _ (pl_ne hFqa82_5 hFqa2j_lg_5 rfl)]; exact hFqa82_5
        have hFqa83_6 : F6 (qa 8 3) = cQ (cy 9) 30 (pR Pp.1.toInt.toNat (qa 7)) := by rw [eF6, va_up_ne _ _ (pl_ne hFqa83_5 hFqa2j_lg_5 rfl)]; exact hFqa83_5
        have hFqa84_6 : F6 (qa 8 4) = cQ (cy 8) 5 (pR 5 (qa 4)) := by rw [eF6, va_up_ne _ _ (pl_ne hFqa84_5 hFqa2j_lg_5 rfl)]; exact hFqa84_5
        have hFqa85_6 : F6 (qa 8 5) = cQ (cy 4) 4 (pR 4 (qa 6)) := by rw [eF6, va_up_ne _ _ (pl_ne hFqa85_5 hFqa2j_lg_5 rfl)]; exact hFqa85_5
        have hFqa86_6 : F6 (qa 8 6) = cI (cy 1) 6 Xx.2 := by rw [eF6, va_up_ne _ _ (pl_ne hFqa86_5 hFqa2j_lg_5 rfl)]; exact hFqa86_5
        have hFqa2j_lg_6 : F6 (qa 2 j_lg) = .inr (3, [.int n, .int (lw j_lg), .ref (qa 3 j_lg)]) := by rw [eF6]; exact va_up_self _ _ _
        have hFqa3j_lg_6 : F6 (qa 3 j_lg) = cD (cy 0) 16 (fz 16 FP.dconst0 f_lg 16) := by rw [eF6, va_up_ne _ _ (pl_ne hFqa3j_lg_5 hFqa2j_lg_5 rfl)]; exact hFqa3j_lg_5
        refine lv_iconst (v := 1) hx hb dX8_log_42 (by decide) ?_
        exact W.iret (v := 1) hx hb hr (fun t ht hW => ⟨⟨1, F6, rfl, (by have hn : -1 ≤ n.toInt ∧ n.toInt ≤ 16 := (by have hc1 := c3; have hc2 := c4; have h1 : (-1 : Int32).toInt = -1 := (by decide); have h16 : (16 : Int32).toInt = 16 := (by decide); rw [fa_lt] at hc1; rw [fa_le] at hc2; omega); have hsp : sp_log Sl (nI j_lg) n = (1, upd Sl.1 j_lg n, zr Sl.2 (16 * j_lg) n.toInt.toNat) := (by unfold sp_log; rw [hi_lg]; exact if_pos hn); rw [hsp]; exact ⟨rfl, by rw [eF6, eF5]; exact hR.logz hj_lg hn (fun x hx => by unfold zr; exact if_neg (by omega)) (fun i hi => by unfold zr fz; rw [if_pos (by omega), if_pos (by omega)]; exact okR_zero _ (lwc _))⟩), (by show va_P _ _ _ t.heap; rw [ht]; exact hP)⟩, hS.F ht⟩) hS.2.2 dX8_log_43
      · refine lv_sipush (v := -1002) hx hb dX8_log_25 (by decide) ?_
        exact W.iret (v := -1002) hx hb hr (fun t ht hW => ⟨⟨-1002, F, rfl, (by have hsp : sp_log Sl (nI j_lg) n = (-1002, Sl) := (by unfold sp_log; rw [hi_lg]; exact if_neg (by intro hq; have hc := c4; have h1 : (-1 : Int32).toInt = -1 := (by decide); have h16 : (16 : Int32).toInt = 16 := (by decide); rw [fa_le] at hc; omega)); rw [hsp]; exact ⟨rfl, hR⟩), (by show va_P _ _ _ t.heap; rw [ht]; exact hP)⟩, hS.F ht⟩) hS.2.2 dX8_log_28

set_option maxHeartbeats 8000000 in
set_option maxRecDepth 100000 in
theorem m_write (l : Launch) (G : va_G) (cy : Nat → ClassId) (L : List Nat) (F : Nat → va_E) (ad : Nat → Nat) (sz : Nat) (o : Nat) (qa : Nat → Nat → Nat) (Mm : SM) (Dd : SD) (Sl : SL) (Pp : SP) (Kr : SR) (Bk : SB) (Xx : SX) (hR : Rep cy L o qa Mm Dd Sl Pp Kr Bk Xx F) (lg i me : Int32)  : Met l yX8_write wsX8_write ({ frames := 3, cells := 0, slots := 0, locals := 61 }) (va_Pc [.ref o, .int lg, .int i, .int me] (fun U => bQE G cy L F ad sz U U.heap)) (va_Qi (fun (r : Int32) (F' : Nat → va_E) => r = (sp_write Mm Sl Xx lg i me).1 ∧ Rep cy L o qa Mm Dd (sp_write Mm Sl Xx lg i me).2.1 Pp Kr Bk (sp_write Mm Sl Xx lg i me).2.2 F') (fun F' t => va_P G vwCl (va_pl L F') t.heap) (va_A (va_pl L F) sz)) 0 0 (va_A (va_pl L F) sz) := by
  refine Met.ofW (cc := cX8_write) (maxL := 7) (ret := (some .int)) (by decide) rfl ?_
  intro p e s m args below meth c s₁ B hml hv
  obtain ⟨rfl, ⟨hsz, hP, hK, hD0⟩, hE, hN⟩ := hv
  have hx := B.exec
  have hb := B.bytes
  have hr := B.returns
  have hts := atoms_spec (ws := wsX8_write) B.pre
  have hown : s.vm.findClass RX8 = some m.cls := findClass_of_methodNamed B.named
  have hlocks := B.notSynchronized
  have hinX8 : ∀ w ∈ wsX80, w ∈ wsX8_write := by decide +kernel
  have hinX3 : ∀ w ∈ wsX30, w ∈ wsX8_write := by decide +kernel
  have hinX4 : ∀ w ∈ wsX40, w ∈ wsX8_write := by decide +kernel
  subst hsz
  have hD := hD0.self F s.heap.size
  generalize hAe : va_A (va_pl L F) s.heap.size = A at hD hE ⊢
  have hA : ∀ q : Nat, s.heap.size ≤ q → A q := fun q h => by rw [← hAe]; exact Or.inr h
  have hS : va_S A s.heap s.heap [] := va_S.rf
  obtain ⟨⟨⟨hmo, hFo⟩, ⟨hmf, hFf⟩, hms, hFs⟩, ⟨⟨hm0, hF0⟩, ⟨hm1, hF1⟩, ⟨hm2, hF2⟩, ⟨hm4, hF4⟩, hm5, hF5⟩, hRM, hRD, hRG, hRP, hRR, hRB, hRI⟩ := id hR
  have hl := lv_entry ([.ref o, .int lg, .int i, .int me]) (n := 7) (Nat.le_of_ble_eq_true rfl)
  rw [lg_entry_eq]
  generalize (lg_sl ([.ref o, .int lg, .int i, .int me]) ++ List.replicate (7 - (lg_sl ([.ref o, .int lg, .int i, .int me])).length) Slot.unset).toArray = ls at hl ⊢
  have hl : lv_has ls 7 [(0, .ref o), (1, .int lg), (2, .int i), (3, .int me)] := hl
  rcases ixc 8 lg with hi_lg | ⟨j_lg, hj_lg, hi_lg, ei_lg⟩
  · rcases ixc 10 me with hi_me | ⟨j_me, hj_me, hi_me, ei_me⟩
    · refine lv_aload_n hx hb dX8_write_0 rfl (lv_at hl 0 rfl) ?_
      refine lv_iload_n hx hb dX8_write_1 rfl (lv_at hl 1 rfl) ?_
      refine va_csq (W.runV (As := [.int lg]) (rest := []) ⟨hx, hb, hml, hown, hts⟩ (c_logOf_no l G cy L F o qa Mm Dd Sl Pp Kr Bk Xx hR lg hi_lg) (cwV 1 hts gX8_write_X8_logOf rfl rfl rfl (by decide +kernel) ⟨Nat.le_of_ble_eq_true rfl, Nat.le_of_ble_eq_true rfl⟩) (preV_of okP (⟨hP, hK, hD.top⟩) (pl_recv hK hP (ci := 7) rfl hmo hFo)) rfl rfl hl.1 rfl (lv_room (Nat.le_of_ble_eq_true rfl)) dX8_write_2 ⟨Nat.le_of_ble_eq_true rfl, Nat.le_of_ble_eq_true rfl⟩) (fun r1 hr1 => ?_)
      subst hr1
      refine W.eq (g2 := F0 m 5 ls [.null]) rfl ?_
      refine lv_astoreN (lv' := [(4, .null), (0, .ref o), (1, .int lg), (2, .int i), (3, .int me)]) hx hb dX8_write_5 hl (by decide) rfl (fun ls hl => ?_)
      refine lv_aload_n hx hb dX8_write_7 rfl (lv_at hl 1 rfl) ?_
      refine lv_iload_n hx hb dX8_write_8 rfl (lv_at hl 4 rfl) ?_
      refine va_csq (W.runV (As := [.int me]) (rest := []) ⟨hx, hb, hml, hown, hts⟩ (c_meterOf_no l G cy L F o qa Mm Dd Sl Pp Kr Bk Xx hR me hi_me) (cwV 1 hts gX8_write_X8_meterOf rfl rfl rfl (by decide +kernel) ⟨Nat.le_of_ble_eq_true rfl, Nat.le_of_ble_eq_true rfl⟩) (preV_of okP (⟨hP, hK, hD.top⟩) (pl_recv hK hP (ci := 7) rfl hmo hFo)) rfl rfl hl.1 rfl (lv_room (Nat.le_of_ble_eq_true rfl)) dX8_write_9 ⟨Nat.le_of_ble_eq_true rfl, Nat.le_of_ble_eq_true rfl⟩) (fun r2 hr2 => ?_)
      subst hr2
      refine W.eq (g2 := F0 m 12 ls [.null]) rfl ?_
      refine lv_astoreN (lv' := [(5, .null), (4, .null), (0, .ref o), (1, .int lg), (2, .int i), (3, .int me)]) hx hb dX8_write_12 hl (by decide) rfl (fun ls hl => ?_)
      refine lv_aloadN hx hb dX8_write_14 (lv_at hl 1 rfl) ?_
      refine lv_ifnullN (tgt := 24) hx hb dX8_write_16 (by decide) ?_
      refine lv_sipush (v := -1001) hx hb dX8_write_24 (by decide) ?_
      exact W.iret (v := -1001) hx hb hr (fun t ht hW => ⟨⟨-1001, F, rfl, (by have hsp : sp_write Mm Sl Xx lg i me = (-1001, Sl, Xx) := (by unfold sp_write; rw [hi_lg]); rw [hsp]; exact ⟨rfl, hR⟩), (by show va_P _ _ _ t.heap; rw [ht]; exact hP)⟩, hS.F ht⟩) hS.2.2 dX8_write_27
    · subst ei_me
      obtain ⟨hmm_me, nm_me, rl_me, hFm_me, hok_me⟩ := hRM j_me hj_me
      refine lv_aload_n hx hb dX8_write_0 rfl (lv_at hl 0 rfl) ?_
      refine lv_iload_n hx hb dX8_write_1 rfl (lv_at hl 1 rfl) ?_
      refine va_csq (W.runV (As := [.int lg]) (rest := []) ⟨hx, hb, hml, hown, hts⟩ (c_logOf_no l G cy L F o qa Mm Dd Sl Pp Kr Bk Xx hR lg hi_lg) (cwV 1 hts gX8_write_X8_logOf rfl rfl rfl (by decide +kernel) ⟨Nat.le_of_ble_eq_true rfl, Nat.le_of_ble_eq_true rfl⟩) (preV_of okP (⟨hP, hK, hD.top⟩) (pl_recv hK hP (ci := 7) rfl hmo hFo)) rfl rfl hl.1 rfl (lv_room (Nat.le_of_ble_eq_true rfl)) dX8_write_2 ⟨Nat.le_of_ble_eq_true rfl, Nat.le_of_ble_eq_true rfl⟩) (fun r3 hr3 => ?_)
      subst hr3
      refine W.eq (g2 := F0 m 5 ls [.null]) rfl ?_
      refine lv_astoreN (lv' := [(4, .null), (0, .ref o), (1, .int lg), (2, .int i), (3, .int (nI j_me))]) hx hb dX8_write_5 hl (by decide) rfl (fun ls hl => ?_)
      refine lv_aload_n hx hb dX8_write_7 rfl (lv_at hl 1 rfl) ?_
      refine lv_iload_n hx hb dX8_write_8 rfl (lv_at hl 4 rfl) ?_
      refine va_csq (W.runV (As := [.int (nI j_me)]) (rest := []) ⟨hx, hb, hml, hown, hts⟩ (c_meterOf l G cy L F o qa Mm Dd Sl Pp Kr Bk Xx hR j_me hj_me) (cwV 1 hts gX8_write_X8_meterOf rfl rfl rfl (by decide +kernel) ⟨Nat.le_of_ble_eq_true rfl, Nat.le_of_ble_eq_true rfl⟩) (preV_of okP (⟨hP, hK, hD.top⟩) (pl_recv hK hP (ci := 7) rfl hmo hFo)) rfl rfl hl.1 rfl (lv_room (Nat.le_of_ble_eq_true rfl)) dX8_write_9 ⟨Nat.le_of_ble_eq_true rfl, Nat.le_of_ble_eq_true rfl⟩) (fun r4 hr4 => ?_)
      subst hr4
      refine W.eq (g2 := F0 m 12 ls [.ref (qa 0 j_me)]) rfl ?_
      refine lv_astore (lv' := [(5, .ref (qa 0 j_me)), (4, .null), (0, .ref o), (1, .int lg), (2, .int i), (3, .int (nI j_me))]) hx hb dX8_write_12 hl (by decide) rfl (fun ls hl => ?_)
      refine lv_aloadN hx hb dX8_write_14 (lv_at hl 1 rfl) ?_
      refine lv_ifnullN (tgt := 24) hx hb dX8_write_16 (by decide) ?_
      refine lv_sipush (v := -1001) hx hb dX8_write_24 (by decide) ?_
      exact W.iret (v := -1001) hx hb hr (fun t ht hW => ⟨⟨-1001, F, rfl, (by have hsp : sp_write Mm Sl Xx lg i (nI j_me) = (-1001, Sl, Xx) := (by unfold sp_write; rw [hi_lg]); rw [hsp]; exact ⟨rfl, hR⟩), (by show va_P _ _ _ t.heap; rw [ht]; exact hP)⟩, hS.F ht⟩) hS.2.2 dX8_write_27
  · subst ei_lg
    obtain ⟨hml_lg, hmr_lg, hFl_lg, hsz_lg, f_lg, hFr_lg, hokl_lg⟩ := hRG j_lg hj_lg
    rcases ixc 10 me with hi_me | ⟨j_me, hj_me, hi_me, ei_me⟩
    · refine lv_aload_n hx hb dX8_write_0 rfl (lv_at hl 0 rfl) ?_
      refine lv_iload_n hx hb dX8_write_1 rfl (lv_at hl 1 rfl) ?_
      refine va_csq (W.runV (As := [.int (nI j_lg)]) (rest := []) ⟨hx, hb, hml, hown, hts⟩ (c_logOf l G cy L F o qa Mm Dd Sl Pp Kr Bk Xx hR j_lg hj_lg) (cwV 1 hts gX8_write_X8_logOf rfl rfl rfl (by decide +kernel) ⟨Nat.le_of_ble_eq_true rfl, Nat.le_of_ble_eq_true rfl⟩) (preV_of okP (⟨hP, hK, hD.top⟩) (pl_recv hK hP (ci := 7) rfl hmo hFo)) rfl rfl hl.1 rfl (lv_room (Nat.le_of_ble_eq_true rfl)) dX8_write_2 ⟨Nat.le_of_ble_eq_true rfl, Nat.le_of_ble_eq_true rfl⟩) (fun r5 hr5 => ?_)
      subst hr5
      refine W.eq (g2 := F0 m 5 ls [.ref (qa 2 j_lg)]) rfl ?_
      refine lv_astore (lv' := [(4, .ref (qa 2 j_lg)), (0, .ref o), (1, .int (nI j_lg)), (2, .int i), (3, .int me)]) hx hb dX8_write_5 hl (by decide) rfl (fun ls hl => ?_)
      refine lv_aload_n hx hb dX8_write_7 rfl (lv_at hl 1 rfl) ?_
      refine lv_iload_n hx hb dX8_write_8 rfl (lv_at hl 4 rfl) ?_
      refine va_csq (W.runV (As := [.int me]) (rest := []) ⟨hx, hb, hml, hown, hts⟩ (c_meterOf_no l G cy L F o qa Mm Dd Sl Pp Kr Bk Xx hR me hi_me) (cwV 1 hts gX8_write_X8_meterOf rfl rfl rfl (by decide +kernel) ⟨Nat.le_of_ble_eq_true rfl, Nat.le_of_ble_eq_true rfl⟩) (preV_of okP (⟨hP, hK, hD.top⟩) (pl_recv hK hP (ci := 7) rfl hmo hFo)) rfl rfl hl.1 rfl (lv_room (Nat.le_of_ble_eq_true rfl)) dX8_write_9 ⟨Nat.le_of_ble_eq_true rfl, Nat.le_of_ble_eq_true rfl⟩) (fun r6 hr6 => ?_)
      subst hr6
      refine W.eq (g2 := F0 m 12 ls [.null]) rfl ?_
      refine lv_astoreN (lv' := [(5, .null), (4, .ref (qa 2 j_lg)), (0, .ref o), (1, .int (nI j_lg)), (2, .int i), (3, .int me)]) hx hb dX8_write_12 hl (by decide) rfl (fun ls hl => ?_)
      refine lv_aload hx hb dX8_write_14 (lv_at hl 1 rfl) ?_
      refine lv_ifnull hx hb dX8_write_16 ?_
      refine lv_aloadN hx hb dX8_write_19 (lv_at hl 0 rfl) ?_
      refine lv_ifnonnullN hx hb dX8_write_21 ?_
      refine lv_sipush (v := -1001) hx hb dX8_write_24 (by decide) ?_
      exact W.iret (v := -1001) hx hb hr (fun t ht hW => ⟨⟨-1001, F, rfl, (by have hsp : sp_write Mm Sl Xx (nI j_lg) i me = (-1001, Sl, Xx) := (by unfold sp_write; rw [hi_lg, hi_me]); rw [hsp]; exact ⟨rfl, hR⟩), (by show va_P _ _ _ t.heap; rw [ht]; exact hP)⟩, hS.F ht⟩) hS.2.2 dX8_write_27
    · subst ei_me
      obtain ⟨hmm_me, nm_me, rl_me, hFm_me, hok_me⟩ := hRM j_me hj_me
      rcases lackc (i := i) (by decide) hsz_lg with ⟨hp_i, hk_i⟩ | ⟨hp_i, hk_i⟩ | ⟨q_i, hq_i, hs_i, hp_i, hk_i, ei_i⟩
      · have hp0_i : ¬ pl0 (Sl.1 j_lg) i = 0 := by rw [hp_i]; decide
        refine lv_aload_n hx hb dX8_write_0 rfl (lv_at hl 0 rfl) ?_
        refine lv_iload_n hx hb dX8_write_1 rfl (lv_at hl 1 rfl) ?_
        refine va_csq (W.runV (As := [.int (nI j_lg)]) (rest := []) ⟨hx, hb, hml, hown, hts⟩ (c_logOf l G cy L F o qa Mm Dd Sl Pp Kr Bk Xx hR j_lg hj_lg) (cwV 1 hts gX8_write_X8_logOf rfl rfl rfl (by decide +kernel) ⟨Nat.le_of_ble_eq_true rfl, Nat.le_of_ble_eq_true rfl⟩) (preV_of okP (⟨hP, hK, hD.top⟩) (pl_recv hK hP (ci := 7) rfl hmo hFo)) rfl rfl hl.1 rfl (lv_room (Nat.le_of_ble_eq_true rfl)) dX8_write_2 ⟨Nat.le_of_ble_eq_true rfl, Nat.le_of_ble_eq_true rfl⟩) (fun r7 hr7 => ?_)
        subst hr7
        refine W.eq (g2 := F0 m 5 ls [.ref (qa 2 j_lg)]) rfl ?_
        refine lv_astore (lv' := [(4, .ref (qa 2 j_lg)), (0, .ref o), (1, .int (nI j_lg)), (2, .int i), (3, .int (nI j_me))]) hx hb dX8_write_5 hl (by decide) rfl (fun ls hl => ?_)
        refine lv_aload_n hx hb dX8_write_7 rfl (lv_at hl 1 rfl) ?_
        refine lv_iload_n hx hb dX8_write_8 rfl (lv_at hl 4 rfl) ?_
        refine va_csq (W.runV (As := [.int (nI j_me)]) (rest := []) ⟨hx, hb, hml, hown, hts⟩ (c_meterOf l G cy L F o qa Mm Dd Sl Pp Kr Bk Xx hR j_me hj_me) (cwV 1 hts gX8_write_X8_meterOf rfl rfl rfl (by decide +kernel) ⟨Nat.le_of_ble_eq_true rfl, Nat.le_of_ble_eq_true rfl⟩) (preV_of okP (⟨hP, hK, hD.top⟩) (pl_recv hK hP (ci := 7) rfl hmo hFo)) rfl rfl hl.1 rfl (lv_room (Nat.le_of_ble_eq_true rfl)) dX8_write_9 ⟨Nat.le_of_ble_eq_true rfl, Nat.le_of_ble_eq_true rfl⟩) (fun r8 hr8 => ?_)
        subst hr8
        refine W.eq (g2 := F0 m 12 ls [.ref (qa 0 j_me)]) rfl ?_
        refine lv_astore (lv' := [(5, .ref (qa 0 j_me)), (4, .ref (qa 2 j_lg)), (0, .ref o), (1, .int (nI j_lg)), (2, .int i), (3, .int (nI j_me))]) hx hb dX8_write_12 hl (by decide) rfl (fun ls hl => ?_)
        refine lv_aload hx hb dX8_write_14 (lv_at hl 1 rfl) ?_
        refine lv_ifnull hx hb dX8_write_16 ?_
        refine lv_aload hx hb dX8_write_19 (lv_at hl 0 rfl) ?_
        refine lv_ifnonnull (tgt := 28) hx hb dX8_write_21 (by decide) ?_
        refine lv_aload hx hb dX8_write_28 (lv_at hl 1 rfl) ?_
        refine lv_iload_n hx hb dX8_write_30 rfl (lv_at hl 4 rfl) ?_
        refine vp_callSi (cr_of (va_runU (As := [.int i]) (rest := []) ⟨hx, hb, hml, hown, hts⟩ (c_lackAt_log l G cy L F (qa 2 j_lg) (Sl.1 j_lg) (lw j_lg) (qa 3 j_lg) hml_lg hFl_lg i) (va_cwU 1 hts gX8_write_X5_lackAt_u213X3 rfl rfl rfl rfl (by decide +kernel) ⟨Nat.le_of_ble_eq_true rfl, Nat.le_of_ble_eq_true rfl⟩) (preV_of okP (⟨hP, hK, hD.top⟩) (pl_recv hK hP (ci := 3) rfl hml_lg hFl_lg)) rfl rfl hl.1 rfl (lv_room (Nat.le_of_ble_eq_true rfl)) dX8_write_31 ⟨Nat.le_of_ble_eq_true rfl, Nat.le_of_ble_eq_true rfl⟩)) (fun r9 hr9 => ?_)
        rw [hk_i] at hr9
        subst hr9
        refine lv_istore (lv' := [(6, .int 1), (5, .ref (qa 0 j_me)), (4, .ref (qa 2 j_lg)), (0, .ref o), (1, .int (nI j_lg)), (2, .int i), (3, .int (nI j_me))]) hx hb dX8_write_34 hl (by decide) rfl (fun ls hl => ?_)
        refine lv_iload hx hb dX8_write_36 (lv_at hl 0 rfl) ?_
        refine lv_if_eq (tgt := 48) hx hb dX8_write_38 (by decide) (fun c10 => absurd c10 (by decide)) (fun c10 => ?_)
        refine lv_aload_n hx hb dX8_write_41 rfl (lv_at hl 3 rfl) ?_
        refine lv_iload hx hb dX8_write_42 (lv_at hl 0 rfl) ?_
        refine va_calli (va_runV (As := [.int 1]) (rest := []) ⟨hx, hb, hml, hown, hts⟩ (c_fail_1 l G cy L F s.heap.size o qa Mm Dd Sl Pp Kr Bk Xx hR) (cwV 1 hts gX8_write_X8_fail rfl rfl rfl (by decide +kernel) ⟨Nat.le_of_ble_eq_true rfl, Nat.le_of_ble_eq_true rfl⟩) (preV_of okQ (⟨rfl, hP, hK, hD.top⟩) (pl_recv hK hP (ci := 7) rfl hmo hFo)) rfl rfl hl.1 rfl (lv_room (Nat.le_of_ble_eq_true rfl)) dX8_write_44 ⟨Nat.le_of_ble_eq_true rfl, Nat.le_of_ble_eq_true rfl⟩) hS (fun q _ h => pl_free hD hS hA q h) (pl_free hD hS hA) (fun r12 F11 t H1 locs ht hvm hw hP1 hz1 hk1 hS => ?_)
        have hP1 : va_P G vwCl (va_pl L F11) t.heap := hP1
        rw [ht] at hP1
        have hP := hP1
        generalize H1 = H at hP hS ⊢
        obtain ⟨hqr12, hR13⟩ := hw
        exact W.iret (v := r12) hx hb hr (fun t ht hW => ⟨⟨r12, F11, rfl, (by have hsp : sp_write Mm Sl Xx (nI j_lg) i (nI j_me) = (-10 - 1, Sl, failX Xx 1) := (by unfold sp_write; rw [hi_lg, hi_me]; exact (if_neg hp0_i).trans (by rw [hp_i]; rfl)); rw [hsp]; exact ⟨hqr12, hR13⟩), (by show va_P _ _ _ t.heap; rw [ht]; exact hP)⟩, hS.F ht⟩) hS.2.2 dX8_write_47
      · have hp0_i : ¬ pl0 (Sl.1 j_lg) i = 0 := by rw [hp_i]; decide
        refine lv_aload_n hx hb dX8_write_0 rfl (lv_at hl 0 rfl) ?_
        refine lv_iload_n hx hb dX8_write_1 rfl (lv_at hl 1 rfl) ?_
        refine va_csq (W.runV (As := [.int (nI j_lg)]) (rest := []) ⟨hx, hb, hml, hown, hts⟩ (c_logOf l G cy L F o qa Mm Dd Sl Pp Kr Bk Xx hR j_lg hj_lg) (cwV 1 hts gX8_write_X8_logOf rfl rfl rfl (by decide +kernel) ⟨Nat.le_of_ble_eq_true rfl, Nat.le_of_ble_eq_true rfl⟩) (preV_of okP (⟨hP, hK, hD.top⟩) (pl_recv hK hP (ci := 7) rfl hmo hFo)) rfl rfl hl.1 rfl (lv_room (Nat.le_of_ble_eq_true rfl)) dX8_write_2 ⟨Nat.le_of_ble_eq_true rfl, Nat.le_of_ble_eq_true rfl⟩) (fun r14 hr14 => ?_)
        subst hr14
        refine W.eq (g2 := F0 m 5 ls [.ref (qa 2 j_lg)]) rfl ?_
        refine lv_astore (lv' := [(4, .ref (qa 2 j_lg)), (0, .ref o), (1, .int (nI j_lg)), (2, .int i), (3, .int (nI j_me))]) hx hb dX8_write_5 hl (by decide) rfl (fun ls hl => ?_)
        refine lv_aload_n hx hb dX8_write_7 rfl (lv_at hl 1 rfl) ?_
        refine lv_iload_n hx hb dX8_write_8 rfl (lv_at hl 4 rfl) ?_
        refine va_csq (W.runV (As := [.int (nI j_me)]) (rest := []) ⟨hx, hb, hml, hown, hts⟩ (c_meterOf l G cy L F o qa Mm Dd Sl Pp Kr Bk Xx hR j_me hj_me) (cwV 1 hts gX8_write_X8_meterOf rfl rfl rfl (by decide +kernel) ⟨Nat.le_of_ble_eq_true rfl, Nat.le_of_ble_eq_true rfl⟩) (preV_of okP (⟨hP, hK, hD.top⟩) (pl_recv hK hP (ci := 7) rfl hmo hFo)) rfl rfl hl.1 rfl (lv_room (Nat.le_of_ble_eq_true rfl)) dX8_write_9 ⟨Nat.le_of_ble_eq_true rfl, Nat.le_of_ble_eq_true rfl⟩) (fun r15 hr15 => ?_)
        subst hr15
        refine W.eq (g2 := F0 m 12 ls [.ref (qa 0 j_me)]) rfl ?_
        refine lv_astore (lv' := [(5, .ref (qa 0 j_me)), (4, .ref (qa 2 j_lg)), (0, .ref o), (1, .int (nI j_lg)), (2, .int i), (3, .int (nI j_me))]) hx hb dX8_write_12 hl (by decide) rfl (fun ls hl => ?_)
        refine lv_aload hx hb dX8_write_14 (lv_at hl 1 rfl) ?_
        refine lv_ifnull hx hb dX8_write_16 ?_
        refine lv_aload hx hb dX8_write_19 (lv_at hl 0 rfl) ?_
        refine lv_ifnonnull (tgt := 28) hx hb dX8_write_21 (by decide) ?_
        refine lv_aload hx hb dX8_write_28 (lv_at hl 1 rfl) ?_
        refine lv_iload_n hx hb dX8_write_30 rfl (lv_at hl 4 rfl) ?_
        refine vp_callSi (cr_of (va_runU (As := [.int i]) (rest := []) ⟨hx, hb, hml, hown, hts⟩ (c_lackAt_log l G cy L F (qa 2 j_lg) (Sl.1 j_lg) (lw j_lg) (qa 3 j_lg) hml_lg hFl_lg i) (va_cwU 1 hts gX8_write_X5_lackAt_u213X3 rfl rfl rfl rfl (by decide +kernel) ⟨Nat.le_of_ble_eq_true rfl, Nat.le_of_ble_eq_true rfl⟩) (preV_of okP (⟨hP, hK, hD.top⟩) (pl_recv hK hP (ci := 3) rfl hml_lg hFl_lg)) rfl rfl hl.1 rfl (lv_room (Nat.le_of_ble_eq_true rfl)) dX8_write_31 ⟨Nat.le_of_ble_eq_true rfl, Nat.le_of_ble_eq_true rfl⟩)) (fun r16 hr16 => ?_)
        rw [hk_i] at hr16
        subst hr16
        refine lv_istore (lv' := [(6, .int 2), (5, .ref (qa 0 j_me)), (4, .ref (qa 2 j_lg)), (0, .ref o), (1, .int (nI j_lg)), (2, .int i), (3, .int (nI j_me))]) hx hb dX8_write_34 hl (by decide) rfl (fun ls hl => ?_)
        refine lv_iload hx hb dX8_write_36 (lv_at hl 0 rfl) ?_
        refine lv_if_eq (tgt := 48) hx hb dX8_write_38 (by decide) (fun c17 => absurd c17 (by decide)) (fun c17 => ?_)
        refine lv_aload_n hx hb dX8_write_41 rfl (lv_at hl 3 rfl) ?_
        refine lv_iload hx hb dX8_write_42 (lv_at hl 0 rfl) ?_
        refine va_calli (va_runV (As := [.int 2]) (rest := []) ⟨hx, hb, hml, hown, hts⟩ (c_fail_2 l G cy L F s.heap.size o qa Mm Dd Sl Pp Kr Bk Xx hR) (cwV 1 hts gX8_write_X8_fail rfl rfl rfl (by decide +kernel) ⟨Nat.le_of_ble_eq_true rfl, Nat.le_of_ble_eq_true rfl⟩) (preV_of okQ (⟨rfl, hP, hK, hD.top⟩) (pl_recv hK hP (ci := 7) rfl hmo hFo)) rfl rfl hl.1 rfl (lv_room (Nat.le_of_ble_eq_true rfl)) dX8_write_44 ⟨Nat.le_of_ble_eq_true rfl, Nat.le_of_ble_eq_true rfl⟩) hS (fun q _ h => pl_free hD hS hA q h) (pl_free hD hS hA) (fun r19 F18 t H1 locs ht hvm hw hP1 hz1 hk1 hS => ?_)
        have hP1 : va_P G vwCl (va_pl L F18) t.heap := hP1
        rw [ht] at hP1
        have hP := hP1
        generalize H1 = H at hP hS ⊢
        obtain ⟨hqr19, hR20⟩ := hw
        exact W.iret (v := r19) hx hb hr (fun t ht hW => ⟨⟨r19, F18, rfl, (by have hsp : sp_write Mm Sl Xx (nI j_lg) i (nI j_me) = (-10 - 2, Sl, failX Xx 2) := (by unfold sp_write; rw [hi_lg, hi_me]; exact (if_neg hp0_i).trans (by rw [hp_i]; rfl)); rw [hsp]; exact ⟨hqr19, hR20⟩), (by show va_P _ _ _ t.heap; rw [ht]; exact hP)⟩, hS.F ht⟩) hS.2.2 dX8_write_47
      · subst ei_i
        refine lv_aload_n hx hb dX8_write_0 rfl (lv_at hl 0 rfl) ?_
        refine lv_iload_n hx hb dX8_write_1 rfl (lv_at hl 1 rfl) ?_
        refine va_csq (W.runV (As := [.int (nI j_lg)]) (rest := []) ⟨hx, hb, hml, hown, hts⟩ (c_logOf l G cy L F o qa Mm Dd Sl Pp Kr Bk Xx hR j_lg hj_lg) (cwV 1 hts gX8_write_X8_logOf rfl rfl rfl (by decide +kernel) ⟨Nat.le_of_ble_eq_true rfl, Nat.le_of_ble_eq_true rfl⟩) (preV_of okP (⟨hP, hK, hD.top⟩) (pl_recv hK hP (ci := 7) rfl hmo hFo)) rfl rfl hl.1 rfl (lv_room (Nat.le_of_ble_eq_true rfl)) dX8_write_2 ⟨Nat.le_of_ble_eq_true rfl, Nat.le_of_ble_eq_true rfl⟩) (fun r21 hr21 => ?_)
        subst hr21
        refine W.eq (g2 := F0 m 5 ls [.ref (qa 2 j_lg)]) rfl ?_
        refine lv_astore (lv' := [(4, .ref (qa 2 j_lg)), (0, .ref o), (1, .int (nI j_lg)), (2, .int (nI q_i)), (3, .int (nI j_me))]) hx hb dX8_write_5 hl (by decide) rfl (fun ls hl => ?_)
        refine lv_aload_n hx hb dX8_write_7 rfl (lv_at hl 1 rfl) ?_
        refine lv_iload_n hx hb dX8_write_8 rfl (lv_at hl 4 rfl) ?_
        refine va_csq (W.runV (As := [.int (nI j_me)]) (rest := []) ⟨hx, hb, hml, hown, hts⟩ (c_meterOf l G cy L F o qa Mm Dd Sl Pp Kr Bk Xx hR j_me hj_me) (cwV 1 hts gX8_write_X8_meterOf rfl rfl rfl (by decide +kernel) ⟨Nat.le_of_ble_eq_true rfl, Nat.le_of_ble_eq_true rfl⟩) (preV_of okP (⟨hP, hK, hD.top⟩) (pl_recv hK hP (ci := 7) rfl hmo hFo)) rfl rfl hl.1 rfl (lv_room (Nat.le_of_ble_eq_true rfl)) dX8_write_9 ⟨Nat.le_of_ble_eq_true rfl, Nat.le_of_ble_eq_true rfl⟩) (fun r22 hr22 => ?_)
        subst hr22
        refine W.eq (g2 := F0 m 12 ls [.ref (qa 0 j_me)]) rfl ?_
        refine lv_astore (lv' := [(5, .ref (qa 0 j_me)), (4, .ref (qa 2 j_lg)), (0, .ref o), (1, .int (nI j_lg)), (2, .int (nI q_i)), (3, .int (nI j_me))]) hx hb dX8_write_12 hl (by decide) rfl (fun ls hl => ?_)
        refine lv_aload hx hb dX8_write_14 (lv_at hl 1 rfl) ?_
        refine lv_ifnull hx hb dX8_write_16 ?_
        refine lv_aload hx hb dX8_write_19 (lv_at hl 0 rfl) ?_
        refine lv_ifnonnull (tgt := 28) hx hb dX8_write_21 (by decide) ?_
        refine lv_aload hx hb dX8_write_28 (lv_at hl 1 rfl) ?_
        refine lv_iload_n hx hb dX8_write_30 rfl (lv_at hl 4 rfl) ?_
        refine vp_callSi (cr_of (va_runU (As := [.int (nI q_i)]) (rest := []) ⟨hx, hb, hml, hown, hts⟩ (c_lackAt_log l G cy L F (qa 2 j_lg) (Sl.1 j_lg) (lw j_lg) (qa 3 j_lg) hml_lg hFl_lg (nI q_i)) (va_cwU 1 hts gX8_write_X5_lackAt_u213X3 rfl rfl rfl rfl (by decide +kernel) ⟨Nat.le_of_ble_eq_true rfl, Nat.le_of_ble_eq_true rfl⟩) (preV_of okP (⟨hP, hK, hD.top⟩) (pl_recv hK hP (ci := 3) rfl hml_lg hFl_lg)) rfl rfl hl.1 rfl (lv_room (Nat.le_of_ble_eq_true rfl)) dX8_write_31 ⟨Nat.le_of_ble_eq_true rfl, Nat.le_of_ble_eq_true rfl⟩)) (fun r23 hr23 => ?_)
        rw [hk_i] at hr23
        subst hr23
        refine lv_istore (lv' := [(6, .int 0), (5, .ref (qa 0 j_me)), (4, .ref (qa 2 j_lg)), (0, .ref o), (1, .int (nI j_lg)), (2, .int (nI q_i)), (3, .int (nI j_me))]) hx hb dX8_write_34 hl (by decide) rfl (fun ls hl => ?_)
        refine lv_iload hx hb dX8_write_36 (lv_at hl 0 rfl) ?_
        refine lv_if_eq (tgt := 48) hx hb dX8_write_38 (by decide) (fun c24 => ?_) (fun c24 => absurd (by decide) c24)
        refine lv_aload hx hb dX8_write_48 (lv_at hl 2 rfl) ?_
        refine pg_get (ci := 3) (C := RX3) (T := TX3) (N := 3) hx hb hts hinX3 hown hK hP hml_lg hFl_lg rfl 2 (by decide) (hts (.fieldLink RX8 200 "RopeDrums$Log" "row" "[D") (by decide +kernel)) (fun _ h9 => h9) rfl dX8_write_50 ?_
        refine lv_iload_n hx hb dX8_write_53 rfl (lv_at hl 5 rfl) ?_
        refine lv_aload hx hb dX8_write_54 (lv_at hl 1 rfl) ?_
        refine lv_aload hx hb dX8_write_56 (lv_at hl 2 rfl) ?_
        refine pg_get (ci := 3) (C := RX3) (T := TX3) (N := 3) hx hb hts hinX3 hown hK hP hml_lg hFl_lg rfl 1 (by decide) (hts (.fieldLink RX8 216 "RopeDrums$Log" "lane" "I") (by decide +kernel)) (fun _ h9 => h9) rfl dX8_write_58 ?_
        refine vp_callSd (W.runV (As := [.int (lw j_lg)]) (rest := [.int (nI q_i), .ref (qa 3 j_lg)]) ⟨hx, hb, hml, hown, hts⟩ (c_asReal l G cy L F (qa 0 j_me) (Mm.1 j_me) nm_me rl_me hmm_me hFm_me (lw j_lg) hok_me.ne) (cwV 1 hts gX8_write_X4_asReal rfl rfl rfl (by decide +kernel) ⟨Nat.le_of_ble_eq_true rfl, Nat.le_of_ble_eq_true rfl⟩) (preV_of okP (⟨hP, hK, hD.top⟩) (pl_recv hK hP (ci := 4) rfl hmm_me hFm_me)) rfl rfl hl.1 rfl (lv_room (Nat.le_of_ble_eq_true rfl)) dX8_write_61 ⟨Nat.le_of_ble_eq_true rfl, Nat.le_of_ble_eq_true rfl⟩) (fun r25 hr25 => ?_)
        refine pg_dast hx hb hK hP hD hS 0 hmr_lg hFr_lg rfl (vp_in_nI hq_i (by decide)) dX8_write_64 (fun H locs F26 eF26 hP hS => ?_)
        have hFo_26 : F26 o = .inr (7, [.ref (qa 8 0), .ref (qa 8 1), .ref (qa 8 2), .ref (qa 8 3), .ref (qa 8 4), .ref (qa 8 5), .ref (qa 8 6), .int Pp.1, .int Xx.1]) := by rw [eF26, va_up_ne _ _ (pl_ne hFo hFr_lg rfl)]; exact hFo
        have hFqa80_26 : F26 (qa 8 0) = cQ (cy 7) 10 (pR 10 (qa 0)) := by rw [eF26, va_up_ne _ _ (pl_ne hF0 hFr_lg rfl)]; exact hF0
        have hFqa81_26 : F26 (qa 8 1) = cQ (cy 5) 6 (pR 6 (qa 1)) := by rw [eF26, va_up_ne _ _ (pl_ne hF1 hFr_lg rfl)]; exact hF1
        have hFqa82_26 : F26 (qa 8 2) = cQ (cy 6) 8 (pR 8 (qa 2)) := by rw [eF26, va_up_ne _ _ (pl_ne hF2 hFr_lg rfl)]; exact hF2
        have hFqa83_26 : F26 (qa 8 3) = cQ (cy 9) 30 (pR Pp.1.toInt.toNat (qa 7)) := by rw [eF26, va_up_ne _ _ (pl_ne hFs hFr_lg rfl)]; exact hFs
        have hFqa84_26 : F26 (qa 8 4) = cQ (cy 8) 5 (pR 5 (qa 4)) := by rw [eF26, va_up_ne _ _ (pl_ne hF4 hFr_lg rfl)]; exact hF4
        have hFqa85_26 : F26 (qa 8 5) = cQ (cy 4) 4 (pR 4 (qa 6)) := by rw [eF26, va_up_ne _ _ (pl_ne hF5 hFr_lg rfl)]; exact hF5
        have hFqa86_26 : F26 (qa 8 6) = cI (cy 1) 6 Xx.2 := by rw [eF26, va_up_ne _ _ (pl_ne hFf hFr_lg rfl)]; exact hFf
        have hFqa2j_lg_26 : F26 (qa 2 j_lg) = .inr (3, [.int (Sl.1 j_lg), .int (lw j_lg), .ref (qa 3 j_lg)]) := by rw [eF26, va_up_ne _ _ (pl_ne hFl_lg hFr_lg rfl)]; exact hFl_lg
        have hFqa3j_lg_26 : F26 (qa 3 j_lg) = cD (cy 0) 16 (vf_upd f_lg (nI q_i : Int32).toNatClampNeg r25) := by rw [eF26]; exact va_up_self _ _ _
        have hFqa0j_me_26 : F26 (qa 0 j_me) = .inr (4, [.int (Mm.1 j_me), .long nm_me, .double rl_me]) := by rw [eF26, va_up_ne _ _ (pl_ne hFm_me hFr_lg rfl)]; exact hFm_me
        have hR27 : Rep cy L o qa Mm Dd (Sl.1, vp_updL Sl.2 (16 * j_lg + q_i) (tn (Mm.1 j_me) (Mm.2 j_me) (lw j_lg))) Pp Kr Bk Xx F26 := by subst hr25; rw [eF26]; exact hR.cellR hj_lg hq_i hFr_lg hokl_lg (okR_turn hok_me (lwc _))
        refine lv_aload_n hx hb dX8_write_65 rfl (lv_at hl 3 rfl) ?_
        refine lv_iconst (v := 1) hx hb dX8_write_66 (by decide) ?_
        refine va_calli (va_runV (As := [.int 1]) (rest := []) ⟨hx, hb, hml, hown, hts⟩ (c_succeed l G cy L F26 H.size o qa Mm Dd (Sl.1, vp_updL Sl.2 (16 * j_lg + q_i) (tn (Mm.1 j_me) (Mm.2 j_me) (lw j_lg))) Pp Kr Bk Xx hR27 1) (cwV 1 hts gX8_write_X8_succeed rfl rfl rfl (by decide +kernel) ⟨Nat.le_of_ble_eq_true rfl, Nat.le_of_ble_eq_true rfl⟩) (preV_of okQ (⟨rfl, hP, hK, hD.top⟩) (pl_recv hK hP (ci := 7) rfl hmo hFo_26)) rfl rfl hl.1 rfl (lv_room (Nat.le_of_ble_eq_true rfl)) dX8_write_67 ⟨Nat.le_of_ble_eq_true rfl, Nat.le_of_ble_eq_true rfl⟩) hS (fun q _ h => pl_free hD hS hA q h) (pl_free hD hS hA) (fun r29 F28 t H1 locs ht hvm hw hP1 hz1 hk1 hS => ?_)
        have hP1 : va_P G vwCl (va_pl L F28) t.heap := hP1
        rw [ht] at hP1
        have hP := hP1
        generalize H1 = H at hP hS ⊢
        obtain ⟨hqr29, hR30⟩ := hw
        exact W.iret (v := r29) hx hb hr (fun t ht hW => ⟨⟨r29, F28, rfl, (by have hsp : sp_write Mm Sl Xx (nI j_lg) (nI q_i) (nI j_me) = (1, (Sl.1, vp_updL Sl.2 (16 * j_lg + q_i) (tn (Mm.1 j_me) (Mm.2 j_me) (lw j_lg))), goodX Xx) := (by unfold sp_write; rw [hi_lg, hi_me]; exact (if_pos hp_i).trans (by rw [nI_tn (by omega)])); rw [hsp]; exact ⟨hqr29, hR30⟩), (by show va_P _ _ _ t.heap; rw [ht]; exact hP)⟩, hS.F ht⟩) hS.2.2 dX8_write_70

set_option maxHeartbeats 8000000 in
set_option maxRecDepth 100000 in
theorem m_read (l : Launch) (G : va_G) (cy : Nat → ClassId) (L : List Nat) (F : Nat → va_E) (ad : Nat → Nat) (sz : Nat) (o : Nat) (qa : Nat → Nat → Nat) (Mm : SM) (Dd : SD) (Sl : SL) (Pp : SP) (Kr : SR) (Bk : SB) (Xx : SX) (hR : Rep cy L o qa Mm Dd Sl Pp Kr Bk Xx F) (lg i me : Int32)  : Met l yX8_read wsX8_read ({ frames := 1, cells := 0, slots := 0, locals := 23 }) (va_Pc [.ref o, .int lg, .int i, .int me] (fun U => bQE G cy L F ad sz U U.heap)) (va_Qi (fun (r : Int32) (F' : Nat → va_E) => r = (sp_read Mm Sl Xx lg i me).1 ∧ Rep cy L o qa (sp_read Mm Sl Xx lg i me).2.1 Dd Sl Pp Kr Bk (sp_read Mm Sl Xx lg i me).2.2 F') (fun F' t => va_P G vwCl (va_pl L F') t.heap) (va_A (va_pl L F) sz)) 0 0 (va_A (va_pl L F) sz) := by
  refine Met.ofW (cc := cX8_read) (maxL := 7) (ret := (some .int)) (by decide) rfl ?_
  intro p e s m args below meth c s₁ B hml hv
  obtain ⟨rfl, ⟨hsz, hP, hK, hD0⟩, hE, hN⟩ := hv
  have hx := B.exec
  have hb := B.bytes
  have hr := B.returns
  have hts := atoms_spec (ws := wsX8_read) B.pre
  have hown : s.vm.findClass RX8 = some m.cls := findClass_of_methodNamed B.named
  have hlocks := B.notSynchronized
  have hinX8 : ∀ w ∈ wsX80, w ∈ wsX8_read := by decide +kernel
  have hinX3 : ∀ w ∈ wsX30, w ∈ wsX8_read := by decide +kernel
  have hinX4 : ∀ w ∈ wsX40, w ∈ wsX8_read := by decide +kernel
  subst hsz
  have hD := hD0.self F s.heap.size
  generalize hAe : va_A (va_pl L F) s.heap.size = A at hD hE ⊢
  have hA : ∀ q : Nat, s.heap.size ≤ q → A q := fun q h => by rw [← hAe]; exact Or.inr h
  have hS : va_S A s.heap s.heap [] := va_S.rf
  obtain ⟨⟨⟨hmo, hFo⟩, ⟨hmf, hFf⟩, hms, hFs⟩, ⟨⟨hm0, hF0⟩, ⟨hm1, hF1⟩, ⟨hm2, hF2⟩, ⟨hm4, hF4⟩, hm5, hF5⟩, hRM, hRD, hRG, hRP, hRR, hRB, hRI⟩ := id hR
  have hl := lv_entry ([.ref o, .int lg, .int i, .int me]) (n := 7) (Nat.le_of_ble_eq_true rfl)
  rw [lg_entry_eq]
  generalize (lg_sl ([.ref o, .int lg, .int i, .int me]) ++ List.replicate (7 - (lg_sl ([.ref o, .int lg, .int i, .int me])).length) Slot.unset).toArray = ls at hl ⊢
  have hl : lv_has ls 7 [(0, .ref o), (1, .int lg), (2, .int i), (3, .int me)] := hl
  rcases ixc 8 lg with hi_lg | ⟨j_lg, hj_lg, hi_lg, ei_lg⟩
  · rcases ixc 10 me with hi_me | ⟨j_me, hj_me, hi_me, ei_me⟩
    · refine lv_aload_n hx hb dX8_read_0 rfl (lv_at hl 0 rfl) ?_
      refine lv_iload_n hx hb dX8_read_1 rfl (lv_at hl 1 rfl) ?_
      refine va_csq (W.runV (As := [.int lg]) (rest := []) ⟨hx, hb, hml, hown, hts⟩ (c_logOf_no l G cy L F o qa Mm Dd Sl Pp Kr Bk Xx hR lg hi_lg) (cwV 1 hts gX8_read_X8_logOf rfl rfl rfl (by decide +kernel) ⟨Nat.le_of_ble_eq_true rfl, Nat.le_of_ble_eq_true rfl⟩) (preV_of okP (⟨hP, hK, hD.top⟩) (pl_recv hK hP (ci := 7) rfl hmo hFo)) rfl rfl hl.1 rfl (lv_room (Nat.le_of_ble_eq_true rfl)) dX8_read_2 ⟨Nat.le_of_ble_eq_true rfl, Nat.le_of_ble_eq_true rfl⟩) (fun r1 hr1 => ?_)
      subst hr1
      refine W.eq (g2 := F0 m 5 ls [.null]) rfl ?_
      refine lv_astoreN (lv' := [(4, .null), (0, .ref o), (1, .int lg), (2, .int i), (3, .int me)]) hx hb dX8_read_5 hl (by decide) rfl (fun ls hl => ?_)
      refine lv_aload_n hx hb dX8_read_7 rfl (lv_at hl 1 rfl) ?_
      refine lv_iload_n hx hb dX8_read_8 rfl (lv_at hl 4 rfl) ?_
      refine va_csq (W.runV (As := [.int me]) (rest := []) ⟨hx, hb, hml, hown, hts⟩ (c_meterOf_no l G cy L F o qa Mm Dd Sl Pp Kr Bk Xx hR me hi_me) (cwV 1 hts gX8_read_X8_meterOf rfl rfl rfl (by decide +kernel) ⟨Nat.le_of_ble_eq_true rfl, Nat.le_of_ble_eq_true rfl⟩) (preV_of okP (⟨hP, hK, hD.top⟩) (pl_recv hK hP (ci := 7) rfl hmo hFo)) rfl rfl hl.1 rfl (lv_room (Nat.le_of_ble_eq_true rfl)) dX8_read_9 ⟨Nat.le_of_ble_eq_true rfl, Nat.le_of_ble_eq_true rfl⟩) (fun r2 hr2 => ?_)
      subst hr2
      refine W.eq (g2 := F0 m 12 ls [.null]) rfl ?_
      refine lv_astoreN (lv' := [(5, .null), (4, .null), (0, .ref o), (1, .int lg), (2, .int i), (3, .int me)]) hx hb dX8_read_12 hl (by decide) rfl (fun ls hl => ?_)
      refine lv_aloadN hx hb dX8_read_14 (lv_at hl 1 rfl) ?_
      refine lv_ifnullN (tgt := 24) hx hb dX8_read_16 (by decide) ?_
      refine lv_sipush (v := -1001) hx hb dX8_read_24 (by decide) ?_
      exact W.iret (v := -1001) hx hb hr (fun t ht hW => ⟨⟨-1001, F, rfl, (by have hsp : sp_read Mm Sl Xx lg i me = (-1001, Mm, Xx) := (by unfold sp_read; rw [hi_lg]); rw [hsp]; exact ⟨rfl, hR⟩), (by show va_P _ _ _ t.heap; rw [ht]; exact hP)⟩, hS.F ht⟩) hS.2.2 dX8_read_27
    · subst ei_me
      obtain ⟨hmm_me, nm_me, rl_me, hFm_me, hok_me⟩ := hRM j_me hj_me
      refine lv_aload_n hx hb dX8_read_0 rfl (lv_at hl 0 rfl) ?_
      refine lv_iload_n hx hb dX8_read_1 rfl (lv_at hl 1 rfl) ?_
      refine va_csq (W.runV (As := [.int lg]) (rest := []) ⟨hx, hb, hml, hown, hts⟩ (c_logOf_no l G cy L F o qa Mm Dd Sl Pp Kr Bk Xx hR lg hi_lg) (cwV 1 hts gX8_read_X8_logOf rfl rfl rfl (by decide +kernel) ⟨Nat.le_of_ble_eq_true rfl, Nat.le_of_ble_eq_true rfl⟩) (preV_of okP (⟨hP, hK, hD.top⟩) (pl_recv hK hP (ci := 7) rfl hmo hFo)) rfl rfl hl.1 rfl (lv_room (Nat.le_of_ble_eq_true rfl)) dX8_read_2 ⟨Nat.le_of_ble_eq_true rfl, Nat.le_of_ble_eq_true rfl⟩) (fun r3 hr3 => ?_)
      subst hr3
      refine W.eq (g2 := F0 m 5 ls [.null]) rfl ?_
      refine lv_astoreN (lv' := [(4, .null), (0, .ref o), (1, .int lg), (2, .int i), (3, .int (nI j_me))]) hx hb dX8_read_5 hl (by decide) rfl (fun ls hl => ?_)
      refine lv_aload_n hx hb dX8_read_7 rfl (lv_at hl 1 rfl) ?_
      refine lv_iload_n hx hb dX8_read_8 rfl (lv_at hl 4 rfl) ?_
      refine va_csq (W.runV (As := [.int (nI j_me)]) (rest := []) ⟨hx, hb, hml, hown, hts⟩ (c_meterOf l G cy L F o qa Mm Dd Sl Pp Kr Bk Xx hR j_me hj_me) (cwV 1 hts gX8_read_X8_meterOf rfl rfl rfl (by decide +kernel) ⟨Nat.le_of_ble_eq_true rfl, Nat.le_of_ble_eq_true rfl⟩) (preV_of okP (⟨hP, hK, hD.top⟩) (pl_recv hK hP (ci := 7) rfl hmo hFo)) rfl rfl hl.1 rfl (lv_room (Nat.le_of_ble_eq_true rfl)) dX8_read_9 ⟨Nat.le_of_ble_eq_true rfl, Nat.le_of_ble_eq_true rfl⟩) (fun r4 hr4 => ?_)
      subst hr4
      refine W.eq (g2 := F0 m 12 ls [.ref (qa 0 j_me)]) rfl ?_
      refine lv_astore (lv' := [(5, .ref (qa 0 j_me)), (4, .null), (0, .ref o), (1, .int lg), (2, .int i), (3, .int (nI j_me))]) hx hb dX8_read_12 hl (by decide) rfl (fun ls hl => ?_)
      refine lv_aloadN hx hb dX8_read_14 (lv_at hl 1 rfl) ?_
      refine lv_ifnullN (tgt := 24) hx hb dX8_read_16 (by decide) ?_
      refine lv_sipush (v := -1001) hx hb dX8_read_24 (by decide) ?_
      exact W.iret (v := -1001) hx hb hr (fun t ht hW => ⟨⟨-1001, F, rfl, (by have hsp : sp_read Mm Sl Xx lg i (nI j_me) = (-1001, Mm, Xx) := (by unfold sp_read; rw [hi_lg]); rw [hsp]; exact ⟨rfl, hR⟩), (by show va_P _ _ _ t.heap; rw [ht]; exact hP)⟩, hS.F ht⟩) hS.2.2 dX8_read_27
  · subst ei_lg
    obtain ⟨hml_lg, hmr_lg, hFl_lg, hsz_lg, f_lg, hFr_lg, hokl_lg⟩ := hRG j_lg hj_lg
    rcases ixc 10 me with hi_me | ⟨j_me, hj_me, hi_me, ei_me⟩
    · refine lv_aload_n hx hb dX8_read_0 rfl (lv_at hl 0 rfl) ?_
      refine lv_iload_n hx hb dX8_read_1 rfl (lv_at hl 1 rfl) ?_
      refine va_csq (W.runV (As := [.int (nI j_lg)]) (rest := []) ⟨hx, hb, hml, hown, hts⟩ (c_logOf l G cy L F o qa Mm Dd Sl Pp Kr Bk Xx hR j_lg hj_lg) (cwV 1 hts gX8_read_X8_logOf rfl rfl rfl (by decide +kernel) ⟨Nat.le_of_ble_eq_true rfl, Nat.le_of_ble_eq_true rfl⟩) (preV_of okP (⟨hP, hK, hD.top⟩) (pl_recv hK hP (ci := 7) rfl hmo hFo)) rfl rfl hl.1 rfl (lv_room (Nat.le_of_ble_eq_true rfl)) dX8_read_2 ⟨Nat.le_of_ble_eq_true rfl, Nat.le_of_ble_eq_true rfl⟩) (fun r5 hr5 => ?_)
      subst hr5
      refine W.eq (g2 := F0 m 5 ls [.ref (qa 2 j_lg)]) rfl ?_
      refine lv_astore (lv' := [(4, .ref (qa 2 j_lg)), (0, .ref o), (1, .int (nI j_lg)), (2, .int i), (3, .int me)]) hx hb dX8_read_5 hl (by decide) rfl (fun ls hl => ?_)
      refine lv_aload_n hx hb dX8_read_7 rfl (lv_at hl 1 rfl) ?_
      refine lv_iload_n hx hb dX8_read_8 rfl (lv_at hl 4 rfl) ?_
      refine va_csq (W.runV (As := [.int me]) (rest := []) ⟨hx, hb, hml, hown, hts⟩ (c_meterOf_no l G cy L F o qa Mm Dd Sl Pp Kr Bk Xx hR me hi_me) (cwV 1 hts gX8_read_X8_meterOf rfl rfl rfl (by decide +kernel) ⟨Nat.le_of_ble_eq_true rfl, Nat.le_of_ble_eq_true rfl⟩) (preV_of okP (⟨hP, hK, hD.top⟩) (pl_recv hK hP (ci := 7) rfl hmo hFo)) rfl rfl hl.1 rfl (lv_room (Nat.le_of_ble_eq_true rfl)) dX8_read_9 ⟨Nat.le_of_ble_eq_true rfl, Nat.le_of_ble_eq_true rfl⟩) (fun r6 hr6 => ?_)
      subst hr6
      refine W.eq (g2 := F0 m 12 ls [.null]) rfl ?_
      refine lv_astoreN (lv' := [(5, .null), (4, .ref (qa 2 j_lg)), (0, .ref o), (1, .int (nI j_lg)), (2, .int i), (3, .int me)]) hx hb dX8_read_12 hl (by decide) rfl (fun ls hl => ?_)
      refine lv_aload hx hb dX8_read_14 (lv_at hl 1 rfl) ?_
      refine lv_ifnull hx hb dX8_read_16 ?_
      refine lv_aloadN hx hb dX8_read_19 (lv_at hl 0 rfl) ?_
      refine lv_ifnonnullN hx hb dX8_read_21 ?_
      refine lv_sipush (v := -1001) hx hb dX8_read_24 (by decide) ?_
      exact W.iret (v := -1001) hx hb hr (fun t ht hW => ⟨⟨-1001, F, rfl, (by have hsp : sp_read Mm Sl Xx (nI j_lg) i me = (-1001, Mm, Xx) := (by unfold sp_read; rw [hi_lg, hi_me]); rw [hsp]; exact ⟨rfl, hR⟩), (by show va_P _ _ _ t.heap; rw [ht]; exact hP)⟩, hS.F ht⟩) hS.2.2 dX8_read_27
    · subst ei_me
      obtain ⟨hmm_me, nm_me, rl_me, hFm_me, hok_me⟩ := hRM j_me hj_me
      rcases lackc (i := i) (by decide) hsz_lg with ⟨hp_i, hk_i⟩ | ⟨hp_i, hk_i⟩ | ⟨q_i, hq_i, hs_i, hp_i, hk_i, ei_i⟩
      · have hp0_i : ¬ pl0 (Sl.1 j_lg) i = 0 := by rw [hp_i]; decide
        refine lv_aload_n hx hb dX8_read_0 rfl (lv_at hl 0 rfl) ?_
        refine lv_iload_n hx hb dX8_read_1 rfl (lv_at hl 1 rfl) ?_
        refine va_csq (W.runV (As := [.int (nI j_lg)]) (rest := []) ⟨hx, hb, hml, hown, hts⟩ (c_logOf l G cy L F o qa Mm Dd Sl Pp Kr Bk Xx hR j_lg hj_lg) (cwV 1 hts gX8_read_X8_logOf rfl rfl rfl (by decide +kernel) ⟨Nat.le_of_ble_eq_true rfl, Nat.le_of_ble_eq_true rfl⟩) (preV_of okP (⟨hP, hK, hD.top⟩) (pl_recv hK hP (ci := 7) rfl hmo hFo)) rfl rfl hl.1 rfl (lv_room (Nat.le_of_ble_eq_true rfl)) dX8_read_2 ⟨Nat.le_of_ble_eq_true rfl, Nat.le_of_ble_eq_true rfl⟩) (fun r7 hr7 => ?_)
        subst hr7
        refine W.eq (g2 := F0 m 5 ls [.ref (qa 2 j_lg)]) rfl ?_
        refine lv_astore (lv' := [(4, .ref (qa 2 j_lg)), (0, .ref o), (1, .int (nI j_lg)), (2, .int i), (3, .int (nI j_me))]) hx hb dX8_read_5 hl (by decide) rfl (fun ls hl => ?_)
        refine lv_aload_n hx hb dX8_read_7 rfl (lv_at hl 1 rfl) ?_
        refine lv_iload_n hx hb dX8_read_8 rfl (lv_at hl 4 rfl) ?_
        refine va_csq (W.runV (As := [.int (nI j_me)]) (rest := []) ⟨hx, hb, hml, hown, hts⟩ (c_meterOf l G cy L F o qa Mm Dd Sl Pp Kr Bk Xx hR j_me hj_me) (cwV 1 hts gX8_read_X8_meterOf rfl rfl rfl (by decide +kernel) ⟨Nat.le_of_ble_eq_true rfl, Nat.le_of_ble_eq_true rfl⟩) (preV_of okP (⟨hP, hK, hD.top⟩) (pl_recv hK hP (ci := 7) rfl hmo hFo)) rfl rfl hl.1 rfl (lv_room (Nat.le_of_ble_eq_true rfl)) dX8_read_9 ⟨Nat.le_of_ble_eq_true rfl, Nat.le_of_ble_eq_true rfl⟩) (fun r8 hr8 => ?_)
        subst hr8
        refine W.eq (g2 := F0 m 12 ls [.ref (qa 0 j_me)]) rfl ?_
        refine lv_astore (lv' := [(5, .ref (qa 0 j_me)), (4, .ref (qa 2 j_lg)), (0, .ref o), (1, .int (nI j_lg)), (2, .int i), (3, .int (nI j_me))]) hx hb dX8_read_12 hl (by decide) rfl (fun ls hl => ?_)
        refine lv_aload hx hb dX8_read_14 (lv_at hl 1 rfl) ?_
        refine lv_ifnull hx hb dX8_read_16 ?_
        refine lv_aload hx hb dX8_read_19 (lv_at hl 0 rfl) ?_
        refine lv_ifnonnull (tgt := 28) hx hb dX8_read_21 (by decide) ?_
        refine lv_aload hx hb dX8_read_28 (lv_at hl 1 rfl) ?_
        refine lv_iload_n hx hb dX8_read_30 rfl (lv_at hl 4 rfl) ?_
        refine vp_callSi (cr_of (va_runU (As := [.int i]) (rest := []) ⟨hx, hb, hml, hown, hts⟩ (c_lackAt_log l G cy L F (qa 2 j_lg) (Sl.1 j_lg) (lw j_lg) (qa 3 j_lg) hml_lg hFl_lg i) (va_cwU 1 hts gX8_read_X5_lackAt_u213X3 rfl rfl rfl rfl (by decide +kernel) ⟨Nat.le_of_ble_eq_true rfl, Nat.le_of_ble_eq_true rfl⟩) (preV_of okP (⟨hP, hK, hD.top⟩) (pl_recv hK hP (ci := 3) rfl hml_lg hFl_lg)) rfl rfl hl.1 rfl (lv_room (Nat.le_of_ble_eq_true rfl)) dX8_read_31 ⟨Nat.le_of_ble_eq_true rfl, Nat.le_of_ble_eq_true rfl⟩)) (fun r9 hr9 => ?_)
        rw [hk_i] at hr9
        subst hr9
        refine lv_istore (lv' := [(6, .int 1), (5, .ref (qa 0 j_me)), (4, .ref (qa 2 j_lg)), (0, .ref o), (1, .int (nI j_lg)), (2, .int i), (3, .int (nI j_me))]) hx hb dX8_read_34 hl (by decide) rfl (fun ls hl => ?_)
        refine lv_iload hx hb dX8_read_36 (lv_at hl 0 rfl) ?_
        refine lv_if_eq (tgt := 48) hx hb dX8_read_38 (by decide) (fun c10 => absurd c10 (by decide)) (fun c10 => ?_)
        refine lv_aload_n hx hb dX8_read_41 rfl (lv_at hl 3 rfl) ?_
        refine lv_iload hx hb dX8_read_42 (lv_at hl 0 rfl) ?_
        refine va_calli (va_runV (As := [.int 1]) (rest := []) ⟨hx, hb, hml, hown, hts⟩ (c_fail_1 l G cy L F s.heap.size o qa Mm Dd Sl Pp Kr Bk Xx hR) (cwV 1 hts gX8_read_X8_fail rfl rfl rfl (by decide +kernel) ⟨Nat.le_of_ble_eq_true rfl, Nat.le_of_ble_eq_true rfl⟩) (preV_of okQ (⟨rfl, hP, hK, hD.top⟩) (pl_recv hK hP (ci := 7) rfl hmo hFo)) rfl rfl hl.1 rfl (lv_room (Nat.le_of_ble_eq_true rfl)) dX8_read_44 ⟨Nat.le_of_ble_eq_true rfl, Nat.le_of_ble_eq_true rfl⟩) hS (fun q _ h => pl_free hD hS hA q h) (pl_free hD hS hA) (fun r12 F11 t H1 locs ht hvm hw hP1 hz1 hk1 hS => ?_)
        have hP1 : va_P G vwCl (va_pl L F11) t.heap := hP1
        rw [ht] at hP1
        have hP := hP1
        generalize H1 = H at hP hS ⊢
        obtain ⟨hqr12, hR13⟩ := hw
        exact W.iret (v := r12) hx hb hr (fun t ht hW => ⟨⟨r12, F11, rfl, (by have hsp : sp_read Mm Sl Xx (nI j_lg) i (nI j_me) = (-10 - 1, Mm, failX Xx 1) := (by unfold sp_read; rw [hi_lg, hi_me]; exact (if_neg hp0_i).trans (by rw [hp_i]; rfl)); rw [hsp]; exact ⟨hqr12, hR13⟩), (by show va_P _ _ _ t.heap; rw [ht]; exact hP)⟩, hS.F ht⟩) hS.2.2 dX8_read_47
      · have hp0_i : ¬ pl0 (Sl.1 j_lg) i = 0 := by rw [hp_i]; decide
        refine lv_aload_n hx hb dX8_read_0 rfl (lv_at hl 0 rfl) ?_
        refine lv_iload_n hx hb dX8_read_1 rfl (lv_at hl 1 rfl) ?_
        refine va_csq (W.runV (As := [.int (nI j_lg)]) (rest := []) ⟨hx, hb, hml, hown, hts⟩ (c_logOf l G cy L F o qa Mm Dd Sl Pp Kr Bk Xx hR j_lg hj_lg) (cwV 1 hts gX8_read_X8_logOf rfl rfl rfl (by decide +kernel) ⟨Nat.le_of_ble_eq_true rfl, Nat.le_of_ble_eq_true rfl⟩) (preV_of okP (⟨hP, hK, hD.top⟩) (pl_recv hK hP (ci := 7) rfl hmo hFo)) rfl rfl hl.1 rfl (lv_room (Nat.le_of_ble_eq_true rfl)) dX8_read_2 ⟨Nat.le_of_ble_eq_true rfl, Nat.le_of_ble_eq_true rfl⟩) (fun r14 hr14 => ?_)
        subst hr14
        refine W.eq (g2 := F0 m 5 ls [.ref (qa 2 j_lg)]) rfl ?_
        refine lv_astore (lv' := [(4, .ref (qa 2 j_lg)), (0, .ref o), (1, .int (nI j_lg)), (2, .int i), (3, .int (nI j_me))]) hx hb dX8_read_5 hl (by decide) rfl (fun ls hl => ?_)
        refine lv_aload_n hx hb dX8_read_7 rfl (lv_at hl 1 rfl) ?_
        refine lv_iload_n hx hb dX8_read_8 rfl (lv_at hl 4 rfl) ?_
        refine va_csq (W.runV (As := [.int (nI j_me)]) (rest := []) ⟨hx, hb, hml, hown, hts⟩ (c_meterOf l G cy L F o qa Mm Dd Sl Pp Kr Bk Xx hR j_me hj_me) (cwV 1 hts gX8_read_X8_meterOf rfl rfl rfl (by decide +kernel) ⟨Nat.le_of_ble_eq_true rfl, Nat.le_of_ble_eq_true rfl⟩) (preV_of okP (⟨hP, hK, hD.top⟩) (pl_recv hK hP (ci := 7) rfl hmo hFo)) rfl rfl hl.1 rfl (lv_room (Nat.le_of_ble_eq_true rfl)) dX8_read_9 ⟨Nat.le_of_ble_eq_true rfl, Nat.le_of_ble_eq_true rfl⟩) (fun r15 hr15 => ?_)
        subst hr15
        refine W.eq (g2 := F0 m 12 ls [.ref (qa 0 j_me)]) rfl ?_
        refine lv_astore (lv' := [(5, .ref (qa 0 j_me)), (4, .ref (qa 2 j_lg)), (0, .ref o), (1, .int (nI j_lg)), (2, .int i), (3, .int (nI j_me))]) hx hb dX8_read_12 hl (by decide) rfl (fun ls hl => ?_)
        refine lv_aload hx hb dX8_read_14 (lv_at hl 1 rfl) ?_
        refine lv_ifnull hx hb dX8_read_16 ?_
        refine lv_aload hx hb dX8_read_19 (lv_at hl 0 rfl) ?_
        refine lv_ifnonnull (tgt := 28) hx hb dX8_read_21 (by decide) ?_
        refine lv_aload hx hb dX8_read_28 (lv_at hl 1 rfl) ?_
        refine lv_iload_n hx hb dX8_read_30 rfl (lv_at hl 4 rfl) ?_
        refine vp_callSi (cr_of (va_runU (As := [.int i]) (rest := []) ⟨hx, hb, hml, hown, hts⟩ (c_lackAt_log l G cy L F (qa 2 j_lg) (Sl.1 j_lg) (lw j_lg) (qa 3 j_lg) hml_lg hFl_lg i) (va_cwU 1 hts gX8_read_X5_lackAt_u213X3 rfl rfl rfl rfl (by decide +kernel) ⟨Nat.le_of_ble_eq_true rfl, Nat.le_of_ble_eq_true rfl⟩) (preV_of okP (⟨hP, hK, hD.top⟩) (pl_recv hK hP (ci := 3) rfl hml_lg hFl_lg)) rfl rfl hl.1 rfl (lv_room (Nat.le_of_ble_eq_true rfl)) dX8_read_31 ⟨Nat.le_of_ble_eq_true rfl, Nat.le_of_ble_eq_true rfl⟩)) (fun r16 hr16 => ?_)
        rw [hk_i] at hr16
        subst hr16
        refine lv_istore (lv' := [(6, .int 2), (5, .ref (qa 0 j_me)), (4, .ref (qa 2 j_lg)), (0, .ref o), (1, .int (nI j_lg)), (2, .int i), (3, .int (nI j_me))]) hx hb dX8_read_34 hl (by decide) rfl (fun ls hl => ?_)
        refine lv_iload hx hb dX8_read_36 (lv_at hl 0 rfl) ?_
        refine lv_if_eq (tgt := 48) hx hb dX8_read_38 (by decide) (fun c17 => absurd c17 (by decide)) (fun c17 => ?_)
        refine lv_aload_n hx hb dX8_read_41 rfl (lv_at hl 3 rfl) ?_
        refine lv_iload hx hb dX8_read_42 (lv_at hl 0 rfl) ?_
        refine va_calli (va_runV (As := [.int 2]) (rest := []) ⟨hx, hb, hml, hown, hts⟩ (c_fail_2 l G cy L F s.heap.size o qa Mm Dd Sl Pp Kr Bk Xx hR) (cwV 1 hts gX8_read_X8_fail rfl rfl rfl (by decide +kernel) ⟨Nat.le_of_ble_eq_true rfl, Nat.le_of_ble_eq_true rfl⟩) (preV_of okQ (⟨rfl, hP, hK, hD.top⟩) (pl_recv hK hP (ci := 7) rfl hmo hFo)) rfl rfl hl.1 rfl (lv_room (Nat.le_of_ble_eq_true rfl)) dX8_read_44 ⟨Nat.le_of_ble_eq_true rfl, Nat.le_of_ble_eq_true rfl⟩) hS (fun q _ h => pl_free hD hS hA q h) (pl_free hD hS hA) (fun r19 F18 t H1 locs ht hvm hw hP1 hz1 hk1 hS => ?_)
        have hP1 : va_P G vwCl (va_pl L F18) t.heap := hP1
        rw [ht] at hP1
        have hP := hP1
        generalize H1 = H at hP hS ⊢
        obtain ⟨hqr19, hR20⟩ := hw
        exact W.iret (v := r19) hx hb hr (fun t ht hW => ⟨⟨r19, F18, rfl, (by have hsp : sp_read Mm Sl Xx (nI j_lg) i (nI j_me) = (-10 - 2, Mm, failX Xx 2) := (by unfold sp_read; rw [hi_lg, hi_me]; exact (if_neg hp0_i).trans (by rw [hp_i]; rfl)); rw [hsp]; exact ⟨hqr19, hR20⟩), (by show va_P _ _ _ t.heap; rw [ht]; exact hP)⟩, hS.F ht⟩) hS.2.2 dX8_read_47
      · subst ei_i
        refine lv_aload_n hx hb dX8_read_0 rfl (lv_at hl 0 rfl) ?_
        refine lv_iload_n hx hb dX8_read_1 rfl (lv_at hl 1 rfl) ?_
        refine va_csq (W.runV (As := [.int (nI j_lg)]) (rest := []) ⟨hx, hb, hml, hown, hts⟩ (c_logOf l G cy L F o qa Mm Dd Sl Pp Kr Bk Xx hR j_lg hj_lg) (cwV 1 hts gX8_read_X8_logOf rfl rfl rfl (by decide +kernel) ⟨Nat.le_of_ble_eq_true rfl, Nat.le_of_ble_eq_true rfl⟩) (preV_of okP (⟨hP, hK, hD.top⟩) (pl_recv hK hP (ci := 7) rfl hmo hFo)) rfl rfl hl.1 rfl (lv_room (Nat.le_of_ble_eq_true rfl)) dX8_read_2 ⟨Nat.le_of_ble_eq_true rfl, Nat.le_of_ble_eq_true rfl⟩) (fun r21 hr21 => ?_)
        subst hr21
        refine W.eq (g2 := F0 m 5 ls [.ref (qa 2 j_lg)]) rfl ?_
        refine lv_astore (lv' := [(4, .ref (qa 2 j_lg)), (0, .ref o), (1, .int (nI j_lg)), (2, .int (nI q_i)), (3, .int (nI j_me))]) hx hb dX8_read_5 hl (by decide) rfl (fun ls hl => ?_)
        refine lv_aload_n hx hb dX8_read_7 rfl (lv_at hl 1 rfl) ?_
        refine lv_iload_n hx hb dX8_read_8 rfl (lv_at hl 4 rfl) ?_
        refine va_csq (W.runV (As := [.int (nI j_me)]) (rest := []) ⟨hx, hb, hml, hown, hts⟩ (c_meterOf l G cy L F o qa Mm Dd Sl Pp Kr Bk Xx hR j_me hj_me) (cwV 1 hts gX8_read_X8_meterOf rfl rfl rfl (by decide +kernel) ⟨Nat.le_of_ble_eq_true rfl, Nat.le_of_ble_eq_true rfl⟩) (preV_of okP (⟨hP, hK, hD.top⟩) (pl_recv hK hP (ci := 7) rfl hmo hFo)) rfl rfl hl.1 rfl (lv_room (Nat.le_of_ble_eq_true rfl)) dX8_read_9 ⟨Nat.le_of_ble_eq_true rfl, Nat.le_of_ble_eq_true rfl⟩) (fun r22 hr22 => ?_)
        subst hr22
        refine W.eq (g2 := F0 m 12 ls [.ref (qa 0 j_me)]) rfl ?_
        refine lv_astore (lv' := [(5, .ref (qa 0 j_me)), (4, .ref (qa 2 j_lg)), (0, .ref o), (1, .int (nI j_lg)), (2, .int (nI q_i)), (3, .int (nI j_me))]) hx hb dX8_read_12 hl (by decide) rfl (fun ls hl => ?_)
        refine lv_aload hx hb dX8_read_14 (lv_at hl 1 rfl) ?_
        refine lv_ifnull hx hb dX8_read_16 ?_
        refine lv_aload hx hb dX8_read_19 (lv_at hl 0 rfl) ?_
        refine lv_ifnonnull (tgt := 28) hx hb dX8_read_21 (by decide) ?_
        refine lv_aload hx hb dX8_read_28 (lv_at hl 1 rfl) ?_
        refine lv_iload_n hx hb dX8_read_30 rfl (lv_at hl 4 rfl) ?_
        refine vp_callSi (cr_of (va_runU (As := [.int (nI q_i)]) (rest := []) ⟨hx, hb, hml, hown, hts⟩ (c_lackAt_log l G cy L F (qa 2 j_lg) (Sl.1 j_lg) (lw j_lg) (qa 3 j_lg) hml_lg hFl_lg (nI q_i)) (va_cwU 1 hts gX8_read_X5_lackAt_u213X3 rfl rfl rfl rfl (by decide +kernel) ⟨Nat.le_of_ble_eq_true rfl, Nat.le_of_ble_eq_true rfl⟩) (preV_of okP (⟨hP, hK, hD.top⟩) (pl_recv hK hP (ci := 3) rfl hml_lg hFl_lg)) rfl rfl hl.1 rfl (lv_room (Nat.le_of_ble_eq_true rfl)) dX8_read_31 ⟨Nat.le_of_ble_eq_true rfl, Nat.le_of_ble_eq_true rfl⟩)) (fun r23 hr23 => ?_)
        rw [hk_i] at hr23
        subst hr23
        refine lv_istore (lv' := [(6, .int 0), (5, .ref (qa 0 j_me)), (4, .ref (qa 2 j_lg)), (0, .ref o), (1, .int (nI j_lg)), (2, .int (nI q_i)), (3, .int (nI j_me))]) hx hb dX8_read_34 hl (by decide) rfl (fun ls hl => ?_)
        refine lv_iload hx hb dX8_read_36 (lv_at hl 0 rfl) ?_
        refine lv_if_eq (tgt := 48) hx hb dX8_read_38 (by decide) (fun c24 => ?_) (fun c24 => absurd (by decide) c24)
        refine lv_aload hx hb dX8_read_48 (lv_at hl 1 rfl) ?_
        refine lv_aload hx hb dX8_read_50 (lv_at hl 2 rfl) ?_
        refine pg_get (ci := 3) (C := RX3) (T := TX3) (N := 3) hx hb hts hinX3 hown hK hP hml_lg hFl_lg rfl 1 (by decide) (hts (.fieldLink RX8 216 "RopeDrums$Log" "lane" "I") (by decide +kernel)) (fun _ h9 => h9) rfl dX8_read_52 ?_
        refine lv_aload hx hb dX8_read_55 (lv_at hl 2 rfl) ?_
        refine pg_get (ci := 3) (C := RX3) (T := TX3) (N := 3) hx hb hts hinX3 hown hK hP hml_lg hFl_lg rfl 2 (by decide) (hts (.fieldLink RX8 200 "RopeDrums$Log" "row" "[D") (by decide +kernel)) (fun _ h9 => h9) rfl dX8_read_57 ?_
        refine lv_iload_n hx hb dX8_read_60 rfl (lv_at hl 5 rfl) ?_
        refine pg_dald hx hb hK hP 0 hmr_lg hFr_lg rfl (vp_in_nI hq_i (by decide)) dX8_read_61 ?_
        refine lv_topd (fun v25 ev25 => ?_)
        refine va_callv (va_runV (As := [.int (lw j_lg), .double v25]) (rest := []) ⟨hx, hb, hml, hown, hts⟩ (c_holdReal l G cy L F s.heap.size (qa 0 j_me) (Mm.1 j_me) nm_me rl_me hmm_me hFm_me (lw j_lg) v25) (cwV 2 hts gX8_read_X4_holdReal rfl rfl rfl (by decide +kernel) ⟨Nat.le_of_ble_eq_true rfl, Nat.le_of_ble_eq_true rfl⟩) (preV_of okQ (⟨rfl, hP, hK, hD.top⟩) (pl_recv hK hP (ci := 4) rfl hmm_me hFm_me)) rfl rfl hl.1 rfl (lv_room (Nat.le_of_ble_eq_true rfl)) dX8_read_62 ⟨Nat.le_of_ble_eq_true rfl, Nat.le_of_ble_eq_true rfl⟩) hS (fun q _ h => pl_free hD hS hA q h) (pl_free hD hS hA) (fun F26 t H1 locs ht hvm hw hP1 hz1 hk1 hS => ?_)
        have hP1 : va_P G vwCl (va_pl L F26) t.heap := hP1
        rw [ht] at hP1
        have hP := hP1
        generalize H1 = H at hP hS ⊢
        have eF26 : F26 = va_up F (qa 0 j_me) (.inr (4, [.int (lw j_lg), .long nm_me, .double v25])) := hw
        have hFo_26 : F26 o = .inr (7, [.ref (qa 8 0), .ref (qa 8 1), .ref (qa 8 2), .ref (qa 8 3), .ref (qa 8 4), .ref (qa 8 5), .ref (qa 8 6), .int Pp.1, .int Xx.1]) := by rw [eF26, va_up_ne _ _ (pl_ne hFo hFm_me rfl)]; exact hFo
        have hFqa80_26 : F26 (qa 8 0) = cQ (cy 7) 10 (pR 10 (qa 0)) := by rw [eF26, va_up_ne _ _ (pl_ne hF0 hFm_me rfl)]; exact hF0
        have hFqa81_26 : F26 (qa 8 1) = cQ (cy 5) 6 (pR 6 (qa 1)) := by rw [eF26, va_up_ne _ _ (pl_ne hF1 hFm_me rfl)]; exact hF1
        have hFqa82_26 : F26 (qa 8 2) = cQ (cy 6) 8 (pR 8 (qa 2)) := by rw [eF26, va_up_ne _ _ (pl_ne hF2 hFm_me rfl)]; exact hF2
        have hFqa83_26 : F26 (qa 8 3) = cQ (cy 9) 30 (pR Pp.1.toInt.toNat (qa 7)) := by rw [eF26, va_up_ne _ _ (pl_ne hFs hFm_me rfl)]; exact hFs
        have hFqa84_26 : F26 (qa 8 4) = cQ (cy 8) 5 (pR 5 (qa 4)) := by rw [eF26, va_up_ne _ _ (pl_ne hF4 hFm_me rfl)]; exact hF4
        have hFqa85_26 : F26 (qa 8 5) = cQ (cy 4) 4 (pR 4 (qa 6)) := by rw [eF26, va_up_ne _ _ (pl_ne hF5 hFm_me rfl)]; exact hF5
        have hFqa86_26 : F26 (qa 8 6) = cI (cy 1) 6 Xx.2 := by rw [eF26, va_up_ne _ _ (pl_ne hFf hFm_me rfl)]; exact hFf
        have hFqa2j_lg_26 : F26 (qa 2 j_lg) = .inr (3, [.int (Sl.1 j_lg), .int (lw j_lg), .ref (qa 3 j_lg)]) := by rw [eF26, va_up_ne _ _ (pl_ne hFl_lg hFm_me rfl)]; exact hFl_lg
        have hFqa3j_lg_26 : F26 (qa 3 j_lg) = cD (cy 0) 16 f_lg := by rw [eF26, va_up_ne _ _ (pl_ne hFr_lg hFm_me rfl)]; exact hFr_lg
        have hFqa0j_me_26 : F26 (qa 0 j_me) = .inr (4, [.int (lw j_lg), .long nm_me, .double v25]) := by rw [eF26]; exact va_up_self _ _ _
        have hR27 : Rep cy L o qa (setM Mm j_me (lw j_lg) (Sl.2 (16 * j_lg + q_i))) Dd Sl Pp Kr Bk Xx F26 := by subst ev25; rw [eF26]; exact hR.meter hj_me (okR.okM (by rw [nI_clamp (by omega)]; exact hokl_lg q_i hs_i))
        refine lv_aload_n hx hb dX8_read_65 rfl (lv_at hl 3 rfl) ?_
        refine lv_aload hx hb dX8_read_66 (lv_at hl 2 rfl) ?_
        refine pg_get (ci := 3) (C := RX3) (T := TX3) (N := 3) hx hb hts hinX3 hown hK hP hml_lg hFqa2j_lg_26 rfl 1 (by decide) (hts (.fieldLink RX8 216 "RopeDrums$Log" "lane" "I") (by decide +kernel)) (fun _ h9 => h9) rfl dX8_read_68 ?_
        refine va_calli (va_runV (As := [.int (lw j_lg)]) (rest := []) ⟨hx, hb, hml, hown, hts⟩ (c_succeed l G cy L F26 H.size o qa (setM Mm j_me (lw j_lg) (Sl.2 (16 * j_lg + q_i))) Dd Sl Pp Kr Bk Xx hR27 (lw j_lg)) (cwV 1 hts gX8_read_X8_succeed rfl rfl rfl (by decide +kernel) ⟨Nat.le_of_ble_eq_true rfl, Nat.le_of_ble_eq_true rfl⟩) (preV_of okQ (⟨rfl, hP, hK, hD.top⟩) (pl_recv hK hP (ci := 7) rfl hmo hFo_26)) rfl rfl hl.1 rfl (lv_room (Nat.le_of_ble_eq_true rfl)) dX8_read_71 ⟨Nat.le_of_ble_eq_true rfl, Nat.le_of_ble_eq_true rfl⟩) hS (fun q _ h => pl_free hD hS hA q h) (pl_free hD hS hA) (fun r29 F28 t H1 locs ht hvm hw hP1 hz1 hk1 hS => ?_)
        have hP1 : va_P G vwCl (va_pl L F28) t.heap := hP1
        rw [ht] at hP1
        have hP := hP1
        generalize H1 = H at hP hS ⊢
        obtain ⟨hqr29, hR30⟩ := hw
        exact W.iret (v := r29) hx hb hr (fun t ht hW => ⟨⟨r29, F28, rfl, (by have hsp : sp_read Mm Sl Xx (nI j_lg) (nI q_i) (nI j_me) = (lw j_lg, (setM Mm j_me (lw j_lg) (Sl.2 (16 * j_lg + q_i))), goodX Xx) := (by unfold sp_read; rw [hi_lg, hi_me]; exact (if_pos hp_i).trans (by rw [nI_tn (by omega)])); rw [hsp]; exact ⟨hqr29, hR30⟩), (by show va_P _ _ _ t.heap; rw [ht]; exact hP)⟩, hS.F ht⟩) hS.2.2 dX8_read_74
