def cz (f : Nat → Option Nat) (k : Nat) : Nat → Option Nat := fun i => if i < k then none else f i
theorem cz0 (f : Nat → Option Nat) : cz f 0 = f := by funext i; simp [cz]
theorem czs (f : Nat → Option Nat) (k : Nat) (hk : k < 2 ^ 31) : va_up (cz f k) (nI k).toNatClampNeg none = cz f (k + 1) := by
  funext i
  rw [nI_clamp hk]
  unfold va_up cz
  by_cases h1 : i = k
  · rw [if_pos h1, if_pos (by omega)]
  · rw [if_neg h1]
    by_cases h2 : i < k
    · rw [if_pos h2, if_pos (by omega)]
    · rw [if_neg h2, if_neg (by omega)]

set_option maxHeartbeats 8000000 in
set_option maxRecDepth 100000 in
theorem c_clearRow (l : Launch) (G : va_G) (cy : Nat → ClassId) (L : List Nat) (F : Nat → va_E) (sz : Nat) (h0 ro : Nat) (sz0 al : Int32) (f : Nat → Option Nat) (hm0 : h0 ∈ L) (hF0 : F h0 = .inr (5, [.int sz0, .ref ro, .int al])) (hmr : ro ∈ L) (hFr : F ro = cQ (cy 9) 12 f)  : Met l yX6_clearRow wsX6_clearRow ({ frames := 0, cells := 0, slots := 0, locals := 0 }) (va_Pc [.ref h0] (fun U => bQ G cy L F sz U U.heap)) (va_Qv (fun F' : Nat → va_E => F' = va_up F ro (cQ (cy 9) 12 (cz f 12))) (fun F' t => va_P G vwCl (va_pl L F') t.heap) (va_A (va_pl L F) sz)) 0 0 (va_A (va_pl L F) sz) := by
  refine Met.ofW (cc := cX6_clearRow) (maxL := 2) (ret := none) (by decide) rfl ?_
  intro p e s m args below meth c s₁ B hml hv
  obtain ⟨rfl, hsz, hP, hK, hD0⟩ := hv
  have hx := B.exec
  have hb := B.bytes
  have hr := B.returns
  have hts := atoms_spec (ws := wsX6_clearRow) B.pre
  have hown : s.vm.findClass RX6 = some m.cls := findClass_of_methodNamed B.named
  have hlocks := B.notSynchronized
  have hinX6 : ∀ w ∈ wsX60, w ∈ wsX6_clearRow := by decide +kernel
  subst hsz
  have hD := hD0.self F s.heap.size
  generalize hAe : va_A (va_pl L F) s.heap.size = A at hD ⊢
  have hA : ∀ q : Nat, s.heap.size ≤ q → A q := fun q h => by rw [← hAe]; exact Or.inr h
  have hS : va_S A s.heap s.heap [] := va_S.rf
  have hl := lv_entry ([.ref h0]) (n := 2) (Nat.le_of_ble_eq_true rfl)
  rw [lg_entry_eq]
  generalize (lg_sl ([.ref h0]) ++ List.replicate (2 - (lg_sl ([.ref h0])).length) Slot.unset).toArray = ls at hl ⊢
  have hl : lv_has ls 2 [(0, .ref h0)] := hl
  refine lv_iconst (v := 0) hx hb dX6_clearRow_0 (by decide) ?_
  refine lv_istore_n (lv' := [(1, .int 0), (0, .ref h0)]) hx hb dX6_clearRow_1 rfl hl (by decide) rfl (fun ls hl => ?_)
  refine lp_w (pc := 2) (nL := 2) (α := Nat) (fun xx => xx ≤ 12) (fun xx => [(1, .int (nI xx)), (0, .ref h0)]) (fun xx => va_pl L (va_up F ro (cQ (cy 9) 12 (cz f xx)))) (fun xx => 12 - xx) (fun kk ls H locs hI hP hS hl K => ?_) 0 ls (by decide) (by rw [show va_up F ro (cQ (cy 9) 12 (cz f 0)) = F from (by rw [cz0]; exact upid hFr)]; exact hP) hS (lv_sub hl [0, 1] rfl)
  obtain ⟨F1, eF1⟩ : ∃ y : Nat → va_E, y = va_up F ro (cQ (cy 9) 12 (cz f kk)) := ⟨_, rfl⟩
  rw [← eF1] at hP
  have hFh0_1 : F1 h0 = .inr (5, [.int sz0, .ref ro, .int al]) := by rw [eF1, va_up_ne _ _ (pl_ne hF0 hFr rfl)]; exact hF0
  have hFro_1 : F1 ro = cQ (cy 9) 12 (cz f kk) := by rw [eF1]; exact va_up_self _ _ _
  have hl : lv_has ls 2 [(1, .int (nI kk)), (0, .ref h0)] := hl
  refine lv_iload_n hx hb dX6_clearRow_2 rfl (lv_at hl 0 rfl) ?_
  refine lv_bipush (v := 12) hx hb dX6_clearRow_3 (by decide) ?_
  refine lv_icmp_ge (tgt := 21) hx hb dX6_clearRow_5 (by decide) (fun c2 => ?_) (fun c2 => ?_)
  · exact W.vret hx hb hr (fun t ht hW => ⟨⟨F1, rfl, (by have hge : kk = 12 := (by have hc := c2; rw [fa_le, nI_toInt (by omega)] at hc; have h7 : (12 : Int32).toInt = 12 := (by decide); omega); subst hge; rw [eF1]), (by show va_P _ _ _ t.heap; rw [ht]; exact hP)⟩, hS.F ht⟩) hS.2.2 dX6_clearRow_21
  · have hlt : kk < 12 := by have hc := c2; rw [fa_le, nI_toInt (by omega)] at hc; have h7 : (12 : Int32).toInt = 12 := (by decide); omega
    refine lv_aload_n hx hb dX6_clearRow_8 rfl (lv_at hl 1 rfl) ?_
    refine pg_get (ci := 5) (C := RX6) (T := TX6) (N := 3) hx hb hts hinX6 hown hK hP hm0 hFh0_1 rfl 1 (by decide) (hts (.fieldLink RX6 11 "RopeDrums$Rack" "row" "[LRopeDrums$Spool;") (by decide +kernel)) (fun _ h9 => h9) rfl dX6_clearRow_9 ?_
    refine lv_iload_n hx hb dX6_clearRow_12 rfl (lv_at hl 0 rfl) ?_
    refine lv_null hx hb dX6_clearRow_13 ?_
    refine pg_astqN hx hb hK hP hD hS 9 hmr hFro_1 rfl (vp_in_nI hlt (by decide)) dX6_clearRow_14 (fun H locs F3 eF3 hP hS => ?_)
    have hFh0_3 : F3 h0 = .inr (5, [.int sz0, .ref ro, .int al]) := by rw [eF3, va_up_ne _ _ (pl_ne hFh0_1 hFro_1 rfl)]; exact hFh0_1
    have hFro_3 : F3 ro = cQ (cy 9) 12 (va_up (cz f kk) (nI kk : Int32).toNatClampNeg none) := by rw [eF3]; exact va_up_self _ _ _
    obtain ⟨v4, ev4⟩ : ∃ y : Int32, y = (nI kk) + (1) := ⟨_, rfl⟩
    refine lv_iinc (v := v4) (lv' := [(1, .int v4), (0, .ref h0)]) hx hb dX6_clearRow_15 hl (k := 0) rfl (by rw [ev4]; rfl) (by decide) rfl (fun ls hl => ?_)
    refine lv_goto (tgt := 2) hx hb dX6_clearRow_18 (by decide) ?_
    have hv : v4 = nI (kk + 1) := by rw [ev4, nI_succ]
    rw [hv] at hl
    exact K (kk + 1) ls H locs (by omega) (by omega) (by rw [← show F3 = va_up F ro (cQ (cy 9) 12 (cz f (kk + 1))) from (by rw [eF3, eF1, upup]; exact congrArg (fun x => va_up F ro (cQ (cy 9) 12 x)) (czs f kk (by omega)))]; exact hP) hS (lv_sub hl [0, 1] rfl)

set_option maxHeartbeats 8000000 in
set_option maxRecDepth 100000 in
theorem m_rack (l : Launch) (G : va_G) (cy : Nat → ClassId) (L : List Nat) (F : Nat → va_E) (ad : Nat → Nat) (sz : Nat) (o : Nat) (qa : Nat → Nat → Nat) (Mm : SM) (Dd : SD) (Sl : SL) (Pp : SP) (Kr : SR) (Bk : SB) (Xx : SX) (hR : Rep cy L o qa Mm Dd Sl Pp Kr Bk Xx F) (rk al n : Int32) (hal : al = 0 ∨ al = 1)  : Met l yX8_rack wsX8_rack ({ frames := 1, cells := 0, slots := 0, locals := 21 }) (va_Pc [.ref o, .int rk, .int al, .int n] (fun U => bQE G cy L F ad sz U U.heap)) (va_Qi (fun (r : Int32) (F' : Nat → va_E) => r = (sp_rack Kr rk al n).1 ∧ Rep cy L o qa Mm Dd Sl Pp (sp_rack Kr rk al n).2 Bk Xx F') (fun F' t => va_P G vwCl (va_pl L F') t.heap) (va_A (va_pl L F) sz)) 0 0 (va_A (va_pl L F) sz) := by
  refine Met.ofW (cc := cX8_rack) (maxL := 5) (ret := (some .int)) (by decide) rfl ?_
  intro p e s m args below meth c s₁ B hml hv
  obtain ⟨rfl, ⟨hsz, hP, hK, hD0⟩, hE, hN⟩ := hv
  have hx := B.exec
  have hb := B.bytes
  have hr := B.returns
  have hts := atoms_spec (ws := wsX8_rack) B.pre
  have hown : s.vm.findClass RX8 = some m.cls := findClass_of_methodNamed B.named
  have hlocks := B.notSynchronized
  have hinX8 : ∀ w ∈ wsX80, w ∈ wsX8_rack := by decide +kernel
  have hinX6 : ∀ w ∈ wsX60, w ∈ wsX8_rack := by decide +kernel
  subst hsz
  have hD := hD0.self F s.heap.size
  generalize hAe : va_A (va_pl L F) s.heap.size = A at hD hE ⊢
  have hA : ∀ q : Nat, s.heap.size ≤ q → A q := fun q h => by rw [← hAe]; exact Or.inr h
  have hS : va_S A s.heap s.heap [] := va_S.rf
  obtain ⟨⟨⟨hmo, hFo⟩, ⟨hmf, hFf⟩, hms, hFs⟩, ⟨⟨hm0, hF0⟩, ⟨hm1, hF1⟩, ⟨hm2, hF2⟩, ⟨hm4, hF4⟩, hm5, hF5⟩, hRM, hRD, hRG, hRP, hRR, hRB, hRI⟩ := id hR
  have hl := lv_entry ([.ref o, .int rk, .int al, .int n]) (n := 5) (Nat.le_of_ble_eq_true rfl)
  rw [lg_entry_eq]
  generalize (lg_sl ([.ref o, .int rk, .int al, .int n]) ++ List.replicate (5 - (lg_sl ([.ref o, .int rk, .int al, .int n])).length) Slot.unset).toArray = ls at hl ⊢
  have hl : lv_has ls 5 [(0, .ref o), (1, .int rk), (2, .int al), (3, .int n)] := hl
  rcases ixc 5 rk with hi_rk | ⟨j_rk, hj_rk, hi_rk, ei_rk⟩
  · refine lv_aload_n hx hb dX8_rack_0 rfl (lv_at hl 0 rfl) ?_
    refine lv_iload_n hx hb dX8_rack_1 rfl (lv_at hl 1 rfl) ?_
    refine va_csq (W.runV (As := [.int rk]) (rest := []) ⟨hx, hb, hml, hown, hts⟩ (c_rackOf_no l G cy L F o qa Mm Dd Sl Pp Kr Bk Xx hR rk hi_rk) (cwV 1 hts gX8_rack_X8_rackOf rfl rfl rfl (by decide +kernel) ⟨Nat.le_of_ble_eq_true rfl, Nat.le_of_ble_eq_true rfl⟩) (preV_of okP (⟨hP, hK, hD.top⟩) (pl_recv hK hP (ci := 7) rfl hmo hFo)) rfl rfl hl.1 rfl (lv_room (Nat.le_of_ble_eq_true rfl)) dX8_rack_2 ⟨Nat.le_of_ble_eq_true rfl, Nat.le_of_ble_eq_true rfl⟩) (fun r1 hr1 => ?_)
    subst hr1
    refine W.eq (g2 := F0 m 5 ls [.null]) rfl ?_
    refine lv_astoreN (lv' := [(4, .null), (0, .ref o), (1, .int rk), (2, .int al), (3, .int n)]) hx hb dX8_rack_5 hl (by decide) rfl (fun ls hl => ?_)
    refine lv_aloadN hx hb dX8_rack_7 (lv_at hl 0 rfl) ?_
    refine lv_ifnonnullN hx hb dX8_rack_9 ?_
    refine lv_sipush (v := -1001) hx hb dX8_rack_12 (by decide) ?_
    exact W.iret (v := -1001) hx hb hr (fun t ht hW => ⟨⟨-1001, F, rfl, (by have hsp : sp_rack Kr rk al n = (-1001, Kr) := (by unfold sp_rack; rw [hi_rk]); rw [hsp]; exact ⟨rfl, hR⟩), (by show va_P _ _ _ t.heap; rw [ht]; exact hP)⟩, hS.F ht⟩) hS.2.2 dX8_rack_15
  · subst ei_rk
    obtain ⟨hmk_rk, hmr_rk, hFk_rk, hal_rk, hsz_rk, f_rk, hFr_rk, hokk_rk⟩ := hRR j_rk hj_rk
    refine lv_aload_n hx hb dX8_rack_0 rfl (lv_at hl 0 rfl) ?_
    refine lv_iload_n hx hb dX8_rack_1 rfl (lv_at hl 1 rfl) ?_
    refine va_csq (W.runV (As := [.int (nI j_rk)]) (rest := []) ⟨hx, hb, hml, hown, hts⟩ (c_rackOf l G cy L F o qa Mm Dd Sl Pp Kr Bk Xx hR j_rk hj_rk) (cwV 1 hts gX8_rack_X8_rackOf rfl rfl rfl (by decide +kernel) ⟨Nat.le_of_ble_eq_true rfl, Nat.le_of_ble_eq_true rfl⟩) (preV_of okP (⟨hP, hK, hD.top⟩) (pl_recv hK hP (ci := 7) rfl hmo hFo)) rfl rfl hl.1 rfl (lv_room (Nat.le_of_ble_eq_true rfl)) dX8_rack_2 ⟨Nat.le_of_ble_eq_true rfl, Nat.le_of_ble_eq_true rfl⟩) (fun r2 hr2 => ?_)
    subst hr2
    refine W.eq (g2 := F0 m 5 ls [.ref (qa 4 j_rk)]) rfl ?_
    refine lv_astore (lv' := [(4, .ref (qa 4 j_rk)), (0, .ref o), (1, .int (nI j_rk)), (2, .int al), (3, .int n)]) hx hb dX8_rack_5 hl (by decide) rfl (fun ls hl => ?_)
    refine lv_aload hx hb dX8_rack_7 (lv_at hl 0 rfl) ?_
    refine lv_ifnonnull (tgt := 16) hx hb dX8_rack_9 (by decide) ?_
    refine lv_iload_n hx hb dX8_rack_16 rfl (lv_at hl 4 rfl) ?_
    refine lv_iconst (v := -1) hx hb dX8_rack_17 (by decide) ?_
    refine lv_icmp_lt (tgt := 27) hx hb dX8_rack_18 (by decide) (fun c3 => ?_) (fun c3 => ?_)
    · refine lv_sipush (v := -1002) hx hb dX8_rack_27 (by decide) ?_
      exact W.iret (v := -1002) hx hb hr (fun t ht hW => ⟨⟨-1002, F, rfl, (by have hsp : sp_rack Kr (nI j_rk) al n = (-1002, Kr) := (by unfold sp_rack; rw [hi_rk]; exact if_neg (by intro hq; have hc := c3; have h1 : (-1 : Int32).toInt = -1 := (by decide); have h12 : (12 : Int32).toInt = 12 := (by decide); rw [fa_lt] at hc; omega)); rw [hsp]; exact ⟨rfl, hR⟩), (by show va_P _ _ _ t.heap; rw [ht]; exact hP)⟩, hS.F ht⟩) hS.2.2 dX8_rack_30
    · refine lv_iload_n hx hb dX8_rack_21 rfl (lv_at hl 4 rfl) ?_
      refine lv_bipush (v := 12) hx hb dX8_rack_22 (by decide) ?_
      refine lv_icmp_le (tgt := 31) hx hb dX8_rack_24 (by decide) (fun c4 => ?_) (fun c4 => ?_)
      · refine lv_aload hx hb dX8_rack_31 (lv_at hl 0 rfl) ?_
        refine va_callv (va_runV (As := []) (rest := []) ⟨hx, hb, hml, hown, hts⟩ (c_clearRow l G cy L F s.heap.size (qa 4 j_rk) (qa 5 j_rk) (Kr.1 j_rk) (Kr.2.1 j_rk) f_rk hmk_rk hFk_rk hmr_rk hFr_rk) (cwV 0 hts gX8_rack_X6_clearRow rfl rfl rfl (by decide +kernel) ⟨Nat.le_of_ble_eq_true rfl, Nat.le_of_ble_eq_true rfl⟩) (preV_of okQ (⟨rfl, hP, hK, hD.top⟩) (pl_recv hK hP (ci := 5) rfl hmk_rk hFk_rk)) rfl rfl hl.1 rfl (lv_room (Nat.le_of_ble_eq_true rfl)) dX8_rack_33 ⟨Nat.le_of_ble_eq_true rfl, Nat.le_of_ble_eq_true rfl⟩) hS (fun q _ h => pl_free hD hS hA q h) (pl_free hD hS hA) (fun F5 t H1 locs ht hvm hw hP1 hz1 hk1 hS => ?_)
        have hP1 : va_P G vwCl (va_pl L F5) t.heap := hP1
        rw [ht] at hP1
        have hP := hP1
        generalize H1 = H at hP hS ⊢
        have eF5 : F5 = va_up F (qa 5 j_rk) (cQ (cy 9) 12 (cz f_rk 12)) := hw
        have hFo_5 : F5 o = .inr (7, [.ref (qa 8 0), .ref (qa 8 1), .ref (qa 8 2), .ref (qa 8 3), .ref (qa 8 4), .ref (qa 8 5), .ref (qa 8 6), .int Pp.1, .int Xx.1]) := by rw [eF5, va_up_ne _ _ (pl_ne hFo hFr_rk rfl)]; exact hFo
        have hFqa80_5 : F5 (qa 8 0) = cQ (cy 7) 10 (pR 10 (qa 0)) := by rw [eF5, va_up_ne _ _ (pl_ne hF0 hFr_rk rfl)]; exact hF0
        have hFqa81_5 : F5 (qa 8 1) = cQ (cy 5) 6 (pR 6 (qa 1)) := by rw [eF5, va_up_ne _ _ (pl_ne hF1 hFr_rk rfl)]; exact hF1
        have hFqa82_5 : F5 (qa 8 2) = cQ (cy 6) 8 (pR 8 (qa 2)) := by rw [eF5, va_up_ne _ _ (pl_ne hF2 hFr_rk rfl)]; exact hF2
        have hFqa83_5 : F5 (qa 8 3) = cQ (cy 9) 30 (pR Pp.1.toInt.toNat (qa 7)) := by rw [eF5, va_up_ne _ _ (pl_ne hFs hFr_rk rfl)]; exact hFs
        have hFqa84_5 : F5 (qa 8 4) = cQ (cy 8) 5 (pR 5 (qa 4)) := by rw [eF5, va_up_ne _ _ (pl_ne hF4 hFr_rk rfl)]; exact hF4
        have hFqa85_5 : F5 (qa 8 5) = cQ (cy 4) 4 (pR 4 (qa 6)) := by rw [eF5, va_up_ne _ _ (pl_ne hF5 hFr_rk rfl)]; exact hF5
        have hFqa86_5 : F5 (qa 8 6) = cI (cy 1) 6 Xx.2 := by rw [eF5, va_up_ne _ _ (pl_ne hFf hFr_rk rfl)]; exact hFf
        have hFqa4j_rk_5 : F5 (qa 4 j_rk) = .inr (5, [.int (Kr.1 j_rk), .ref (qa 5 j_rk), .int (Kr.2.1 j_rk)]) := by rw [eF5, va_up_ne _ _ (pl_ne hFk_rk hFr_rk rfl)]; exact hFk_rk
        have hFqa5j_rk_5 : F5 (qa 5 j_rk) = cQ (cy 9) 12 (cz f_rk 12) := by rw [eF5]; exact va_up_self _ _ _
        refine lv_aload hx hb dX8_rack_36 (lv_at hl 0 rfl) ?_
        refine lv_iload_n hx hb dX8_rack_38 rfl (lv_at hl 3 rfl) ?_
        refine pg_put (ci := 5) (v := .int al) (ty := .boolean) (C := RX6) (T := TX6) (N := 3) hx hb hts hinX6 tyX6 tyX6_ok nmX6 hown hK hP hD hS hmk_rk hFqa4j_rk_5 rfl 2 (by decide) (hts (.fieldLink RX8 235 "RopeDrums$Rack" "reelsAlone" "Z") (by decide +kernel)) (fun _ h9 => h9) rfl (by decide +kernel) ((by rcases hal with rfl | rfl <;> rfl)) ((by rcases hal with rfl | rfl <;> rfl)) (Nat.le_of_ble_eq_true rfl) dX8_rack_39 (fun H locs F6 eF6 hP hS => ?_)
        have eF6 : F6 = va_up F5 (qa 4 j_rk) (.inr (5, [.int (Kr.1 j_rk), .ref (qa 5 j_rk), .int al])) := eF6
        have hFo_6 : F6 o = .inr (7, [.ref (qa 8 0), .ref (qa 8 1), .ref (qa 8 2), .ref (qa 8 3), .ref (qa 8 4), .ref (qa 8 5), .ref (qa 8 6), .int Pp.1, .int Xx.1]) := by rw [eF6, va_up_ne _ _ (pl_ne hFo_5 hFqa4j_rk_5 rfl)]; exact hFo_5
        have hFqa80_6 : F6 (qa 8 0) = cQ (cy 7) 10 (pR 10 (qa 0)) := by rw [eF6, va_up_ne _ _ (pl_ne hFqa80_5 hFqa4j_rk_5 rfl)]; exact hFqa80_5
        have hFqa81_6 : F6 (qa 8 1) = cQ (cy 5) 6 (pR 6 (qa 1)) := by rw [eF6, va_up_ne _ _ (pl_ne hFqa81_5 hFqa4j_rk_5 rfl)]; exact hFqa81_5
        have hFqa82_6 : F6 (qa 8 2) = cQ (cy 6) 8 (pR 8 (qa 2)) := by rw [eF6, va_up_ne _ _ (pl_ne hFqa82_5 hFqa4j_rk_5 rfl)]; exact hFqa82_5
        have hFqa83_6 : F6 (qa 8 3) = cQ (cy 9) 30 (pR Pp.1.toInt.toNat (qa 7)) := by rw [eF6, va_up_ne _ _ (pl_ne hFqa83_5 hFqa4j_rk_5 rfl)]; exact hFqa83_5
        have hFqa84_6 : F6 (qa 8 4) = cQ (cy 8) 5 (pR 5 (qa 4)) := by rw [eF6, va_up_ne _ _ (pl_ne hFqa84_5 hFqa4j_rk_5 rfl)]; exact hFqa84_5
        have hFqa85_6 : F6 (qa 8 5) = cQ (cy 4) 4 (pR 4 (qa 6)) := by rw [eF6, va_up_ne _ _ (pl_ne hFqa85_5 hFqa4j_rk_5 rfl)]; exact hFqa85_5
        have hFqa86_6 : F6 (qa 8 6) = cI (cy 1) 6 Xx.2 := by rw [eF6, va_up_ne _ _ (pl_ne hFqa86_5 hFqa4j_rk_5 rfl)]; exact hFqa86_5
        have hFqa4j_rk_6 : F6 (qa 4 j_rk) = .inr (5, [.int (Kr.1 j_rk), .ref (qa 5 j_rk), .int al]) := by rw [eF6]; exact va_up_self _ _ _
        have hFqa5j_rk_6 : F6 (qa 5 j_rk) = cQ (cy 9) 12 (cz f_rk 12) := by rw [eF6, va_up_ne _ _ (pl_ne hFqa5j_rk_5 hFqa4j_rk_5 rfl)]; exact hFqa5j_rk_5
        refine lv_aload hx hb dX8_rack_42 (lv_at hl 0 rfl) ?_
        refine lv_iload_n hx hb dX8_rack_44 rfl (lv_at hl 4 rfl) ?_
        refine pg_put (ci := 5) (v := .int n) (ty := .int) (C := RX6) (T := TX6) (N := 3) hx hb hts hinX6 tyX6 tyX6_ok nmX6 hown hK hP hD hS hmk_rk hFqa4j_rk_6 rfl 0 (by decide) (hts (.fieldLink RX8 239 "RopeDrums$Rack" "size" "I") (by decide +kernel)) (fun x h9 => u_same (hts (.sameField "RopeDrums$Rack" "RopeDrums$Places" "size" "I") (by decide +kernel)) x h9) rfl (by decide +kernel) (rfl) (rfl) (Nat.le_of_ble_eq_true rfl) dX8_rack_45 (fun H locs F7 eF7 hP hS => ?_)
        have eF7 : F7 = va_up F6 (qa 4 j_rk) (.inr (5, [.int n, .ref (qa 5 j_rk), .int al])) := eF7
        have hFo_7 : F7 o = .inr (7, [.ref (qa 8 0), .ref (qa 8 1), .ref (qa 8 2), .ref (qa 8 3), .ref (qa 8 4), .ref (qa 8 5), .ref (qa 8 6), .int Pp.1, .int Xx.1]) := by rw [eF7, va_up_ne _ _ (pl_ne hFo_6 hFqa4j_rk_6 rfl)]; exact hFo_6
        have hFqa80_7 : F7 (qa 8 0) = cQ (cy 7) 10 (pR 10 (qa 0)) := by rw [eF7, va_up_ne _ _ (pl_ne hFqa80_6 hFqa4j_rk_6 rfl)]; exact hFqa80_6
        have hFqa81_7 : F7 (qa 8 1) = cQ (cy 5) 6 (pR 6 (qa 1)) := by rw [eF7, va_up_ne _ _ (pl_ne hFqa81_6 hFqa4j_rk_6 rfl)]; exact hFqa81_6
        have hFqa82_7 : F7 (qa 8 2) = cQ (cy 6) 8 (pR 8 (qa 2)) := by rw [eF7, va_up_ne _ _ (pl_ne hFqa82_6 hFqa4j_rk_6 rfl)]; exact hFqa82_6
        have hFqa83_7 : F7 (qa 8 3) = cQ (cy 9) 30 (pR Pp.1.toInt.toNat (qa 7)) := by rw [eF7, va_up_ne _ _ (pl_ne hFqa83_6 hFqa4j_rk_6 rfl)]; exact hFqa83_6
        have hFqa84_7 : F7 (qa 8 4) = cQ (cy 8) 5 (pR 5 (qa 4)) := by rw [eF7, va_up_ne _ _ (pl_ne hFqa84_6 hFqa4j_rk_6 rfl)]; exact hFqa84_6
        have hFqa85_7 : F7 (qa 8 5) = cQ (cy 4) 4 (pR 4 (qa 6)) := by rw [eF7, va_up_ne _ _ (pl_ne hFqa85_6 hFqa4j_rk_6 rfl)]; exact hFqa85_6
        have hFqa86_7 : F7 (qa 8 6) = cI (cy 1) 6 Xx.2 := by rw [eF7, va_up_ne _ _ (pl_ne hFqa86_6 hFqa4j_rk_6 rfl)]; exact hFqa86_6
        have hFqa4j_rk_7 : F7 (qa 4 j_rk) = .inr (5, [.int n, .ref (qa 5 j_rk), .int al]) := by rw [eF7]; exact va_up_self _ _ _
        have hFqa5j_rk_7 : F7 (qa 5 j_rk) = cQ (cy 9) 12 (cz f_rk 12) := by rw [eF7, va_up_ne _ _ (pl_ne hFqa5j_rk_6 hFqa4j_rk_6 rfl)]; exact hFqa5j_rk_6
        refine lv_iconst (v := 1) hx hb dX8_rack_48 (by decide) ?_
        exact W.iret (v := 1) hx hb hr (fun t ht hW => ⟨⟨1, F7, rfl, (by have hn : -1 ≤ n.toInt ∧ n.toInt ≤ 12 := (by have hc1 := c3; have hc2 := c4; have h1 : (-1 : Int32).toInt = -1 := (by decide); have h12 : (12 : Int32).toInt = 12 := (by decide); rw [fa_lt] at hc1; rw [fa_le] at hc2; omega); have hsp : sp_rack Kr (nI j_rk) al n = (1, upd Kr.1 j_rk n, upd Kr.2.1 j_rk al, zI Kr.2.2 (12 * j_rk) n.toInt.toNat) := (by unfold sp_rack; rw [hi_rk]; exact if_pos hn); rw [hsp]; exact ⟨rfl, by rw [eF7, eF6, eF5, upup]; exact hR.rackz hj_rk hn hal (fun x hx => by unfold zI; exact if_neg (by omega)) (fun i hi => Or.inl ⟨by unfold zI; exact if_pos (by omega), if_pos (by omega)⟩)⟩), (by show va_P _ _ _ t.heap; rw [ht]; exact hP)⟩, hS.F ht⟩) hS.2.2 dX8_rack_49
      · refine lv_sipush (v := -1002) hx hb dX8_rack_27 (by decide) ?_
        exact W.iret (v := -1002) hx hb hr (fun t ht hW => ⟨⟨-1002, F, rfl, (by have hsp : sp_rack Kr (nI j_rk) al n = (-1002, Kr) := (by unfold sp_rack; rw [hi_rk]; exact if_neg (by intro hq; have hc := c4; have h1 : (-1 : Int32).toInt = -1 := (by decide); have h12 : (12 : Int32).toInt = 12 := (by decide); rw [fa_le] at hc; omega)); rw [hsp]; exact ⟨rfl, hR⟩), (by show va_P _ _ _ t.heap; rw [ht]; exact hP)⟩, hS.F ht⟩) hS.2.2 dX8_rack_30

set_option maxHeartbeats 8000000 in
set_option maxRecDepth 100000 in
theorem c_spoolOf (l : Launch) (G : va_G) (cy : Nat → ClassId) (L : List Nat) (F : Nat → va_E) (o : Nat) (qa : Nat → Nat → Nat) (Mm : SM) (Dd : SD) (Sl : SL) (Pp : SP) (Kr : SR) (Bk : SB) (Xx : SX) (hR : Rep cy L o qa Mm Dd Sl Pp Kr Bk Xx F) (k : Nat) (hk : (k : Int) < Pp.1.toInt)  : Met l yX8_spoolOf wsX8_spoolOf ({ frames := 0, cells := 0, slots := 0, locals := 0 }) (va_Pc [.ref o, .int (nI k)] (fun U => bP G cy L F U U.heap)) (va_Sq (fun r => r = some (qa 7 k))) 0 0 (fun _ => False) := by
  refine Met.ofW (cc := cX8_spoolOf) (maxL := 2) (ret := (some (.object "RopeDrums$Spool"))) (by decide) rfl ?_
  intro p e s m args below meth c s₁ B hml hv
  obtain ⟨rfl, hP, hK, hD⟩ := hv
  have hx := B.exec
  have hb := B.bytes
  have hr := B.returns
  have hts := atoms_spec (ws := wsX8_spoolOf) B.pre
  have hown : s.vm.findClass RX8 = some m.cls := findClass_of_methodNamed B.named
  have hlocks := B.notSynchronized
  have hinX8 : ∀ w ∈ wsX80, w ∈ wsX8_spoolOf := by decide +kernel
  have hS : va_S (fun _ => False) s.heap s.heap [] := va_S.rf
  obtain ⟨⟨⟨hmo, hFo⟩, ⟨hmf, hFf⟩, hms, hFs⟩, ⟨⟨hm0, hF0⟩, ⟨hm1, hF1⟩, ⟨hm2, hF2⟩, ⟨hm4, hF4⟩, hm5, hF5⟩, hRM, hRD, hRG, hRP, hRR, hRB, hRI⟩ := id hR
  have hp30 := hRP.1
  have hl := lv_entry ([.ref o, .int (nI k)]) (n := 2) (Nat.le_of_ble_eq_true rfl)
  rw [lg_entry_eq]
  generalize (lg_sl ([.ref o, .int (nI k)]) ++ List.replicate (2 - (lg_sl ([.ref o, .int (nI k)])).length) Slot.unset).toArray = ls at hl ⊢
  have hl : lv_has ls 2 [(0, .ref o), (1, .int (nI k))] := hl
  refine lv_iload_n hx hb dX8_spoolOf_0 rfl (lv_at hl 1 rfl) ?_
  refine lv_if_lt (tgt := 21) hx hb dX8_spoolOf_1 (by decide) (fun c1 => absurd c1 (fun q => by rw [fa_lt, nI_toInt (by omega)] at q; have h8 : (0 : Int32).toInt = 0 := (by decide); omega)) (fun c1 => ?_)
  refine lv_iload_n hx hb dX8_spoolOf_4 rfl (lv_at hl 1 rfl) ?_
  refine lv_aload_n hx hb dX8_spoolOf_5 rfl (lv_at hl 0 rfl) ?_
  refine pg_get (ci := 7) (C := RX8) (T := TX8) (N := 9) hx hb hts hinX8 hown hK hP hmo hFo rfl 7 (by decide) (hts (.fieldLink RX8 49 "RopeDrums" "spoolCount" "I") (by decide +kernel)) (fun _ h9 => h9) rfl dX8_spoolOf_6 ?_
  refine lv_icmp_ge (tgt := 21) hx hb dX8_spoolOf_9 (by decide) (fun c2 => absurd c2 (fun q => by rw [fa_le, nI_toInt (by omega)] at q; omega)) (fun c2 => ?_)
  refine lv_aload_n hx hb dX8_spoolOf_12 rfl (lv_at hl 0 rfl) ?_
  refine pg_get (ci := 7) (C := RX8) (T := TX8) (N := 9) hx hb hts hinX8 hown hK hP hmo hFo rfl 3 (by decide) (hts (.fieldLink RX8 29 "RopeDrums" "spools" "[LRopeDrums$Spool;") (by decide +kernel)) (fun _ h9 => h9) rfl dX8_spoolOf_13 ?_
  refine lv_iload_n hx hb dX8_spoolOf_16 rfl (lv_at hl 1 rfl) ?_
  refine pg_aldq hx hb hK hP 9 hms hFs rfl (vp_in_nI (by omega) (by decide)) dX8_spoolOf_17 ?_
  rw [show (pR Pp.1.toInt.toNat (qa 7)) (nI k).toNatClampNeg = some (qa 7 k) from pR_at (by omega) (by omega)]
  refine W.eq (g2 := F0 m 18 ls [.ref (qa 7 k)]) rfl ?_
  refine lv_goto (tgt := 22) hx hb dX8_spoolOf_18 (by decide) ?_
  exact W.aret hx hb hr (Or.inl ⟨_, rfl⟩) (Or.inr ⟨_, rfl⟩) (fun t ht hW => ⟨some (qa 7 k), rfl, rfl, ht⟩) (fun q hq => absurd hq List.not_mem_nil) dX8_spoolOf_22

set_option maxHeartbeats 8000000 in
set_option maxRecDepth 100000 in
theorem c_spoolOf_no (l : Launch) (G : va_G) (cy : Nat → ClassId) (L : List Nat) (F : Nat → va_E) (o : Nat) (qa : Nat → Nat → Nat) (Mm : SM) (Dd : SD) (Sl : SL) (Pp : SP) (Kr : SR) (Bk : SB) (Xx : SX) (hR : Rep cy L o qa Mm Dd Sl Pp Kr Bk Xx F) (x : Int32) (hno : ¬ (0 ≤ x.toInt ∧ x.toInt < Pp.1.toInt))  : Met l yX8_spoolOf wsX8_spoolOf ({ frames := 0, cells := 0, slots := 0, locals := 0 }) (va_Pc [.ref o, .int x] (fun U => bP G cy L F U U.heap)) (va_Sq (fun r => r = none)) 0 0 (fun _ => False) := by
  refine Met.ofW (cc := cX8_spoolOf) (maxL := 2) (ret := (some (.object "RopeDrums$Spool"))) (by decide) rfl ?_
  intro p e s m args below meth c s₁ B hml hv
  obtain ⟨rfl, hP, hK, hD⟩ := hv
  have hx := B.exec
  have hb := B.bytes
  have hr := B.returns
  have hts := atoms_spec (ws := wsX8_spoolOf) B.pre
  have hown : s.vm.findClass RX8 = some m.cls := findClass_of_methodNamed B.named
  have hlocks := B.notSynchronized
  have hinX8 : ∀ w ∈ wsX80, w ∈ wsX8_spoolOf := by decide +kernel
  have hS : va_S (fun _ => False) s.heap s.heap [] := va_S.rf
  obtain ⟨⟨⟨hmo, hFo⟩, ⟨hmf, hFf⟩, hms, hFs⟩, ⟨⟨hm0, hF0⟩, ⟨hm1, hF1⟩, ⟨hm2, hF2⟩, ⟨hm4, hF4⟩, hm5, hF5⟩, hRM, hRD, hRG, hRP, hRR, hRB, hRI⟩ := id hR
  have hl := lv_entry ([.ref o, .int x]) (n := 2) (Nat.le_of_ble_eq_true rfl)
  rw [lg_entry_eq]
  generalize (lg_sl ([.ref o, .int x]) ++ List.replicate (2 - (lg_sl ([.ref o, .int x])).length) Slot.unset).toArray = ls at hl ⊢
  have hl : lv_has ls 2 [(0, .ref o), (1, .int x)] := hl
  refine lv_iload_n hx hb dX8_spoolOf_0 rfl (lv_at hl 1 rfl) ?_
  refine lv_if_lt (tgt := 21) hx hb dX8_spoolOf_1 (by decide) (fun c1 => ?_) (fun c1 => ?_)
  · refine lv_null hx hb dX8_spoolOf_21 ?_
    exact W.aret hx hb hr (Or.inl ⟨_, rfl⟩) (Or.inl rfl) (fun t ht hW => ⟨none, rfl, rfl, ht⟩) (fun q hq => absurd hq List.not_mem_nil) dX8_spoolOf_22
  · refine lv_iload_n hx hb dX8_spoolOf_4 rfl (lv_at hl 1 rfl) ?_
    refine lv_aload_n hx hb dX8_spoolOf_5 rfl (lv_at hl 0 rfl) ?_
    refine pg_get (ci := 7) (C := RX8) (T := TX8) (N := 9) hx hb hts hinX8 hown hK hP hmo hFo rfl 7 (by decide) (hts (.fieldLink RX8 49 "RopeDrums" "spoolCount" "I") (by decide +kernel)) (fun _ h9 => h9) rfl dX8_spoolOf_6 ?_
    refine lv_icmp_ge (tgt := 21) hx hb dX8_spoolOf_9 (by decide) (fun c2 => ?_) (fun c2 => ?_)
    · refine lv_null hx hb dX8_spoolOf_21 ?_
      exact W.aret hx hb hr (Or.inl ⟨_, rfl⟩) (Or.inl rfl) (fun t ht hW => ⟨none, rfl, rfl, ht⟩) (fun q hq => absurd hq List.not_mem_nil) dX8_spoolOf_22
    · exfalso
      have hc1 := c1
      have hc2 := c2
      rw [fa_lt] at hc1
      rw [fa_le] at hc2
      have h8 : (0 : Int32).toInt = 0 := (by decide)
      omega

set_option maxHeartbeats 8000000 in
set_option maxRecDepth 100000 in
theorem m_put (l : Launch) (G : va_G) (cy : Nat → ClassId) (L : List Nat) (F : Nat → va_E) (ad : Nat → Nat) (sz : Nat) (o : Nat) (qa : Nat → Nat → Nat) (Mm : SM) (Dd : SD) (Sl : SL) (Pp : SP) (Kr : SR) (Bk : SB) (Xx : SX) (hR : Rep cy L o qa Mm Dd Sl Pp Kr Bk Xx F) (rk i sp : Int32)  : Met l yX8_put wsX8_put ({ frames := 1, cells := 0, slots := 0, locals := 21 }) (va_Pc [.ref o, .int rk, .int i, .int sp] (fun U => bQE G cy L F ad sz U U.heap)) (va_Qi (fun (r : Int32) (F' : Nat → va_E) => r = (sp_put Pp Kr Xx rk i sp).1 ∧ Rep cy L o qa Mm Dd Sl Pp (sp_put Pp Kr Xx rk i sp).2.1 Bk (sp_put Pp Kr Xx rk i sp).2.2 F') (fun F' t => va_P G vwCl (va_pl L F') t.heap) (va_A (va_pl L F) sz)) 0 0 (va_A (va_pl L F) sz) := by
  refine Met.ofW (cc := cX8_put) (maxL := 7) (ret := (some .int)) (by decide) rfl ?_
  intro p e s m args below meth c s₁ B hml hv
  obtain ⟨rfl, ⟨hsz, hP, hK, hD0⟩, hE, hN⟩ := hv
  have hx := B.exec
  have hb := B.bytes
  have hr := B.returns
  have hts := atoms_spec (ws := wsX8_put) B.pre
  have hown : s.vm.findClass RX8 = some m.cls := findClass_of_methodNamed B.named
  have hlocks := B.notSynchronized
  have hinX8 : ∀ w ∈ wsX80, w ∈ wsX8_put := by decide +kernel
  have hinX6 : ∀ w ∈ wsX60, w ∈ wsX8_put := by decide +kernel
  have hinX7 : ∀ w ∈ wsX70, w ∈ wsX8_put := by decide +kernel
  subst hsz
  have hD := hD0.self F s.heap.size
  generalize hAe : va_A (va_pl L F) s.heap.size = A at hD hE ⊢
  have hA : ∀ q : Nat, s.heap.size ≤ q → A q := fun q h => by rw [← hAe]; exact Or.inr h
  have hS : va_S A s.heap s.heap [] := va_S.rf
  obtain ⟨⟨⟨hmo, hFo⟩, ⟨hmf, hFf⟩, hms, hFs⟩, ⟨⟨hm0, hF0⟩, ⟨hm1, hF1⟩, ⟨hm2, hF2⟩, ⟨hm4, hF4⟩, hm5, hF5⟩, hRM, hRD, hRG, hRP, hRR, hRB, hRI⟩ := id hR
  have hl := lv_entry ([.ref o, .int rk, .int i, .int sp]) (n := 7) (Nat.le_of_ble_eq_true rfl)
  rw [lg_entry_eq]
  generalize (lg_sl ([.ref o, .int rk, .int i, .int sp]) ++ List.replicate (7 - (lg_sl ([.ref o, .int rk, .int i, .int sp])).length) Slot.unset).toArray = ls at hl ⊢
  have hl : lv_has ls 7 [(0, .ref o), (1, .int rk), (2, .int i), (3, .int sp)] := hl
  rcases spc Pp.1 sp with hsp | ⟨ks, hks, hsp⟩ | ⟨hsp1, hsp2⟩
  · subst hsp
    have hsp2 : ¬ (0 ≤ (-1 : Int32).toInt ∧ (-1 : Int32).toInt < Pp.1.toInt) := fun q => absurd q.1 (by decide)
    rcases ixc 5 rk with hi_rk | ⟨j_rk, hj_rk, hi_rk, ei_rk⟩
    · refine lv_aload_n hx hb dX8_put_0 rfl (lv_at hl 0 rfl) ?_
      refine lv_iload_n hx hb dX8_put_1 rfl (lv_at hl 1 rfl) ?_
      refine va_csq (W.runV (As := [.int rk]) (rest := []) ⟨hx, hb, hml, hown, hts⟩ (c_rackOf_no l G cy L F o qa Mm Dd Sl Pp Kr Bk Xx hR rk hi_rk) (cwV 1 hts gX8_put_X8_rackOf rfl rfl rfl (by decide +kernel) ⟨Nat.le_of_ble_eq_true rfl, Nat.le_of_ble_eq_true rfl⟩) (preV_of okP (⟨hP, hK, hD.top⟩) (pl_recv hK hP (ci := 7) rfl hmo hFo)) rfl rfl hl.1 rfl (lv_room (Nat.le_of_ble_eq_true rfl)) dX8_put_2 ⟨Nat.le_of_ble_eq_true rfl, Nat.le_of_ble_eq_true rfl⟩) (fun r1 hr1 => ?_)
      subst hr1
      refine W.eq (g2 := F0 m 5 ls [.null]) rfl ?_
      refine lv_astoreN (lv' := [(4, .null), (0, .ref o), (1, .int rk), (2, .int i), (3, .int (-1))]) hx hb dX8_put_5 hl (by decide) rfl (fun ls hl => ?_)
      refine lv_aload_n hx hb dX8_put_7 rfl (lv_at hl 1 rfl) ?_
      refine lv_iload_n hx hb dX8_put_8 rfl (lv_at hl 4 rfl) ?_
      refine va_csq (W.runV (As := [.int (-1)]) (rest := []) ⟨hx, hb, hml, hown, hts⟩ (c_spoolOf_no l G cy L F o qa Mm Dd Sl Pp Kr Bk Xx hR (-1) hsp2) (cwV 1 hts gX8_put_X8_spoolOf rfl rfl rfl (by decide +kernel) ⟨Nat.le_of_ble_eq_true rfl, Nat.le_of_ble_eq_true rfl⟩) (preV_of okP (⟨hP, hK, hD.top⟩) (pl_recv hK hP (ci := 7) rfl hmo hFo)) rfl rfl hl.1 rfl (lv_room (Nat.le_of_ble_eq_true rfl)) dX8_put_9 ⟨Nat.le_of_ble_eq_true rfl, Nat.le_of_ble_eq_true rfl⟩) (fun r2 hr2 => ?_)
      subst hr2
      refine W.eq (g2 := F0 m 12 ls [.null]) rfl ?_
      refine lv_astoreN (lv' := [(5, .null), (4, .null), (0, .ref o), (1, .int rk), (2, .int i), (3, .int (-1))]) hx hb dX8_put_12 hl (by decide) rfl (fun ls hl => ?_)
      refine lv_aloadN hx hb dX8_put_14 (lv_at hl 1 rfl) ?_
      refine lv_ifnullN (tgt := 29) hx hb dX8_put_16 (by decide) ?_
      refine lv_sipush (v := -1001) hx hb dX8_put_29 (by decide) ?_
      exact W.iret (v := -1001) hx hb hr (fun t ht hW => ⟨⟨-1001, F, rfl, (by have hsp : sp_put Pp Kr Xx rk i (-1) = (-1001, Kr, Xx) := (by unfold sp_put; rw [hi_rk]); rw [hsp]; exact ⟨rfl, hR⟩), (by show va_P _ _ _ t.heap; rw [ht]; exact hP)⟩, hS.F ht⟩) hS.2.2 dX8_put_32
    · subst ei_rk
      obtain ⟨hmk_rk, hmr_rk, hFk_rk, hal_rk, hsz_rk, f_rk, hFr_rk, hokk_rk⟩ := hRR j_rk hj_rk
      rcases lackc (i := i) (by decide) hsz_rk with ⟨hp_i, hk_i⟩ | ⟨hp_i, hk_i⟩ | ⟨q_i, hq_i, hs_i, hp_i, hk_i, ei_i⟩
      · have hp0_i : ¬ pl0 (Kr.1 j_rk) i = 0 := by rw [hp_i]; decide
        refine lv_aload_n hx hb dX8_put_0 rfl (lv_at hl 0 rfl) ?_
        refine lv_iload_n hx hb dX8_put_1 rfl (lv_at hl 1 rfl) ?_
        refine va_csq (W.runV (As := [.int (nI j_rk)]) (rest := []) ⟨hx, hb, hml, hown, hts⟩ (c_rackOf l G cy L F o qa Mm Dd Sl Pp Kr Bk Xx hR j_rk hj_rk) (cwV 1 hts gX8_put_X8_rackOf rfl rfl rfl (by decide +kernel) ⟨Nat.le_of_ble_eq_true rfl, Nat.le_of_ble_eq_true rfl⟩) (preV_of okP (⟨hP, hK, hD.top⟩) (pl_recv hK hP (ci := 7) rfl hmo hFo)) rfl rfl hl.1 rfl (lv_room (Nat.le_of_ble_eq_true rfl)) dX8_put_2 ⟨Nat.le_of_ble_eq_true rfl, Nat.le_of_ble_eq_true rfl⟩) (fun r3 hr3 => ?_)
        subst hr3
        refine W.eq (g2 := F0 m 5 ls [.ref (qa 4 j_rk)]) rfl ?_
        refine lv_astore (lv' := [(4, .ref (qa 4 j_rk)), (0, .ref o), (1, .int (nI j_rk)), (2, .int i), (3, .int (-1))]) hx hb dX8_put_5 hl (by decide) rfl (fun ls hl => ?_)
        refine lv_aload_n hx hb dX8_put_7 rfl (lv_at hl 1 rfl) ?_
        refine lv_iload_n hx hb dX8_put_8 rfl (lv_at hl 4 rfl) ?_
        refine va_csq (W.runV (As := [.int (-1)]) (rest := []) ⟨hx, hb, hml, hown, hts⟩ (c_spoolOf_no l G cy L F o qa Mm Dd Sl Pp Kr Bk Xx hR (-1) hsp2) (cwV 1 hts gX8_put_X8_spoolOf rfl rfl rfl (by decide +kernel) ⟨Nat.le_of_ble_eq_true rfl, Nat.le_of_ble_eq_true rfl⟩) (preV_of okP (⟨hP, hK, hD.top⟩) (pl_recv hK hP (ci := 7) rfl hmo hFo)) rfl rfl hl.1 rfl (lv_room (Nat.le_of_ble_eq_true rfl)) dX8_put_9 ⟨Nat.le_of_ble_eq_true rfl, Nat.le_of_ble_eq_true rfl⟩) (fun r4 hr4 => ?_)
        subst hr4
        refine W.eq (g2 := F0 m 12 ls [.null]) rfl ?_
        refine lv_astoreN (lv' := [(5, .null), (4, .ref (qa 4 j_rk)), (0, .ref o), (1, .int (nI j_rk)), (2, .int i), (3, .int (-1))]) hx hb dX8_put_12 hl (by decide) rfl (fun ls hl => ?_)
        refine lv_aload hx hb dX8_put_14 (lv_at hl 1 rfl) ?_
        refine lv_ifnull hx hb dX8_put_16 ?_
        refine lv_aloadN hx hb dX8_put_19 (lv_at hl 0 rfl) ?_
        refine lv_ifnonnullN hx hb dX8_put_21 ?_
        refine lv_iload_n hx hb dX8_put_24 rfl (lv_at hl 5 rfl) ?_
        refine lv_iconst (v := -1) hx hb dX8_put_25 (by decide) ?_
        refine lv_icmp_eq (tgt := 33) hx hb dX8_put_26 (by decide) (fun c5 => ?_) (fun c5 => absurd (by decide) c5)
        refine lv_aload hx hb dX8_put_33 (lv_at hl 1 rfl) ?_
        refine lv_iload_n hx hb dX8_put_35 rfl (lv_at hl 4 rfl) ?_
        refine vp_callSi (cr_of (va_runU (As := [.int i]) (rest := []) ⟨hx, hb, hml, hown, hts⟩ (c_lackAt_rack l G cy L F (qa 4 j_rk) (Kr.1 j_rk) (qa 5 j_rk) (Kr.2.1 j_rk) hmk_rk hFk_rk i) (va_cwU 1 hts gX8_put_X5_lackAt_u244X6 rfl rfl rfl rfl (by decide +kernel) ⟨Nat.le_of_ble_eq_true rfl, Nat.le_of_ble_eq_true rfl⟩) (preV_of okP (⟨hP, hK, hD.top⟩) (pl_recv hK hP (ci := 5) rfl hmk_rk hFk_rk)) rfl rfl hl.1 rfl (lv_room (Nat.le_of_ble_eq_true rfl)) dX8_put_36 ⟨Nat.le_of_ble_eq_true rfl, Nat.le_of_ble_eq_true rfl⟩)) (fun r6 hr6 => ?_)
        rw [hk_i] at hr6
        subst hr6
        refine lv_istore (lv' := [(6, .int 1), (5, .null), (4, .ref (qa 4 j_rk)), (0, .ref o), (1, .int (nI j_rk)), (2, .int i), (3, .int (-1))]) hx hb dX8_put_39 hl (by decide) rfl (fun ls hl => ?_)
        refine lv_iload hx hb dX8_put_41 (lv_at hl 0 rfl) ?_
        refine lv_if_eq (tgt := 53) hx hb dX8_put_43 (by decide) (fun c7 => absurd c7 (by decide)) (fun c7 => ?_)
        refine lv_aload_n hx hb dX8_put_46 rfl (lv_at hl 3 rfl) ?_
        refine lv_iload hx hb dX8_put_47 (lv_at hl 0 rfl) ?_
        refine va_calli (va_runV (As := [.int 1]) (rest := []) ⟨hx, hb, hml, hown, hts⟩ (c_fail_1 l G cy L F s.heap.size o qa Mm Dd Sl Pp Kr Bk Xx hR) (cwV 1 hts gX8_put_X8_fail rfl rfl rfl (by decide +kernel) ⟨Nat.le_of_ble_eq_true rfl, Nat.le_of_ble_eq_true rfl⟩) (preV_of okQ (⟨rfl, hP, hK, hD.top⟩) (pl_recv hK hP (ci := 7) rfl hmo hFo)) rfl rfl hl.1 rfl (lv_room (Nat.le_of_ble_eq_true rfl)) dX8_put_49 ⟨Nat.le_of_ble_eq_true rfl, Nat.le_of_ble_eq_true rfl⟩) hS (fun q _ h => pl_free hD hS hA q h) (pl_free hD hS hA) (fun r9 F8 t H1 locs ht hvm hw hP1 hz1 hk1 hS => ?_)
        have hP1 : va_P G vwCl (va_pl L F8) t.heap := hP1
        rw [ht] at hP1
        have hP := hP1
        generalize H1 = H at hP hS ⊢
        obtain ⟨hqr9, hR10⟩ := hw
        exact W.iret (v := r9) hx hb hr (fun t ht hW => ⟨⟨r9, F8, rfl, (by have hsp : sp_put Pp Kr Xx (nI j_rk) i (-1) = (-10 - 1, Kr, failX Xx 1) := (by unfold sp_put; rw [hi_rk]; exact (if_pos (Or.inl rfl)).trans ((if_neg hp0_i).trans (by rw [hp_i]; rfl))); rw [hsp]; exact ⟨hqr9, hR10⟩), (by show va_P _ _ _ t.heap; rw [ht]; exact hP)⟩, hS.F ht⟩) hS.2.2 dX8_put_52
      · have hp0_i : ¬ pl0 (Kr.1 j_rk) i = 0 := by rw [hp_i]; decide
        refine lv_aload_n hx hb dX8_put_0 rfl (lv_at hl 0 rfl) ?_
        refine lv_iload_n hx hb dX8_put_1 rfl (lv_at hl 1 rfl) ?_
        refine va_csq (W.runV (As := [.int (nI j_rk)]) (rest := []) ⟨hx, hb, hml, hown, hts⟩ (c_rackOf l G cy L F o qa Mm Dd Sl Pp Kr Bk Xx hR j_rk hj_rk) (cwV 1 hts gX8_put_X8_rackOf rfl rfl rfl (by decide +kernel) ⟨Nat.le_of_ble_eq_true rfl, Nat.le_of_ble_eq_true rfl⟩) (preV_of okP (⟨hP, hK, hD.top⟩) (pl_recv hK hP (ci := 7) rfl hmo hFo)) rfl rfl hl.1 rfl (lv_room (Nat.le_of_ble_eq_true rfl)) dX8_put_2 ⟨Nat.le_of_ble_eq_true rfl, Nat.le_of_ble_eq_true rfl⟩) (fun r11 hr11 => ?_)
        subst hr11
        refine W.eq (g2 := F0 m 5 ls [.ref (qa 4 j_rk)]) rfl ?_
        refine lv_astore (lv' := [(4, .ref (qa 4 j_rk)), (0, .ref o), (1, .int (nI j_rk)), (2, .int i), (3, .int (-1))]) hx hb dX8_put_5 hl (by decide) rfl (fun ls hl => ?_)
        refine lv_aload_n hx hb dX8_put_7 rfl (lv_at hl 1 rfl) ?_
        refine lv_iload_n hx hb dX8_put_8 rfl (lv_at hl 4 rfl) ?_
        refine va_csq (W.runV (As := [.int (-1)]) (rest := []) ⟨hx, hb, hml, hown, hts⟩ (c_spoolOf_no l G cy L F o qa Mm Dd Sl Pp Kr Bk Xx hR (-1) hsp2) (cwV 1 hts gX8_put_X8_spoolOf rfl rfl rfl (by decide +kernel) ⟨Nat.le_of_ble_eq_true rfl, Nat.le_of_ble_eq_true rfl⟩) (preV_of okP (⟨hP, hK, hD.top⟩) (pl_recv hK hP (ci := 7) rfl hmo hFo)) rfl rfl hl.1 rfl (lv_room (Nat.le_of_ble_eq_true rfl)) dX8_put_9 ⟨Nat.le_of_ble_eq_true rfl, Nat.le_of_ble_eq_true rfl⟩) (fun r12 hr12 => ?_)
        subst hr12
        refine W.eq (g2 := F0 m 12 ls [.null]) rfl ?_
        refine lv_astoreN (lv' := [(5, .null), (4, .ref (qa 4 j_rk)), (0, .ref o), (1, .int (nI j_rk)), (2, .int i), (3, .int (-1))]) hx hb dX8_put_12 hl (by decide) rfl (fun ls hl => ?_)
        refine lv_aload hx hb dX8_put_14 (lv_at hl 1 rfl) ?_
        refine lv_ifnull hx hb dX8_put_16 ?_
        refine lv_aloadN hx hb dX8_put_19 (lv_at hl 0 rfl) ?_
        refine lv_ifnonnullN hx hb dX8_put_21 ?_
        refine lv_iload_n hx hb dX8_put_24 rfl (lv_at hl 5 rfl) ?_
        refine lv_iconst (v := -1) hx hb dX8_put_25 (by decide) ?_
        refine lv_icmp_eq (tgt := 33) hx hb dX8_put_26 (by decide) (fun c13 => ?_) (fun c13 => absurd (by decide) c13)
        refine lv_aload hx hb dX8_put_33 (lv_at hl 1 rfl) ?_
        refine lv_iload_n hx hb dX8_put_35 rfl (lv_at hl 4 rfl) ?_
        refine vp_callSi (cr_of (va_runU (As := [.int i]) (rest := []) ⟨hx, hb, hml, hown, hts⟩ (c_lackAt_rack l G cy L F (qa 4 j_rk) (Kr.1 j_rk) (qa 5 j_rk) (Kr.2.1 j_rk) hmk_rk hFk_rk i) (va_cwU 1 hts gX8_put_X5_lackAt_u244X6 rfl rfl rfl rfl (by decide +kernel) ⟨Nat.le_of_ble_eq_true rfl, Nat.le_of_ble_eq_true rfl⟩) (preV_of okP (⟨hP, hK, hD.top⟩) (pl_recv hK hP (ci := 5) rfl hmk_rk hFk_rk)) rfl rfl hl.1 rfl (lv_room (Nat.le_of_ble_eq_true rfl)) dX8_put_36 ⟨Nat.le_of_ble_eq_true rfl, Nat.le_of_ble_eq_true rfl⟩)) (fun r14 hr14 => ?_)
        rw [hk_i] at hr14
        subst hr14
        refine lv_istore (lv' := [(6, .int 2), (5, .null), (4, .ref (qa 4 j_rk)), (0, .ref o), (1, .int (nI j_rk)), (2, .int i), (3, .int (-1))]) hx hb dX8_put_39 hl (by decide) rfl (fun ls hl => ?_)
        refine lv_iload hx hb dX8_put_41 (lv_at hl 0 rfl) ?_
        refine lv_if_eq (tgt := 53) hx hb dX8_put_43 (by decide) (fun c15 => absurd c15 (by decide)) (fun c15 => ?_)
        refine lv_aload_n hx hb dX8_put_46 rfl (lv_at hl 3 rfl) ?_
        refine lv_iload hx hb dX8_put_47 (lv_at hl 0 rfl) ?_
        refine va_calli (va_runV (As := [.int 2]) (rest := []) ⟨hx, hb, hml, hown, hts⟩ (c_fail_2 l G cy L F s.heap.size o qa Mm Dd Sl Pp Kr Bk Xx hR) (cwV 1 hts gX8_put_X8_fail rfl rfl rfl (by decide +kernel) ⟨Nat.le_of_ble_eq_true rfl, Nat.le_of_ble_eq_true rfl⟩) (preV_of okQ (⟨rfl, hP, hK, hD.top⟩) (pl_recv hK hP (ci := 7) rfl hmo hFo)) rfl rfl hl.1 rfl (lv_room (Nat.le_of_ble_eq_true rfl)) dX8_put_49 ⟨Nat.le_of_ble_eq_true rfl, Nat.le_of_ble_eq_true rfl⟩) hS (fun q _ h => pl_free hD hS hA q h) (pl_free hD hS hA) (fun r17 F16 t H1 locs ht hvm hw hP1 hz1 hk1 hS => ?_)
        have hP1 : va_P G vwCl (va_pl L F16) t.heap := hP1
        rw [ht] at hP1
        have hP := hP1
        generalize H1 = H at hP hS ⊢
        obtain ⟨hqr17, hR18⟩ := hw
        exact W.iret (v := r17) hx hb hr (fun t ht hW => ⟨⟨r17, F16, rfl, (by have hsp : sp_put Pp Kr Xx (nI j_rk) i (-1) = (-10 - 2, Kr, failX Xx 2) := (by unfold sp_put; rw [hi_rk]; exact (if_pos (Or.inl rfl)).trans ((if_neg hp0_i).trans (by rw [hp_i]; rfl))); rw [hsp]; exact ⟨hqr17, hR18⟩), (by show va_P _ _ _ t.heap; rw [ht]; exact hP)⟩, hS.F ht⟩) hS.2.2 dX8_put_52
      · subst ei_i
        refine lv_aload_n hx hb dX8_put_0 rfl (lv_at hl 0 rfl) ?_
        refine lv_iload_n hx hb dX8_put_1 rfl (lv_at hl 1 rfl) ?_
        refine va_csq (W.runV (As := [.int (nI j_rk)]) (rest := []) ⟨hx, hb, hml, hown, hts⟩ (c_rackOf l G cy L F o qa Mm Dd Sl Pp Kr Bk Xx hR j_rk hj_rk) (cwV 1 hts gX8_put_X8_rackOf rfl rfl rfl (by decide +kernel) ⟨Nat.le_of_ble_eq_true rfl, Nat.le_of_ble_eq_true rfl⟩) (preV_of okP (⟨hP, hK, hD.top⟩) (pl_recv hK hP (ci := 7) rfl hmo hFo)) rfl rfl hl.1 rfl (lv_room (Nat.le_of_ble_eq_true rfl)) dX8_put_2 ⟨Nat.le_of_ble_eq_true rfl, Nat.le_of_ble_eq_true rfl⟩) (fun r19 hr19 => ?_)
        subst hr19
        refine W.eq (g2 := F0 m 5 ls [.ref (qa 4 j_rk)]) rfl ?_
        refine lv_astore (lv' := [(4, .ref (qa 4 j_rk)), (0, .ref o), (1, .int (nI j_rk)), (2, .int (nI q_i)), (3, .int (-1))]) hx hb dX8_put_5 hl (by decide) rfl (fun ls hl => ?_)
        refine lv_aload_n hx hb dX8_put_7 rfl (lv_at hl 1 rfl) ?_
        refine lv_iload_n hx hb dX8_put_8 rfl (lv_at hl 4 rfl) ?_
        refine va_csq (W.runV (As := [.int (-1)]) (rest := []) ⟨hx, hb, hml, hown, hts⟩ (c_spoolOf_no l G cy L F o qa Mm Dd Sl Pp Kr Bk Xx hR (-1) hsp2) (cwV 1 hts gX8_put_X8_spoolOf rfl rfl rfl (by decide +kernel) ⟨Nat.le_of_ble_eq_true rfl, Nat.le_of_ble_eq_true rfl⟩) (preV_of okP (⟨hP, hK, hD.top⟩) (pl_recv hK hP (ci := 7) rfl hmo hFo)) rfl rfl hl.1 rfl (lv_room (Nat.le_of_ble_eq_true rfl)) dX8_put_9 ⟨Nat.le_of_ble_eq_true rfl, Nat.le_of_ble_eq_true rfl⟩) (fun r20 hr20 => ?_)
        subst hr20
        refine W.eq (g2 := F0 m 12 ls [.null]) rfl ?_
        refine lv_astoreN (lv' := [(5, .null), (4, .ref (qa 4 j_rk)), (0, .ref o), (1, .int (nI j_rk)), (2, .int (nI q_i)), (3, .int (-1))]) hx hb dX8_put_12 hl (by decide) rfl (fun ls hl => ?_)
        refine lv_aload hx hb dX8_put_14 (lv_at hl 1 rfl) ?_
        refine lv_ifnull hx hb dX8_put_16 ?_
        refine lv_aloadN hx hb dX8_put_19 (lv_at hl 0 rfl) ?_
        refine lv_ifnonnullN hx hb dX8_put_21 ?_
        refine lv_iload_n hx hb dX8_put_24 rfl (lv_at hl 5 rfl) ?_
        refine lv_iconst (v := -1) hx hb dX8_put_25 (by decide) ?_
        refine lv_icmp_eq (tgt := 33) hx hb dX8_put_26 (by decide) (fun c21 => ?_) (fun c21 => absurd (by decide) c21)
        refine lv_aload hx hb dX8_put_33 (lv_at hl 1 rfl) ?_
        refine lv_iload_n hx hb dX8_put_35 rfl (lv_at hl 4 rfl) ?_
        refine vp_callSi (cr_of (va_runU (As := [.int (nI q_i)]) (rest := []) ⟨hx, hb, hml, hown, hts⟩ (c_lackAt_rack l G cy L F (qa 4 j_rk) (Kr.1 j_rk) (qa 5 j_rk) (Kr.2.1 j_rk) hmk_rk hFk_rk (nI q_i)) (va_cwU 1 hts gX8_put_X5_lackAt_u244X6 rfl rfl rfl rfl (by decide +kernel) ⟨Nat.le_of_ble_eq_true rfl, Nat.le_of_ble_eq_true rfl⟩) (preV_of okP (⟨hP, hK, hD.top⟩) (pl_recv hK hP (ci := 5) rfl hmk_rk hFk_rk)) rfl rfl hl.1 rfl (lv_room (Nat.le_of_ble_eq_true rfl)) dX8_put_36 ⟨Nat.le_of_ble_eq_true rfl, Nat.le_of_ble_eq_true rfl⟩)) (fun r22 hr22 => ?_)
        rw [hk_i] at hr22
        subst hr22
        refine lv_istore (lv' := [(6, .int 0), (5, .null), (4, .ref (qa 4 j_rk)), (0, .ref o), (1, .int (nI j_rk)), (2, .int (nI q_i)), (3, .int (-1))]) hx hb dX8_put_39 hl (by decide) rfl (fun ls hl => ?_)
        refine lv_iload hx hb dX8_put_41 (lv_at hl 0 rfl) ?_
        refine lv_if_eq (tgt := 53) hx hb dX8_put_43 (by decide) (fun c23 => ?_) (fun c23 => absurd (by decide) c23)
        refine lv_aloadN hx hb dX8_put_53 (lv_at hl 1 rfl) ?_
        refine lv_ifnullN (tgt := 80) hx hb dX8_put_55 (by decide) ?_
        refine lv_aload hx hb dX8_put_80 (lv_at hl 2 rfl) ?_
        refine pg_get (ci := 5) (C := RX6) (T := TX6) (N := 3) hx hb hts hinX6 hown hK hP hmk_rk hFk_rk rfl 1 (by decide) (hts (.fieldLink RX8 248 "RopeDrums$Rack" "row" "[LRopeDrums$Spool;") (by decide +kernel)) (fun _ h9 => h9) rfl dX8_put_82 ?_
        refine lv_iload_n hx hb dX8_put_85 rfl (lv_at hl 5 rfl) ?_
        refine lv_aloadN hx hb dX8_put_86 (lv_at hl 1 rfl) ?_
        refine pg_astqN hx hb hK hP hD hS 9 hmr_rk hFr_rk rfl (vp_in_nI hq_i (by decide)) dX8_put_88 (fun H locs F24 eF24 hP hS => ?_)
        have hFo_24 : F24 o = .inr (7, [.ref (qa 8 0), .ref (qa 8 1), .ref (qa 8 2), .ref (qa 8 3), .ref (qa 8 4), .ref (qa 8 5), .ref (qa 8 6), .int Pp.1, .int Xx.1]) := by rw [eF24, va_up_ne _ _ (pl_ne hFo hFr_rk rfl)]; exact hFo
        have hFqa80_24 : F24 (qa 8 0) = cQ (cy 7) 10 (pR 10 (qa 0)) := by rw [eF24, va_up_ne _ _ (pl_ne hF0 hFr_rk rfl)]; exact hF0
        have hFqa81_24 : F24 (qa 8 1) = cQ (cy 5) 6 (pR 6 (qa 1)) := by rw [eF24, va_up_ne _ _ (pl_ne hF1 hFr_rk rfl)]; exact hF1
        have hFqa82_24 : F24 (qa 8 2) = cQ (cy 6) 8 (pR 8 (qa 2)) := by rw [eF24, va_up_ne _ _ (pl_ne hF2 hFr_rk rfl)]; exact hF2
        have hFqa83_24 : F24 (qa 8 3) = cQ (cy 9) 30 (pR Pp.1.toInt.toNat (qa 7)) := by rw [eF24, va_up_ne _ _ (pl_ne hFs hFr_rk rfl)]; exact hFs
        have hFqa84_24 : F24 (qa 8 4) = cQ (cy 8) 5 (pR 5 (qa 4)) := by rw [eF24, va_up_ne _ _ (pl_ne hF4 hFr_rk rfl)]; exact hF4
        have hFqa85_24 : F24 (qa 8 5) = cQ (cy 4) 4 (pR 4 (qa 6)) := by rw [eF24, va_up_ne _ _ (pl_ne hF5 hFr_rk rfl)]; exact hF5
        have hFqa86_24 : F24 (qa 8 6) = cI (cy 1) 6 Xx.2 := by rw [eF24, va_up_ne _ _ (pl_ne hFf hFr_rk rfl)]; exact hFf
        have hFqa4j_rk_24 : F24 (qa 4 j_rk) = .inr (5, [.int (Kr.1 j_rk), .ref (qa 5 j_rk), .int (Kr.2.1 j_rk)]) := by rw [eF24, va_up_ne _ _ (pl_ne hFk_rk hFr_rk rfl)]; exact hFk_rk
        have hFqa5j_rk_24 : F24 (qa 5 j_rk) = cQ (cy 9) 12 (va_up f_rk (nI q_i : Int32).toNatClampNeg none) := by rw [eF24]; exact va_up_self _ _ _
        have hR25 : Rep cy L o qa Mm Dd Sl Pp (Kr.1, Kr.2.1, upd Kr.2.2 (12 * j_rk + q_i) (-1)) Bk Xx F24 := by rw [eF24]; exact hR.cellK hj_rk hq_i hokk_rk (Or.inl ⟨rfl, rfl⟩)
        refine lv_aload_n hx hb dX8_put_89 rfl (lv_at hl 3 rfl) ?_
        refine lv_iconst (v := 1) hx hb dX8_put_90 (by decide) ?_
        refine va_calli (va_runV (As := [.int 1]) (rest := []) ⟨hx, hb, hml, hown, hts⟩ (c_succeed l G cy L F24 H.size o qa Mm Dd Sl Pp (Kr.1, Kr.2.1, upd Kr.2.2 (12 * j_rk + q_i) (-1)) Bk Xx hR25 1) (cwV 1 hts gX8_put_X8_succeed rfl rfl rfl (by decide +kernel) ⟨Nat.le_of_ble_eq_true rfl, Nat.le_of_ble_eq_true rfl⟩) (preV_of okQ (⟨rfl, hP, hK, hD.top⟩) (pl_recv hK hP (ci := 7) rfl hmo hFo_24)) rfl rfl hl.1 rfl (lv_room (Nat.le_of_ble_eq_true rfl)) dX8_put_91 ⟨Nat.le_of_ble_eq_true rfl, Nat.le_of_ble_eq_true rfl⟩) hS (fun q _ h => pl_free hD hS hA q h) (pl_free hD hS hA) (fun r27 F26 t H1 locs ht hvm hw hP1 hz1 hk1 hS => ?_)
        have hP1 : va_P G vwCl (va_pl L F26) t.heap := hP1
        rw [ht] at hP1
        have hP := hP1
        generalize H1 = H at hP hS ⊢
        obtain ⟨hqr27, hR28⟩ := hw
        exact W.iret (v := r27) hx hb hr (fun t ht hW => ⟨⟨r27, F26, rfl, (by have hsp : sp_put Pp Kr Xx (nI j_rk) (nI q_i) (-1) = (1, (Kr.1, Kr.2.1, upd Kr.2.2 (12 * j_rk + q_i) (-1)), goodX Xx) := (by unfold sp_put; rw [hi_rk]; exact (if_pos (Or.inl rfl)).trans ((if_pos hp_i).trans ((if_neg (fun q => q.1 rfl)).trans (by rw [nI_tn (q := q_i) (by omega)])))); rw [hsp]; exact ⟨hqr27, hR28⟩), (by show va_P _ _ _ t.heap; rw [ht]; exact hP)⟩, hS.F ht⟩) hS.2.2 dX8_put_94
  · subst hsp
    have hp30 := hRP.1
    obtain ⟨hmsp, hFsp, hreel, -⟩ := hRP.2 ks hks
    rcases ixc 5 rk with hi_rk | ⟨j_rk, hj_rk, hi_rk, ei_rk⟩
    · refine lv_aload_n hx hb dX8_put_0 rfl (lv_at hl 0 rfl) ?_
      refine lv_iload_n hx hb dX8_put_1 rfl (lv_at hl 1 rfl) ?_
      refine va_csq (W.runV (As := [.int rk]) (rest := []) ⟨hx, hb, hml, hown, hts⟩ (c_rackOf_no l G cy L F o qa Mm Dd Sl Pp Kr Bk Xx hR rk hi_rk) (cwV 1 hts gX8_put_X8_rackOf rfl rfl rfl (by decide +kernel) ⟨Nat.le_of_ble_eq_true rfl, Nat.le_of_ble_eq_true rfl⟩) (preV_of okP (⟨hP, hK, hD.top⟩) (pl_recv hK hP (ci := 7) rfl hmo hFo)) rfl rfl hl.1 rfl (lv_room (Nat.le_of_ble_eq_true rfl)) dX8_put_2 ⟨Nat.le_of_ble_eq_true rfl, Nat.le_of_ble_eq_true rfl⟩) (fun r29 hr29 => ?_)
      subst hr29
      refine W.eq (g2 := F0 m 5 ls [.null]) rfl ?_
      refine lv_astoreN (lv' := [(4, .null), (0, .ref o), (1, .int rk), (2, .int i), (3, .int (nI ks))]) hx hb dX8_put_5 hl (by decide) rfl (fun ls hl => ?_)
      refine lv_aload_n hx hb dX8_put_7 rfl (lv_at hl 1 rfl) ?_
      refine lv_iload_n hx hb dX8_put_8 rfl (lv_at hl 4 rfl) ?_
      refine va_csq (W.runV (As := [.int (nI ks)]) (rest := []) ⟨hx, hb, hml, hown, hts⟩ (c_spoolOf l G cy L F o qa Mm Dd Sl Pp Kr Bk Xx hR ks hks) (cwV 1 hts gX8_put_X8_spoolOf rfl rfl rfl (by decide +kernel) ⟨Nat.le_of_ble_eq_true rfl, Nat.le_of_ble_eq_true rfl⟩) (preV_of okP (⟨hP, hK, hD.top⟩) (pl_recv hK hP (ci := 7) rfl hmo hFo)) rfl rfl hl.1 rfl (lv_room (Nat.le_of_ble_eq_true rfl)) dX8_put_9 ⟨Nat.le_of_ble_eq_true rfl, Nat.le_of_ble_eq_true rfl⟩) (fun r30 hr30 => ?_)
      subst hr30
      refine W.eq (g2 := F0 m 12 ls [.ref (qa 7 ks)]) rfl ?_
      refine lv_astore (lv' := [(5, .ref (qa 7 ks)), (4, .null), (0, .ref o), (1, .int rk), (2, .int i), (3, .int (nI ks))]) hx hb dX8_put_12 hl (by decide) rfl (fun ls hl => ?_)
      refine lv_aloadN hx hb dX8_put_14 (lv_at hl 1 rfl) ?_
      refine lv_ifnullN (tgt := 29) hx hb dX8_put_16 (by decide) ?_
      refine lv_sipush (v := -1001) hx hb dX8_put_29 (by decide) ?_
      exact W.iret (v := -1001) hx hb hr (fun t ht hW => ⟨⟨-1001, F, rfl, (by have hsp : sp_put Pp Kr Xx rk i (nI ks) = (-1001, Kr, Xx) := (by unfold sp_put; rw [hi_rk]); rw [hsp]; exact ⟨rfl, hR⟩), (by show va_P _ _ _ t.heap; rw [ht]; exact hP)⟩, hS.F ht⟩) hS.2.2 dX8_put_32
    · subst ei_rk
      obtain ⟨hmk_rk, hmr_rk, hFk_rk, hal_rk, hsz_rk, f_rk, hFr_rk, hokk_rk⟩ := hRR j_rk hj_rk
      rcases lackc (i := i) (by decide) hsz_rk with ⟨hp_i, hk_i⟩ | ⟨hp_i, hk_i⟩ | ⟨q_i, hq_i, hs_i, hp_i, hk_i, ei_i⟩
      · have hp0_i : ¬ pl0 (Kr.1 j_rk) i = 0 := by rw [hp_i]; decide
        refine lv_aload_n hx hb dX8_put_0 rfl (lv_at hl 0 rfl) ?_
        refine lv_iload_n hx hb dX8_put_1 rfl (lv_at hl 1 rfl) ?_
        refine va_csq (W.runV (As := [.int (nI j_rk)]) (rest := []) ⟨hx, hb, hml, hown, hts⟩ (c_rackOf l G cy L F o qa Mm Dd Sl Pp Kr Bk Xx hR j_rk hj_rk) (cwV 1 hts gX8_put_X8_rackOf rfl rfl rfl (by decide +kernel) ⟨Nat.le_of_ble_eq_true rfl, Nat.le_of_ble_eq_true rfl⟩) (preV_of okP (⟨hP, hK, hD.top⟩) (pl_recv hK hP (ci := 7) rfl hmo hFo)) rfl rfl hl.1 rfl (lv_room (Nat.le_of_ble_eq_true rfl)) dX8_put_2 ⟨Nat.le_of_ble_eq_true rfl, Nat.le_of_ble_eq_true rfl⟩) (fun r31 hr31 => ?_)
        subst hr31
        refine W.eq (g2 := F0 m 5 ls [.ref (qa 4 j_rk)]) rfl ?_
        refine lv_astore (lv' := [(4, .ref (qa 4 j_rk)), (0, .ref o), (1, .int (nI j_rk)), (2, .int i), (3, .int (nI ks))]) hx hb dX8_put_5 hl (by decide) rfl (fun ls hl => ?_)
        refine lv_aload_n hx hb dX8_put_7 rfl (lv_at hl 1 rfl) ?_
        refine lv_iload_n hx hb dX8_put_8 rfl (lv_at hl 4 rfl) ?_
        refine va_csq (W.runV (As := [.int (nI ks)]) (rest := []) ⟨hx, hb, hml, hown, hts⟩ (c_spoolOf l G cy L F o qa Mm Dd Sl Pp Kr Bk Xx hR ks hks) (cwV 1 hts gX8_put_X8_spoolOf rfl rfl rfl (by decide +kernel) ⟨Nat.le_of_ble_eq_true rfl, Nat.le_of_ble_eq_true rfl⟩) (preV_of okP (⟨hP, hK, hD.top⟩) (pl_recv hK hP (ci := 7) rfl hmo hFo)) rfl rfl hl.1 rfl (lv_room (Nat.le_of_ble_eq_true rfl)) dX8_put_9 ⟨Nat.le_of_ble_eq_true rfl, Nat.le_of_ble_eq_true rfl⟩) (fun r32 hr32 => ?_)
        subst hr32
        refine W.eq (g2 := F0 m 12 ls [.ref (qa 7 ks)]) rfl ?_
        refine lv_astore (lv' := [(5, .ref (qa 7 ks)), (4, .ref (qa 4 j_rk)), (0, .ref o), (1, .int (nI j_rk)), (2, .int i), (3, .int (nI ks))]) hx hb dX8_put_12 hl (by decide) rfl (fun ls hl => ?_)
        refine lv_aload hx hb dX8_put_14 (lv_at hl 1 rfl) ?_
        refine lv_ifnull hx hb dX8_put_16 ?_
        refine lv_aload hx hb dX8_put_19 (lv_at hl 0 rfl) ?_
        refine lv_ifnonnull (tgt := 33) hx hb dX8_put_21 (by decide) ?_
        refine lv_aload hx hb dX8_put_33 (lv_at hl 1 rfl) ?_
        refine lv_iload_n hx hb dX8_put_35 rfl (lv_at hl 4 rfl) ?_
        refine vp_callSi (cr_of (va_runU (As := [.int i]) (rest := []) ⟨hx, hb, hml, hown, hts⟩ (c_lackAt_rack l G cy L F (qa 4 j_rk) (Kr.1 j_rk) (qa 5 j_rk) (Kr.2.1 j_rk) hmk_rk hFk_rk i) (va_cwU 1 hts gX8_put_X5_lackAt_u244X6 rfl rfl rfl rfl (by decide +kernel) ⟨Nat.le_of_ble_eq_true rfl, Nat.le_of_ble_eq_true rfl⟩) (preV_of okP (⟨hP, hK, hD.top⟩) (pl_recv hK hP (ci := 5) rfl hmk_rk hFk_rk)) rfl rfl hl.1 rfl (lv_room (Nat.le_of_ble_eq_true rfl)) dX8_put_36 ⟨Nat.le_of_ble_eq_true rfl, Nat.le_of_ble_eq_true rfl⟩)) (fun r33 hr33 => ?_)
        rw [hk_i] at hr33
        subst hr33
        refine lv_istore (lv' := [(6, .int 1), (5, .ref (qa 7 ks)), (4, .ref (qa 4 j_rk)), (0, .ref o), (1, .int (nI j_rk)), (2, .int i), (3, .int (nI ks))]) hx hb dX8_put_39 hl (by decide) rfl (fun ls hl => ?_)
        refine lv_iload hx hb dX8_put_41 (lv_at hl 0 rfl) ?_
        refine lv_if_eq (tgt := 53) hx hb dX8_put_43 (by decide) (fun c34 => absurd c34 (by decide)) (fun c34 => ?_)
        refine lv_aload_n hx hb dX8_put_46 rfl (lv_at hl 3 rfl) ?_
        refine lv_iload hx hb dX8_put_47 (lv_at hl 0 rfl) ?_
        refine va_calli (va_runV (As := [.int 1]) (rest := []) ⟨hx, hb, hml, hown, hts⟩ (c_fail_1 l G cy L F s.heap.size o qa Mm Dd Sl Pp Kr Bk Xx hR) (cwV 1 hts gX8_put_X8_fail rfl rfl rfl (by decide +kernel) ⟨Nat.le_of_ble_eq_true rfl, Nat.le_of_ble_eq_true rfl⟩) (preV_of okQ (⟨rfl, hP, hK, hD.top⟩) (pl_recv hK hP (ci := 7) rfl hmo hFo)) rfl rfl hl.1 rfl (lv_room (Nat.le_of_ble_eq_true rfl)) dX8_put_49 ⟨Nat.le_of_ble_eq_true rfl, Nat.le_of_ble_eq_true rfl⟩) hS (fun q _ h => pl_free hD hS hA q h) (pl_free hD hS hA) (fun r36 F35 t H1 locs ht hvm hw hP1 hz1 hk1 hS => ?_)
        have hP1 : va_P G vwCl (va_pl L F35) t.heap := hP1
        rw [ht] at hP1
        have hP := hP1
        generalize H1 = H at hP hS ⊢
        obtain ⟨hqr36, hR37⟩ := hw
        exact W.iret (v := r36) hx hb hr (fun t ht hW => ⟨⟨r36, F35, rfl, (by have hsp : sp_put Pp Kr Xx (nI j_rk) i (nI ks) = (-10 - 1, Kr, failX Xx 1) := (by unfold sp_put; rw [hi_rk]; exact (if_pos (Or.inr ⟨by rw [nI_toInt (by omega)]; omega, by rw [nI_toInt (by omega)]; exact hks⟩)).trans ((if_neg hp0_i).trans (by rw [hp_i]; rfl))); rw [hsp]; exact ⟨hqr36, hR37⟩), (by show va_P _ _ _ t.heap; rw [ht]; exact hP)⟩, hS.F ht⟩) hS.2.2 dX8_put_52
      · have hp0_i : ¬ pl0 (Kr.1 j_rk) i = 0 := by rw [hp_i]; decide
        refine lv_aload_n hx hb dX8_put_0 rfl (lv_at hl 0 rfl) ?_
        refine lv_iload_n hx hb dX8_put_1 rfl (lv_at hl 1 rfl) ?_
        refine va_csq (W.runV (As := [.int (nI j_rk)]) (rest := []) ⟨hx, hb, hml, hown, hts⟩ (c_rackOf l G cy L F o qa Mm Dd Sl Pp Kr Bk Xx hR j_rk hj_rk) (cwV 1 hts gX8_put_X8_rackOf rfl rfl rfl (by decide +kernel) ⟨Nat.le_of_ble_eq_true rfl, Nat.le_of_ble_eq_true rfl⟩) (preV_of okP (⟨hP, hK, hD.top⟩) (pl_recv hK hP (ci := 7) rfl hmo hFo)) rfl rfl hl.1 rfl (lv_room (Nat.le_of_ble_eq_true rfl)) dX8_put_2 ⟨Nat.le_of_ble_eq_true rfl, Nat.le_of_ble_eq_true rfl⟩) (fun r38 hr38 => ?_)
        subst hr38
        refine W.eq (g2 := F0 m 5 ls [.ref (qa 4 j_rk)]) rfl ?_
        refine lv_astore (lv' := [(4, .ref (qa 4 j_rk)), (0, .ref o), (1, .int (nI j_rk)), (2, .int i), (3, .int (nI ks))]) hx hb dX8_put_5 hl (by decide) rfl (fun ls hl => ?_)
        refine lv_aload_n hx hb dX8_put_7 rfl (lv_at hl 1 rfl) ?_
        refine lv_iload_n hx hb dX8_put_8 rfl (lv_at hl 4 rfl) ?_
        refine va_csq (W.runV (As := [.int (nI ks)]) (rest := []) ⟨hx, hb, hml, hown, hts⟩ (c_spoolOf l G cy L F o qa Mm Dd Sl Pp Kr Bk Xx hR ks hks) (cwV 1 hts gX8_put_X8_spoolOf rfl rfl rfl (by decide +kernel) ⟨Nat.le_of_ble_eq_true rfl, Nat.le_of_ble_eq_true rfl⟩) (preV_of okP (⟨hP, hK, hD.top⟩) (pl_recv hK hP (ci := 7) rfl hmo hFo)) rfl rfl hl.1 rfl (lv_room (Nat.le_of_ble_eq_true rfl)) dX8_put_9 ⟨Nat.le_of_ble_eq_true rfl, Nat.le_of_ble_eq_true rfl⟩) (fun r39 hr39 => ?_)
        subst hr39
        refine W.eq (g2 := F0 m 12 ls [.ref (qa 7 ks)]) rfl ?_
        refine lv_astore (lv' := [(5, .ref (qa 7 ks)), (4, .ref (qa 4 j_rk)), (0, .ref o), (1, .int (nI j_rk)), (2, .int i), (3, .int (nI ks))]) hx hb dX8_put_12 hl (by decide) rfl (fun ls hl => ?_)
        refine lv_aload hx hb dX8_put_14 (lv_at hl 1 rfl) ?_
        refine lv_ifnull hx hb dX8_put_16 ?_
        refine lv_aload hx hb dX8_put_19 (lv_at hl 0 rfl) ?_
        refine lv_ifnonnull (tgt := 33) hx hb dX8_put_21 (by decide) ?_
        refine lv_aload hx hb dX8_put_33 (lv_at hl 1 rfl) ?_
        refine lv_iload_n hx hb dX8_put_35 rfl (lv_at hl 4 rfl) ?_
        refine vp_callSi (cr_of (va_runU (As := [.int i]) (rest := []) ⟨hx, hb, hml, hown, hts⟩ (c_lackAt_rack l G cy L F (qa 4 j_rk) (Kr.1 j_rk) (qa 5 j_rk) (Kr.2.1 j_rk) hmk_rk hFk_rk i) (va_cwU 1 hts gX8_put_X5_lackAt_u244X6 rfl rfl rfl rfl (by decide +kernel) ⟨Nat.le_of_ble_eq_true rfl, Nat.le_of_ble_eq_true rfl⟩) (preV_of okP (⟨hP, hK, hD.top⟩) (pl_recv hK hP (ci := 5) rfl hmk_rk hFk_rk)) rfl rfl hl.1 rfl (lv_room (Nat.le_of_ble_eq_true rfl)) dX8_put_36 ⟨Nat.le_of_ble_eq_true rfl, Nat.le_of_ble_eq_true rfl⟩)) (fun r40 hr40 => ?_)
        rw [hk_i] at hr40
        subst hr40
        refine lv_istore (lv' := [(6, .int 2), (5, .ref (qa 7 ks)), (4, .ref (qa 4 j_rk)), (0, .ref o), (1, .int (nI j_rk)), (2, .int i), (3, .int (nI ks))]) hx hb dX8_put_39 hl (by decide) rfl (fun ls hl => ?_)
        refine lv_iload hx hb dX8_put_41 (lv_at hl 0 rfl) ?_
        refine lv_if_eq (tgt := 53) hx hb dX8_put_43 (by decide) (fun c41 => absurd c41 (by decide)) (fun c41 => ?_)
        refine lv_aload_n hx hb dX8_put_46 rfl (lv_at hl 3 rfl) ?_
        refine lv_iload hx hb dX8_put_47 (lv_at hl 0 rfl) ?_
        refine va_calli (va_runV (As := [.int 2]) (rest := []) ⟨hx, hb, hml, hown, hts⟩ (c_fail_2 l G cy L F s.heap.size o qa Mm Dd Sl Pp Kr Bk Xx hR) (cwV 1 hts gX8_put_X8_fail rfl rfl rfl (by decide +kernel) ⟨Nat.le_of_ble_eq_true rfl, Nat.le_of_ble_eq_true rfl⟩) (preV_of okQ (⟨rfl, hP, hK, hD.top⟩) (pl_recv hK hP (ci := 7) rfl hmo hFo)) rfl rfl hl.1 rfl (lv_room (Nat.le_of_ble_eq_true rfl)) dX8_put_49 ⟨Nat.le_of_ble_eq_true rfl, Nat.le_of_ble_eq_true rfl⟩) hS (fun q _ h => pl_free hD hS hA q h) (pl_free hD hS hA) (fun r43 F42 t H1 locs ht hvm hw hP1 hz1 hk1 hS => ?_)
        have hP1 : va_P G vwCl (va_pl L F42) t.heap := hP1
        rw [ht] at hP1
        have hP := hP1
        generalize H1 = H at hP hS ⊢
        obtain ⟨hqr43, hR44⟩ := hw
        exact W.iret (v := r43) hx hb hr (fun t ht hW => ⟨⟨r43, F42, rfl, (by have hsp : sp_put Pp Kr Xx (nI j_rk) i (nI ks) = (-10 - 2, Kr, failX Xx 2) := (by unfold sp_put; rw [hi_rk]; exact (if_pos (Or.inr ⟨by rw [nI_toInt (by omega)]; omega, by rw [nI_toInt (by omega)]; exact hks⟩)).trans ((if_neg hp0_i).trans (by rw [hp_i]; rfl))); rw [hsp]; exact ⟨hqr43, hR44⟩), (by show va_P _ _ _ t.heap; rw [ht]; exact hP)⟩, hS.F ht⟩) hS.2.2 dX8_put_52
      · subst ei_i
        refine lv_aload_n hx hb dX8_put_0 rfl (lv_at hl 0 rfl) ?_
        refine lv_iload_n hx hb dX8_put_1 rfl (lv_at hl 1 rfl) ?_
        refine va_csq (W.runV (As := [.int (nI j_rk)]) (rest := []) ⟨hx, hb, hml, hown, hts⟩ (c_rackOf l G cy L F o qa Mm Dd Sl Pp Kr Bk Xx hR j_rk hj_rk) (cwV 1 hts gX8_put_X8_rackOf rfl rfl rfl (by decide +kernel) ⟨Nat.le_of_ble_eq_true rfl, Nat.le_of_ble_eq_true rfl⟩) (preV_of okP (⟨hP, hK, hD.top⟩) (pl_recv hK hP (ci := 7) rfl hmo hFo)) rfl rfl hl.1 rfl (lv_room (Nat.le_of_ble_eq_true rfl)) dX8_put_2 ⟨Nat.le_of_ble_eq_true rfl, Nat.le_of_ble_eq_true rfl⟩) (fun r45 hr45 => ?_)
        subst hr45
        refine W.eq (g2 := F0 m 5 ls [.ref (qa 4 j_rk)]) rfl ?_
        refine lv_astore (lv' := [(4, .ref (qa 4 j_rk)), (0, .ref o), (1, .int (nI j_rk)), (2, .int (nI q_i)), (3, .int (nI ks))]) hx hb dX8_put_5 hl (by decide) rfl (fun ls hl => ?_)
        refine lv_aload_n hx hb dX8_put_7 rfl (lv_at hl 1 rfl) ?_
        refine lv_iload_n hx hb dX8_put_8 rfl (lv_at hl 4 rfl) ?_
        refine va_csq (W.runV (As := [.int (nI ks)]) (rest := []) ⟨hx, hb, hml, hown, hts⟩ (c_spoolOf l G cy L F o qa Mm Dd Sl Pp Kr Bk Xx hR ks hks) (cwV 1 hts gX8_put_X8_spoolOf rfl rfl rfl (by decide +kernel) ⟨Nat.le_of_ble_eq_true rfl, Nat.le_of_ble_eq_true rfl⟩) (preV_of okP (⟨hP, hK, hD.top⟩) (pl_recv hK hP (ci := 7) rfl hmo hFo)) rfl rfl hl.1 rfl (lv_room (Nat.le_of_ble_eq_true rfl)) dX8_put_9 ⟨Nat.le_of_ble_eq_true rfl, Nat.le_of_ble_eq_true rfl⟩) (fun r46 hr46 => ?_)
        subst hr46
        refine W.eq (g2 := F0 m 12 ls [.ref (qa 7 ks)]) rfl ?_
        refine lv_astore (lv' := [(5, .ref (qa 7 ks)), (4, .ref (qa 4 j_rk)), (0, .ref o), (1, .int (nI j_rk)), (2, .int (nI q_i)), (3, .int (nI ks))]) hx hb dX8_put_12 hl (by decide) rfl (fun ls hl => ?_)
        refine lv_aload hx hb dX8_put_14 (lv_at hl 1 rfl) ?_
        refine lv_ifnull hx hb dX8_put_16 ?_
        refine lv_aload hx hb dX8_put_19 (lv_at hl 0 rfl) ?_
        refine lv_ifnonnull (tgt := 33) hx hb dX8_put_21 (by decide) ?_
        refine lv_aload hx hb dX8_put_33 (lv_at hl 1 rfl) ?_
        refine lv_iload_n hx hb dX8_put_35 rfl (lv_at hl 4 rfl) ?_
        refine vp_callSi (cr_of (va_runU (As := [.int (nI q_i)]) (rest := []) ⟨hx, hb, hml, hown, hts⟩ (c_lackAt_rack l G cy L F (qa 4 j_rk) (Kr.1 j_rk) (qa 5 j_rk) (Kr.2.1 j_rk) hmk_rk hFk_rk (nI q_i)) (va_cwU 1 hts gX8_put_X5_lackAt_u244X6 rfl rfl rfl rfl (by decide +kernel) ⟨Nat.le_of_ble_eq_true rfl, Nat.le_of_ble_eq_true rfl⟩) (preV_of okP (⟨hP, hK, hD.top⟩) (pl_recv hK hP (ci := 5) rfl hmk_rk hFk_rk)) rfl rfl hl.1 rfl (lv_room (Nat.le_of_ble_eq_true rfl)) dX8_put_36 ⟨Nat.le_of_ble_eq_true rfl, Nat.le_of_ble_eq_true rfl⟩)) (fun r47 hr47 => ?_)
        rw [hk_i] at hr47
        subst hr47
        refine lv_istore (lv' := [(6, .int 0), (5, .ref (qa 7 ks)), (4, .ref (qa 4 j_rk)), (0, .ref o), (1, .int (nI j_rk)), (2, .int (nI q_i)), (3, .int (nI ks))]) hx hb dX8_put_39 hl (by decide) rfl (fun ls hl => ?_)
        refine lv_iload hx hb dX8_put_41 (lv_at hl 0 rfl) ?_
        refine lv_if_eq (tgt := 53) hx hb dX8_put_43 (by decide) (fun c48 => ?_) (fun c48 => absurd (by decide) c48)
        refine lv_aload hx hb dX8_put_53 (lv_at hl 1 rfl) ?_
        refine lv_ifnull hx hb dX8_put_55 ?_
        refine lv_aload hx hb dX8_put_58 (lv_at hl 1 rfl) ?_
        refine pg_get (ci := 6) (C := RX7) (T := TX7) (N := 3) hx hb hts hinX7 hown hK hP hmsp hFsp rfl 2 (by decide) (hts (.fieldLink RX8 245 "RopeDrums$Spool" "isReel" "Z") (by decide +kernel)) (fun _ h9 => h9) rfl dX8_put_60 ?_
        refine lv_if_ne (tgt := 80) hx hb dX8_put_63 (by decide) (fun c49 => ?_) (fun c49 => ?_)
        · refine lv_aload hx hb dX8_put_80 (lv_at hl 2 rfl) ?_
          refine pg_get (ci := 5) (C := RX6) (T := TX6) (N := 3) hx hb hts hinX6 hown hK hP hmk_rk hFk_rk rfl 1 (by decide) (hts (.fieldLink RX8 248 "RopeDrums$Rack" "row" "[LRopeDrums$Spool;") (by decide +kernel)) (fun _ h9 => h9) rfl dX8_put_82 ?_
          refine lv_iload_n hx hb dX8_put_85 rfl (lv_at hl 5 rfl) ?_
          refine lv_aload hx hb dX8_put_86 (lv_at hl 1 rfl) ?_
          refine pg_astq hx hb hK hP hD hS 9 6 hmr_rk hFr_rk rfl hmsp hFsp rfl (vp_in_nI hq_i (by decide)) dX8_put_88 (fun H locs F50 eF50 hP hS => ?_)
          have hFo_50 : F50 o = .inr (7, [.ref (qa 8 0), .ref (qa 8 1), .ref (qa 8 2), .ref (qa 8 3), .ref (qa 8 4), .ref (qa 8 5), .ref (qa 8 6), .int Pp.1, .int Xx.1]) := by rw [eF50, va_up_ne _ _ (pl_ne hFo hFr_rk rfl)]; exact hFo
          have hFqa80_50 : F50 (qa 8 0) = cQ (cy 7) 10 (pR 10 (qa 0)) := by rw [eF50, va_up_ne _ _ (pl_ne hF0 hFr_rk rfl)]; exact hF0
          have hFqa81_50 : F50 (qa 8 1) = cQ (cy 5) 6 (pR 6 (qa 1)) := by rw [eF50, va_up_ne _ _ (pl_ne hF1 hFr_rk rfl)]; exact hF1
          have hFqa82_50 : F50 (qa 8 2) = cQ (cy 6) 8 (pR 8 (qa 2)) := by rw [eF50, va_up_ne _ _ (pl_ne hF2 hFr_rk rfl)]; exact hF2
          have hFqa83_50 : F50 (qa 8 3) = cQ (cy 9) 30 (pR Pp.1.toInt.toNat (qa 7)) := by rw [eF50, va_up_ne _ _ (pl_ne hFs hFr_rk rfl)]; exact hFs
          have hFqa84_50 : F50 (qa 8 4) = cQ (cy 8) 5 (pR 5 (qa 4)) := by rw [eF50, va_up_ne _ _ (pl_ne hF4 hFr_rk rfl)]; exact hF4
          have hFqa85_50 : F50 (qa 8 5) = cQ (cy 4) 4 (pR 4 (qa 6)) := by rw [eF50, va_up_ne _ _ (pl_ne hF5 hFr_rk rfl)]; exact hF5
          have hFqa86_50 : F50 (qa 8 6) = cI (cy 1) 6 Xx.2 := by rw [eF50, va_up_ne _ _ (pl_ne hFf hFr_rk rfl)]; exact hFf
          have hFqa7ks_50 : F50 (qa 7 ks) = .inr (6, [.int (nI ks), .int (Pp.2.1 ks), .int (Pp.2.2 ks)]) := by rw [eF50, va_up_ne _ _ (pl_ne hFsp hFr_rk rfl)]; exact hFsp
          have hFqa4j_rk_50 : F50 (qa 4 j_rk) = .inr (5, [.int (Kr.1 j_rk), .ref (qa 5 j_rk), .int (Kr.2.1 j_rk)]) := by rw [eF50, va_up_ne _ _ (pl_ne hFk_rk hFr_rk rfl)]; exact hFk_rk
          have hFqa5j_rk_50 : F50 (qa 5 j_rk) = cQ (cy 9) 12 (va_up f_rk (nI q_i : Int32).toNatClampNeg (some (qa 7 ks))) := by rw [eF50]; exact va_up_self _ _ _
          have hR51 : Rep cy L o qa Mm Dd Sl Pp (Kr.1, Kr.2.1, upd Kr.2.2 (12 * j_rk + q_i) (nI ks)) Bk Xx F50 := by rw [eF50]; exact hR.cellK hj_rk hq_i hokk_rk (Or.inr ⟨ks, hks, rfl, rfl⟩)
          refine lv_aload_n hx hb dX8_put_89 rfl (lv_at hl 3 rfl) ?_
          refine lv_iconst (v := 1) hx hb dX8_put_90 (by decide) ?_
          refine va_calli (va_runV (As := [.int 1]) (rest := []) ⟨hx, hb, hml, hown, hts⟩ (c_succeed l G cy L F50 H.size o qa Mm Dd Sl Pp (Kr.1, Kr.2.1, upd Kr.2.2 (12 * j_rk + q_i) (nI ks)) Bk Xx hR51 1) (cwV 1 hts gX8_put_X8_succeed rfl rfl rfl (by decide +kernel) ⟨Nat.le_of_ble_eq_true rfl, Nat.le_of_ble_eq_true rfl⟩) (preV_of okQ (⟨rfl, hP, hK, hD.top⟩) (pl_recv hK hP (ci := 7) rfl hmo hFo_50)) rfl rfl hl.1 rfl (lv_room (Nat.le_of_ble_eq_true rfl)) dX8_put_91 ⟨Nat.le_of_ble_eq_true rfl, Nat.le_of_ble_eq_true rfl⟩) hS (fun q _ h => pl_free hD hS hA q h) (pl_free hD hS hA) (fun r53 F52 t H1 locs ht hvm hw hP1 hz1 hk1 hS => ?_)
          have hP1 : va_P G vwCl (va_pl L F52) t.heap := hP1
          rw [ht] at hP1
          have hP := hP1
          generalize H1 = H at hP hS ⊢
          obtain ⟨hqr53, hR54⟩ := hw
          exact W.iret (v := r53) hx hb hr (fun t ht hW => ⟨⟨r53, F52, rfl, (by have hsp : sp_put Pp Kr Xx (nI j_rk) (nI q_i) (nI ks) = (1, (Kr.1, Kr.2.1, upd Kr.2.2 (12 * j_rk + q_i) (nI ks)), goodX Xx) := (by unfold sp_put; rw [hi_rk]; exact (if_pos (Or.inr ⟨by rw [nI_toInt (by omega)]; omega, by rw [nI_toInt (by omega)]; exact hks⟩)).trans ((if_pos hp_i).trans ((if_neg (fun q => c49 (by have := q.2.1; rw [nI_tn (by omega)] at this; exact this))).trans (by rw [nI_tn (q := q_i) (by omega)])))); rw [hsp]; exact ⟨hqr53, hR54⟩), (by show va_P _ _ _ t.heap; rw [ht]; exact hP)⟩, hS.F ht⟩) hS.2.2 dX8_put_94
        · refine lv_aload hx hb dX8_put_66 (lv_at hl 2 rfl) ?_
          refine pg_get (ci := 5) (C := RX6) (T := TX6) (N := 3) hx hb hts hinX6 hown hK hP hmk_rk hFk_rk rfl 2 (by decide) (hts (.fieldLink RX8 235 "RopeDrums$Rack" "reelsAlone" "Z") (by decide +kernel)) (fun _ h9 => h9) rfl dX8_put_68 ?_
          refine lv_if_eq (tgt := 80) hx hb dX8_put_71 (by decide) (fun c55 => ?_) (fun c55 => ?_)
          · refine lv_aload hx hb dX8_put_80 (lv_at hl 2 rfl) ?_
            refine pg_get (ci := 5) (C := RX6) (T := TX6) (N := 3) hx hb hts hinX6 hown hK hP hmk_rk hFk_rk rfl 1 (by decide) (hts (.fieldLink RX8 248 "RopeDrums$Rack" "row" "[LRopeDrums$Spool;") (by decide +kernel)) (fun _ h9 => h9) rfl dX8_put_82 ?_
            refine lv_iload_n hx hb dX8_put_85 rfl (lv_at hl 5 rfl) ?_
            refine lv_aload hx hb dX8_put_86 (lv_at hl 1 rfl) ?_
            refine pg_astq hx hb hK hP hD hS 9 6 hmr_rk hFr_rk rfl hmsp hFsp rfl (vp_in_nI hq_i (by decide)) dX8_put_88 (fun H locs F56 eF56 hP hS => ?_)
            have hFo_56 : F56 o = .inr (7, [.ref (qa 8 0), .ref (qa 8 1), .ref (qa 8 2), .ref (qa 8 3), .ref (qa 8 4), .ref (qa 8 5), .ref (qa 8 6), .int Pp.1, .int Xx.1]) := by rw [eF56, va_up_ne _ _ (pl_ne hFo hFr_rk rfl)]; exact hFo
            have hFqa80_56 : F56 (qa 8 0) = cQ (cy 7) 10 (pR 10 (qa 0)) := by rw [eF56, va_up_ne _ _ (pl_ne hF0 hFr_rk rfl)]; exact hF0
            have hFqa81_56 : F56 (qa 8 1) = cQ (cy 5) 6 (pR 6 (qa 1)) := by rw [eF56, va_up_ne _ _ (pl_ne hF1 hFr_rk rfl)]; exact hF1
            have hFqa82_56 : F56 (qa 8 2) = cQ (cy 6) 8 (pR 8 (qa 2)) := by rw [eF56, va_up_ne _ _ (pl_ne hF2 hFr_rk rfl)]; exact hF2
            have hFqa83_56 : F56 (qa 8 3) = cQ (cy 9) 30 (pR Pp.1.toInt.toNat (qa 7)) := by rw [eF56, va_up_ne _ _ (pl_ne hFs hFr_rk rfl)]; exact hFs
            have hFqa84_56 : F56 (qa 8 4) = cQ (cy 8) 5 (pR 5 (qa 4)) := by rw [eF56, va_up_ne _ _ (pl_ne hF4 hFr_rk rfl)]; exact hF4
            have hFqa85_56 : F56 (qa 8 5) = cQ (cy 4) 4 (pR 4 (qa 6)) := by rw [eF56, va_up_ne _ _ (pl_ne hF5 hFr_rk rfl)]; exact hF5
            have hFqa86_56 : F56 (qa 8 6) = cI (cy 1) 6 Xx.2 := by rw [eF56, va_up_ne _ _ (pl_ne hFf hFr_rk rfl)]; exact hFf
            have hFqa7ks_56 : F56 (qa 7 ks) = .inr (6, [.int (nI ks), .int (Pp.2.1 ks), .int (Pp.2.2 ks)]) := by rw [eF56, va_up_ne _ _ (pl_ne hFsp hFr_rk rfl)]; exact hFsp
            have hFqa4j_rk_56 : F56 (qa 4 j_rk) = .inr (5, [.int (Kr.1 j_rk), .ref (qa 5 j_rk), .int (Kr.2.1 j_rk)]) := by rw [eF56, va_up_ne _ _ (pl_ne hFk_rk hFr_rk rfl)]; exact hFk_rk
            have hFqa5j_rk_56 : F56 (qa 5 j_rk) = cQ (cy 9) 12 (va_up f_rk (nI q_i : Int32).toNatClampNeg (some (qa 7 ks))) := by rw [eF56]; exact va_up_self _ _ _
            have hR57 : Rep cy L o qa Mm Dd Sl Pp (Kr.1, Kr.2.1, upd Kr.2.2 (12 * j_rk + q_i) (nI ks)) Bk Xx F56 := by rw [eF56]; exact hR.cellK hj_rk hq_i hokk_rk (Or.inr ⟨ks, hks, rfl, rfl⟩)
            refine lv_aload_n hx hb dX8_put_89 rfl (lv_at hl 3 rfl) ?_
            refine lv_iconst (v := 1) hx hb dX8_put_90 (by decide) ?_
            refine va_calli (va_runV (As := [.int 1]) (rest := []) ⟨hx, hb, hml, hown, hts⟩ (c_succeed l G cy L F56 H.size o qa Mm Dd Sl Pp (Kr.1, Kr.2.1, upd Kr.2.2 (12 * j_rk + q_i) (nI ks)) Bk Xx hR57 1) (cwV 1 hts gX8_put_X8_succeed rfl rfl rfl (by decide +kernel) ⟨Nat.le_of_ble_eq_true rfl, Nat.le_of_ble_eq_true rfl⟩) (preV_of okQ (⟨rfl, hP, hK, hD.top⟩) (pl_recv hK hP (ci := 7) rfl hmo hFo_56)) rfl rfl hl.1 rfl (lv_room (Nat.le_of_ble_eq_true rfl)) dX8_put_91 ⟨Nat.le_of_ble_eq_true rfl, Nat.le_of_ble_eq_true rfl⟩) hS (fun q _ h => pl_free hD hS hA q h) (pl_free hD hS hA) (fun r59 F58 t H1 locs ht hvm hw hP1 hz1 hk1 hS => ?_)
            have hP1 : va_P G vwCl (va_pl L F58) t.heap := hP1
            rw [ht] at hP1
            have hP := hP1
            generalize H1 = H at hP hS ⊢
            obtain ⟨hqr59, hR60⟩ := hw
            exact W.iret (v := r59) hx hb hr (fun t ht hW => ⟨⟨r59, F58, rfl, (by have hsp : sp_put Pp Kr Xx (nI j_rk) (nI q_i) (nI ks) = (1, (Kr.1, Kr.2.1, upd Kr.2.2 (12 * j_rk + q_i) (nI ks)), goodX Xx) := (by unfold sp_put; rw [hi_rk]; exact (if_pos (Or.inr ⟨by rw [nI_toInt (by omega)]; omega, by rw [nI_toInt (by omega)]; exact hks⟩)).trans ((if_pos hp_i).trans ((if_neg (fun q => q.2.2 c55)).trans (by rw [nI_tn (q := q_i) (by omega)])))); rw [hsp]; exact ⟨hqr59, hR60⟩), (by show va_P _ _ _ t.heap; rw [ht]; exact hP)⟩, hS.F ht⟩) hS.2.2 dX8_put_94
          · refine lv_aload_n hx hb dX8_put_74 rfl (lv_at hl 3 rfl) ?_
            refine lv_iconst (v := 3) hx hb dX8_put_75 (by decide) ?_
            refine va_calli (va_runV (As := [.int 3]) (rest := []) ⟨hx, hb, hml, hown, hts⟩ (c_fail_3 l G cy L F s.heap.size o qa Mm Dd Sl Pp Kr Bk Xx hR) (cwV 1 hts gX8_put_X8_fail rfl rfl rfl (by decide +kernel) ⟨Nat.le_of_ble_eq_true rfl, Nat.le_of_ble_eq_true rfl⟩) (preV_of okQ (⟨rfl, hP, hK, hD.top⟩) (pl_recv hK hP (ci := 7) rfl hmo hFo)) rfl rfl hl.1 rfl (lv_room (Nat.le_of_ble_eq_true rfl)) dX8_put_76 ⟨Nat.le_of_ble_eq_true rfl, Nat.le_of_ble_eq_true rfl⟩) hS (fun q _ h => pl_free hD hS hA q h) (pl_free hD hS hA) (fun r62 F61 t H1 locs ht hvm hw hP1 hz1 hk1 hS => ?_)
            have hP1 : va_P G vwCl (va_pl L F61) t.heap := hP1
            rw [ht] at hP1
            have hP := hP1
            generalize H1 = H at hP hS ⊢
            obtain ⟨hqr62, hR63⟩ := hw
            exact W.iret (v := r62) hx hb hr (fun t ht hW => ⟨⟨r62, F61, rfl, (by have hsp : sp_put Pp Kr Xx (nI j_rk) (nI q_i) (nI ks) = (-10 - 3, Kr, failX Xx 3) := (by unfold sp_put; rw [hi_rk]; exact (if_pos (Or.inr ⟨by rw [nI_toInt (by omega)]; omega, by rw [nI_toInt (by omega)]; exact hks⟩)).trans ((if_pos hp_i).trans (if_pos ⟨nI_neg (by omega), by rw [nI_tn (by omega)]; exact c49, c55⟩))); rw [hsp]; exact ⟨hqr62, hR63⟩), (by show va_P _ _ _ t.heap; rw [ht]; exact hP)⟩, hS.F ht⟩) hS.2.2 dX8_put_79
  · rcases ixc 5 rk with hi_rk | ⟨j_rk, hj_rk, hi_rk, ei_rk⟩
    · refine lv_aload_n hx hb dX8_put_0 rfl (lv_at hl 0 rfl) ?_
      refine lv_iload_n hx hb dX8_put_1 rfl (lv_at hl 1 rfl) ?_
      refine va_csq (W.runV (As := [.int rk]) (rest := []) ⟨hx, hb, hml, hown, hts⟩ (c_rackOf_no l G cy L F o qa Mm Dd Sl Pp Kr Bk Xx hR rk hi_rk) (cwV 1 hts gX8_put_X8_rackOf rfl rfl rfl (by decide +kernel) ⟨Nat.le_of_ble_eq_true rfl, Nat.le_of_ble_eq_true rfl⟩) (preV_of okP (⟨hP, hK, hD.top⟩) (pl_recv hK hP (ci := 7) rfl hmo hFo)) rfl rfl hl.1 rfl (lv_room (Nat.le_of_ble_eq_true rfl)) dX8_put_2 ⟨Nat.le_of_ble_eq_true rfl, Nat.le_of_ble_eq_true rfl⟩) (fun r64 hr64 => ?_)
      subst hr64
      refine W.eq (g2 := F0 m 5 ls [.null]) rfl ?_
      refine lv_astoreN (lv' := [(4, .null), (0, .ref o), (1, .int rk), (2, .int i), (3, .int sp)]) hx hb dX8_put_5 hl (by decide) rfl (fun ls hl => ?_)
      refine lv_aload_n hx hb dX8_put_7 rfl (lv_at hl 1 rfl) ?_
      refine lv_iload_n hx hb dX8_put_8 rfl (lv_at hl 4 rfl) ?_
      refine va_csq (W.runV (As := [.int sp]) (rest := []) ⟨hx, hb, hml, hown, hts⟩ (c_spoolOf_no l G cy L F o qa Mm Dd Sl Pp Kr Bk Xx hR sp hsp2) (cwV 1 hts gX8_put_X8_spoolOf rfl rfl rfl (by decide +kernel) ⟨Nat.le_of_ble_eq_true rfl, Nat.le_of_ble_eq_true rfl⟩) (preV_of okP (⟨hP, hK, hD.top⟩) (pl_recv hK hP (ci := 7) rfl hmo hFo)) rfl rfl hl.1 rfl (lv_room (Nat.le_of_ble_eq_true rfl)) dX8_put_9 ⟨Nat.le_of_ble_eq_true rfl, Nat.le_of_ble_eq_true rfl⟩) (fun r65 hr65 => ?_)
      subst hr65
      refine W.eq (g2 := F0 m 12 ls [.null]) rfl ?_
      refine lv_astoreN (lv' := [(5, .null), (4, .null), (0, .ref o), (1, .int rk), (2, .int i), (3, .int sp)]) hx hb dX8_put_12 hl (by decide) rfl (fun ls hl => ?_)
      refine lv_aloadN hx hb dX8_put_14 (lv_at hl 1 rfl) ?_
      refine lv_ifnullN (tgt := 29) hx hb dX8_put_16 (by decide) ?_
      refine lv_sipush (v := -1001) hx hb dX8_put_29 (by decide) ?_
      exact W.iret (v := -1001) hx hb hr (fun t ht hW => ⟨⟨-1001, F, rfl, (by have hsp : sp_put Pp Kr Xx rk i sp = (-1001, Kr, Xx) := (by unfold sp_put; rw [hi_rk]); rw [hsp]; exact ⟨rfl, hR⟩), (by show va_P _ _ _ t.heap; rw [ht]; exact hP)⟩, hS.F ht⟩) hS.2.2 dX8_put_32
    · subst ei_rk
      obtain ⟨hmk_rk, hmr_rk, hFk_rk, hal_rk, hsz_rk, f_rk, hFr_rk, hokk_rk⟩ := hRR j_rk hj_rk
      rcases lackc (i := i) (by decide) hsz_rk with ⟨hp_i, hk_i⟩ | ⟨hp_i, hk_i⟩ | ⟨q_i, hq_i, hs_i, hp_i, hk_i, ei_i⟩
      · have hp0_i : ¬ pl0 (Kr.1 j_rk) i = 0 := by rw [hp_i]; decide
        refine lv_aload_n hx hb dX8_put_0 rfl (lv_at hl 0 rfl) ?_
        refine lv_iload_n hx hb dX8_put_1 rfl (lv_at hl 1 rfl) ?_
        refine va_csq (W.runV (As := [.int (nI j_rk)]) (rest := []) ⟨hx, hb, hml, hown, hts⟩ (c_rackOf l G cy L F o qa Mm Dd Sl Pp Kr Bk Xx hR j_rk hj_rk) (cwV 1 hts gX8_put_X8_rackOf rfl rfl rfl (by decide +kernel) ⟨Nat.le_of_ble_eq_true rfl, Nat.le_of_ble_eq_true rfl⟩) (preV_of okP (⟨hP, hK, hD.top⟩) (pl_recv hK hP (ci := 7) rfl hmo hFo)) rfl rfl hl.1 rfl (lv_room (Nat.le_of_ble_eq_true rfl)) dX8_put_2 ⟨Nat.le_of_ble_eq_true rfl, Nat.le_of_ble_eq_true rfl⟩) (fun r66 hr66 => ?_)
        subst hr66
        refine W.eq (g2 := F0 m 5 ls [.ref (qa 4 j_rk)]) rfl ?_
        refine lv_astore (lv' := [(4, .ref (qa 4 j_rk)), (0, .ref o), (1, .int (nI j_rk)), (2, .int i), (3, .int sp)]) hx hb dX8_put_5 hl (by decide) rfl (fun ls hl => ?_)
        refine lv_aload_n hx hb dX8_put_7 rfl (lv_at hl 1 rfl) ?_
        refine lv_iload_n hx hb dX8_put_8 rfl (lv_at hl 4 rfl) ?_
        refine va_csq (W.runV (As := [.int sp]) (rest := []) ⟨hx, hb, hml, hown, hts⟩ (c_spoolOf_no l G cy L F o qa Mm Dd Sl Pp Kr Bk Xx hR sp hsp2) (cwV 1 hts gX8_put_X8_spoolOf rfl rfl rfl (by decide +kernel) ⟨Nat.le_of_ble_eq_true rfl, Nat.le_of_ble_eq_true rfl⟩) (preV_of okP (⟨hP, hK, hD.top⟩) (pl_recv hK hP (ci := 7) rfl hmo hFo)) rfl rfl hl.1 rfl (lv_room (Nat.le_of_ble_eq_true rfl)) dX8_put_9 ⟨Nat.le_of_ble_eq_true rfl, Nat.le_of_ble_eq_true rfl⟩) (fun r67 hr67 => ?_)
        subst hr67
        refine W.eq (g2 := F0 m 12 ls [.null]) rfl ?_
        refine lv_astoreN (lv' := [(5, .null), (4, .ref (qa 4 j_rk)), (0, .ref o), (1, .int (nI j_rk)), (2, .int i), (3, .int sp)]) hx hb dX8_put_12 hl (by decide) rfl (fun ls hl => ?_)
        refine lv_aload hx hb dX8_put_14 (lv_at hl 1 rfl) ?_
        refine lv_ifnull hx hb dX8_put_16 ?_
        refine lv_aloadN hx hb dX8_put_19 (lv_at hl 0 rfl) ?_
        refine lv_ifnonnullN hx hb dX8_put_21 ?_
        refine lv_iload_n hx hb dX8_put_24 rfl (lv_at hl 5 rfl) ?_
        refine lv_iconst (v := -1) hx hb dX8_put_25 (by decide) ?_
        refine lv_icmp_eq (tgt := 33) hx hb dX8_put_26 (by decide) (fun c68 => absurd c68 (hsp1)) (fun c68 => ?_)
        refine lv_sipush (v := -1001) hx hb dX8_put_29 (by decide) ?_
        exact W.iret (v := -1001) hx hb hr (fun t ht hW => ⟨⟨-1001, F, rfl, (by have hsp : sp_put Pp Kr Xx (nI j_rk) i sp = (-1001, Kr, Xx) := (by unfold sp_put; rw [hi_rk]; exact if_neg (fun q => q.elim hsp1 hsp2)); rw [hsp]; exact ⟨rfl, hR⟩), (by show va_P _ _ _ t.heap; rw [ht]; exact hP)⟩, hS.F ht⟩) hS.2.2 dX8_put_32
      · have hp0_i : ¬ pl0 (Kr.1 j_rk) i = 0 := by rw [hp_i]; decide
        refine lv_aload_n hx hb dX8_put_0 rfl (lv_at hl 0 rfl) ?_
        refine lv_iload_n hx hb dX8_put_1 rfl (lv_at hl 1 rfl) ?_
        refine va_csq (W.runV (As := [.int (nI j_rk)]) (rest := []) ⟨hx, hb, hml, hown, hts⟩ (c_rackOf l G cy L F o qa Mm Dd Sl Pp Kr Bk Xx hR j_rk hj_rk) (cwV 1 hts gX8_put_X8_rackOf rfl rfl rfl (by decide +kernel) ⟨Nat.le_of_ble_eq_true rfl, Nat.le_of_ble_eq_true rfl⟩) (preV_of okP (⟨hP, hK, hD.top⟩) (pl_recv hK hP (ci := 7) rfl hmo hFo)) rfl rfl hl.1 rfl (lv_room (Nat.le_of_ble_eq_true rfl)) dX8_put_2 ⟨Nat.le_of_ble_eq_true rfl, Nat.le_of_ble_eq_true rfl⟩) (fun r69 hr69 => ?_)
        subst hr69
        refine W.eq (g2 := F0 m 5 ls [.ref (qa 4 j_rk)]) rfl ?_
        refine lv_astore (lv' := [(4, .ref (qa 4 j_rk)), (0, .ref o), (1, .int (nI j_rk)), (2, .int i), (3, .int sp)]) hx hb dX8_put_5 hl (by decide) rfl (fun ls hl => ?_)
        refine lv_aload_n hx hb dX8_put_7 rfl (lv_at hl 1 rfl) ?_
        refine lv_iload_n hx hb dX8_put_8 rfl (lv_at hl 4 rfl) ?_
        refine va_csq (W.runV (As := [.int sp]) (rest := []) ⟨hx, hb, hml, hown, hts⟩ (c_spoolOf_no l G cy L F o qa Mm Dd Sl Pp Kr Bk Xx hR sp hsp2) (cwV 1 hts gX8_put_X8_spoolOf rfl rfl rfl (by decide +kernel) ⟨Nat.le_of_ble_eq_true rfl, Nat.le_of_ble_eq_true rfl⟩) (preV_of okP (⟨hP, hK, hD.top⟩) (pl_recv hK hP (ci := 7) rfl hmo hFo)) rfl rfl hl.1 rfl (lv_room (Nat.le_of_ble_eq_true rfl)) dX8_put_9 ⟨Nat.le_of_ble_eq_true rfl, Nat.le_of_ble_eq_true rfl⟩) (fun r70 hr70 => ?_)
        subst hr70
        refine W.eq (g2 := F0 m 12 ls [.null]) rfl ?_
        refine lv_astoreN (lv' := [(5, .null), (4, .ref (qa 4 j_rk)), (0, .ref o), (1, .int (nI j_rk)), (2, .int i), (3, .int sp)]) hx hb dX8_put_12 hl (by decide) rfl (fun ls hl => ?_)
        refine lv_aload hx hb dX8_put_14 (lv_at hl 1 rfl) ?_
        refine lv_ifnull hx hb dX8_put_16 ?_
        refine lv_aloadN hx hb dX8_put_19 (lv_at hl 0 rfl) ?_
        refine lv_ifnonnullN hx hb dX8_put_21 ?_
        refine lv_iload_n hx hb dX8_put_24 rfl (lv_at hl 5 rfl) ?_
        refine lv_iconst (v := -1) hx hb dX8_put_25 (by decide) ?_
        refine lv_icmp_eq (tgt := 33) hx hb dX8_put_26 (by decide) (fun c71 => absurd c71 (hsp1)) (fun c71 => ?_)
        refine lv_sipush (v := -1001) hx hb dX8_put_29 (by decide) ?_
        exact W.iret (v := -1001) hx hb hr (fun t ht hW => ⟨⟨-1001, F, rfl, (by have hsp : sp_put Pp Kr Xx (nI j_rk) i sp = (-1001, Kr, Xx) := (by unfold sp_put; rw [hi_rk]; exact if_neg (fun q => q.elim hsp1 hsp2)); rw [hsp]; exact ⟨rfl, hR⟩), (by show va_P _ _ _ t.heap; rw [ht]; exact hP)⟩, hS.F ht⟩) hS.2.2 dX8_put_32
      · subst ei_i
        refine lv_aload_n hx hb dX8_put_0 rfl (lv_at hl 0 rfl) ?_
        refine lv_iload_n hx hb dX8_put_1 rfl (lv_at hl 1 rfl) ?_
        refine va_csq (W.runV (As := [.int (nI j_rk)]) (rest := []) ⟨hx, hb, hml, hown, hts⟩ (c_rackOf l G cy L F o qa Mm Dd Sl Pp Kr Bk Xx hR j_rk hj_rk) (cwV 1 hts gX8_put_X8_rackOf rfl rfl rfl (by decide +kernel) ⟨Nat.le_of_ble_eq_true rfl, Nat.le_of_ble_eq_true rfl⟩) (preV_of okP (⟨hP, hK, hD.top⟩) (pl_recv hK hP (ci := 7) rfl hmo hFo)) rfl rfl hl.1 rfl (lv_room (Nat.le_of_ble_eq_true rfl)) dX8_put_2 ⟨Nat.le_of_ble_eq_true rfl, Nat.le_of_ble_eq_true rfl⟩) (fun r72 hr72 => ?_)
        subst hr72
        refine W.eq (g2 := F0 m 5 ls [.ref (qa 4 j_rk)]) rfl ?_
        refine lv_astore (lv' := [(4, .ref (qa 4 j_rk)), (0, .ref o), (1, .int (nI j_rk)), (2, .int (nI q_i)), (3, .int sp)]) hx hb dX8_put_5 hl (by decide) rfl (fun ls hl => ?_)
        refine lv_aload_n hx hb dX8_put_7 rfl (lv_at hl 1 rfl) ?_
        refine lv_iload_n hx hb dX8_put_8 rfl (lv_at hl 4 rfl) ?_
        refine va_csq (W.runV (As := [.int sp]) (rest := []) ⟨hx, hb, hml, hown, hts⟩ (c_spoolOf_no l G cy L F o qa Mm Dd Sl Pp Kr Bk Xx hR sp hsp2) (cwV 1 hts gX8_put_X8_spoolOf rfl rfl rfl (by decide +kernel) ⟨Nat.le_of_ble_eq_true rfl, Nat.le_of_ble_eq_true rfl⟩) (preV_of okP (⟨hP, hK, hD.top⟩) (pl_recv hK hP (ci := 7) rfl hmo hFo)) rfl rfl hl.1 rfl (lv_room (Nat.le_of_ble_eq_true rfl)) dX8_put_9 ⟨Nat.le_of_ble_eq_true rfl, Nat.le_of_ble_eq_true rfl⟩) (fun r73 hr73 => ?_)
        subst hr73
        refine W.eq (g2 := F0 m 12 ls [.null]) rfl ?_
        refine lv_astoreN (lv' := [(5, .null), (4, .ref (qa 4 j_rk)), (0, .ref o), (1, .int (nI j_rk)), (2, .int (nI q_i)), (3, .int sp)]) hx hb dX8_put_12 hl (by decide) rfl (fun ls hl => ?_)
        refine lv_aload hx hb dX8_put_14 (lv_at hl 1 rfl) ?_
        refine lv_ifnull hx hb dX8_put_16 ?_
        refine lv_aloadN hx hb dX8_put_19 (lv_at hl 0 rfl) ?_
        refine lv_ifnonnullN hx hb dX8_put_21 ?_
        refine lv_iload_n hx hb dX8_put_24 rfl (lv_at hl 5 rfl) ?_
        refine lv_iconst (v := -1) hx hb dX8_put_25 (by decide) ?_
        refine lv_icmp_eq (tgt := 33) hx hb dX8_put_26 (by decide) (fun c74 => absurd c74 (hsp1)) (fun c74 => ?_)
        refine lv_sipush (v := -1001) hx hb dX8_put_29 (by decide) ?_
        exact W.iret (v := -1001) hx hb hr (fun t ht hW => ⟨⟨-1001, F, rfl, (by have hsp : sp_put Pp Kr Xx (nI j_rk) (nI q_i) sp = (-1001, Kr, Xx) := (by unfold sp_put; rw [hi_rk]; exact if_neg (fun q => q.elim hsp1 hsp2)); rw [hsp]; exact ⟨rfl, hR⟩), (by show va_P _ _ _ t.heap; rw [ht]; exact hP)⟩, hS.F ht⟩) hS.2.2 dX8_put_32

set_option maxHeartbeats 8000000 in
set_option maxRecDepth 100000 in
theorem m_at (l : Launch) (G : va_G) (cy : Nat → ClassId) (L : List Nat) (F : Nat → va_E) (ad : Nat → Nat) (sz : Nat) (o : Nat) (qa : Nat → Nat → Nat) (Mm : SM) (Dd : SD) (Sl : SL) (Pp : SP) (Kr : SR) (Bk : SB) (Xx : SX) (hR : Rep cy L o qa Mm Dd Sl Pp Kr Bk Xx F) (rk i : Int32)  : Met l yX8_at wsX8_at ({ frames := 1, cells := 0, slots := 0, locals := 21 }) (va_Pc [.ref o, .int rk, .int i] (fun U => bQE G cy L F ad sz U U.heap)) (va_Qi (fun (r : Int32) (F' : Nat → va_E) => r = (sp_at Kr Xx rk i).1 ∧ Rep cy L o qa Mm Dd Sl Pp Kr Bk (sp_at Kr Xx rk i).2 F') (fun F' t => va_P G vwCl (va_pl L F') t.heap) (va_A (va_pl L F) sz)) 0 0 (va_A (va_pl L F) sz) := by
  refine Met.ofW (cc := cX8_at) (maxL := 6) (ret := (some .int)) (by decide) rfl ?_
  intro p e s m args below meth c s₁ B hml hv
  obtain ⟨rfl, ⟨hsz, hP, hK, hD0⟩, hE, hN⟩ := hv
  have hx := B.exec
  have hb := B.bytes
  have hr := B.returns
  have hts := atoms_spec (ws := wsX8_at) B.pre
  have hown : s.vm.findClass RX8 = some m.cls := findClass_of_methodNamed B.named
  have hlocks := B.notSynchronized
  have hinX8 : ∀ w ∈ wsX80, w ∈ wsX8_at := by decide +kernel
  have hinX6 : ∀ w ∈ wsX60, w ∈ wsX8_at := by decide +kernel
  have hinX7 : ∀ w ∈ wsX70, w ∈ wsX8_at := by decide +kernel
  subst hsz
  have hD := hD0.self F s.heap.size
  generalize hAe : va_A (va_pl L F) s.heap.size = A at hD hE ⊢
  have hA : ∀ q : Nat, s.heap.size ≤ q → A q := fun q h => by rw [← hAe]; exact Or.inr h
  have hS : va_S A s.heap s.heap [] := va_S.rf
  obtain ⟨⟨⟨hmo, hFo⟩, ⟨hmf, hFf⟩, hms, hFs⟩, ⟨⟨hm0, hF0⟩, ⟨hm1, hF1⟩, ⟨hm2, hF2⟩, ⟨hm4, hF4⟩, hm5, hF5⟩, hRM, hRD, hRG, hRP, hRR, hRB, hRI⟩ := id hR
  have hl := lv_entry ([.ref o, .int rk, .int i]) (n := 6) (Nat.le_of_ble_eq_true rfl)
  rw [lg_entry_eq]
  generalize (lg_sl ([.ref o, .int rk, .int i]) ++ List.replicate (6 - (lg_sl ([.ref o, .int rk, .int i])).length) Slot.unset).toArray = ls at hl ⊢
  have hl : lv_has ls 6 [(0, .ref o), (1, .int rk), (2, .int i)] := hl
  rcases ixc 5 rk with hi_rk | ⟨j_rk, hj_rk, hi_rk, ei_rk⟩
  · refine lv_aload_n hx hb dX8_at_0 rfl (lv_at hl 0 rfl) ?_
    refine lv_iload_n hx hb dX8_at_1 rfl (lv_at hl 1 rfl) ?_
    refine va_csq (W.runV (As := [.int rk]) (rest := []) ⟨hx, hb, hml, hown, hts⟩ (c_rackOf_no l G cy L F o qa Mm Dd Sl Pp Kr Bk Xx hR rk hi_rk) (cwV 1 hts gX8_at_X8_rackOf rfl rfl rfl (by decide +kernel) ⟨Nat.le_of_ble_eq_true rfl, Nat.le_of_ble_eq_true rfl⟩) (preV_of okP (⟨hP, hK, hD.top⟩) (pl_recv hK hP (ci := 7) rfl hmo hFo)) rfl rfl hl.1 rfl (lv_room (Nat.le_of_ble_eq_true rfl)) dX8_at_2 ⟨Nat.le_of_ble_eq_true rfl, Nat.le_of_ble_eq_true rfl⟩) (fun r1 hr1 => ?_)
    subst hr1
    refine W.eq (g2 := F0 m 5 ls [.null]) rfl ?_
    refine lv_astore_nN (lv' := [(3, .null), (0, .ref o), (1, .int rk), (2, .int i)]) hx hb dX8_at_5 rfl hl (by decide) rfl (fun ls hl => ?_)
    refine lv_aload_nN hx hb dX8_at_6 rfl (lv_at hl 0 rfl) ?_
    refine lv_ifnonnullN hx hb dX8_at_7 ?_
    refine lv_sipush (v := -1001) hx hb dX8_at_10 (by decide) ?_
    exact W.iret (v := -1001) hx hb hr (fun t ht hW => ⟨⟨-1001, F, rfl, (by have hsp : sp_at Kr Xx rk i = (-1001, Xx) := (by unfold sp_at; rw [hi_rk]); rw [hsp]; exact ⟨rfl, hR⟩), (by show va_P _ _ _ t.heap; rw [ht]; exact hP)⟩, hS.F ht⟩) hS.2.2 dX8_at_13
  · subst ei_rk
    obtain ⟨hmk_rk, hmr_rk, hFk_rk, hal_rk, hsz_rk, f_rk, hFr_rk, hokk_rk⟩ := hRR j_rk hj_rk
    rcases lackc (i := i) (by decide) hsz_rk with ⟨hp_i, hk_i⟩ | ⟨hp_i, hk_i⟩ | ⟨q_i, hq_i, hs_i, hp_i, hk_i, ei_i⟩
    · have hp0_i : ¬ pl0 (Kr.1 j_rk) i = 0 := by rw [hp_i]; decide
      refine lv_aload_n hx hb dX8_at_0 rfl (lv_at hl 0 rfl) ?_
      refine lv_iload_n hx hb dX8_at_1 rfl (lv_at hl 1 rfl) ?_
      refine va_csq (W.runV (As := [.int (nI j_rk)]) (rest := []) ⟨hx, hb, hml, hown, hts⟩ (c_rackOf l G cy L F o qa Mm Dd Sl Pp Kr Bk Xx hR j_rk hj_rk) (cwV 1 hts gX8_at_X8_rackOf rfl rfl rfl (by decide +kernel) ⟨Nat.le_of_ble_eq_true rfl, Nat.le_of_ble_eq_true rfl⟩) (preV_of okP (⟨hP, hK, hD.top⟩) (pl_recv hK hP (ci := 7) rfl hmo hFo)) rfl rfl hl.1 rfl (lv_room (Nat.le_of_ble_eq_true rfl)) dX8_at_2 ⟨Nat.le_of_ble_eq_true rfl, Nat.le_of_ble_eq_true rfl⟩) (fun r2 hr2 => ?_)
      subst hr2
      refine W.eq (g2 := F0 m 5 ls [.ref (qa 4 j_rk)]) rfl ?_
      refine lv_astore_n (lv' := [(3, .ref (qa 4 j_rk)), (0, .ref o), (1, .int (nI j_rk)), (2, .int i)]) hx hb dX8_at_5 rfl hl (by decide) rfl (fun ls hl => ?_)
      refine lv_aload_n hx hb dX8_at_6 rfl (lv_at hl 0 rfl) ?_
      refine lv_ifnonnull (tgt := 14) hx hb dX8_at_7 (by decide) ?_
      refine lv_aload_n hx hb dX8_at_14 rfl (lv_at hl 0 rfl) ?_
      refine lv_iload_n hx hb dX8_at_15 rfl (lv_at hl 3 rfl) ?_
      refine vp_callSi (cr_of (va_runU (As := [.int i]) (rest := []) ⟨hx, hb, hml, hown, hts⟩ (c_lackAt_rack l G cy L F (qa 4 j_rk) (Kr.1 j_rk) (qa 5 j_rk) (Kr.2.1 j_rk) hmk_rk hFk_rk i) (va_cwU 1 hts gX8_at_X5_lackAt_u244X6 rfl rfl rfl rfl (by decide +kernel) ⟨Nat.le_of_ble_eq_true rfl, Nat.le_of_ble_eq_true rfl⟩) (preV_of okP (⟨hP, hK, hD.top⟩) (pl_recv hK hP (ci := 5) rfl hmk_rk hFk_rk)) rfl rfl hl.1 rfl (lv_room (Nat.le_of_ble_eq_true rfl)) dX8_at_16 ⟨Nat.le_of_ble_eq_true rfl, Nat.le_of_ble_eq_true rfl⟩)) (fun r3 hr3 => ?_)
      rw [hk_i] at hr3
      subst hr3
      refine lv_istore (lv' := [(4, .int 1), (3, .ref (qa 4 j_rk)), (0, .ref o), (1, .int (nI j_rk)), (2, .int i)]) hx hb dX8_at_19 hl (by decide) rfl (fun ls hl => ?_)
      refine lv_iload hx hb dX8_at_21 (lv_at hl 0 rfl) ?_
      refine lv_if_eq (tgt := 33) hx hb dX8_at_23 (by decide) (fun c4 => absurd c4 (by decide)) (fun c4 => ?_)
      refine lv_aload_n hx hb dX8_at_26 rfl (lv_at hl 2 rfl) ?_
      refine lv_iload hx hb dX8_at_27 (lv_at hl 0 rfl) ?_
      refine va_calli (va_runV (As := [.int 1]) (rest := []) ⟨hx, hb, hml, hown, hts⟩ (c_fail_1 l G cy L F s.heap.size o qa Mm Dd Sl Pp Kr Bk Xx hR) (cwV 1 hts gX8_at_X8_fail rfl rfl rfl (by decide +kernel) ⟨Nat.le_of_ble_eq_true rfl, Nat.le_of_ble_eq_true rfl⟩) (preV_of okQ (⟨rfl, hP, hK, hD.top⟩) (pl_recv hK hP (ci := 7) rfl hmo hFo)) rfl rfl hl.1 rfl (lv_room (Nat.le_of_ble_eq_true rfl)) dX8_at_29 ⟨Nat.le_of_ble_eq_true rfl, Nat.le_of_ble_eq_true rfl⟩) hS (fun q _ h => pl_free hD hS hA q h) (pl_free hD hS hA) (fun r6 F5 t H1 locs ht hvm hw hP1 hz1 hk1 hS => ?_)
      have hP1 : va_P G vwCl (va_pl L F5) t.heap := hP1
      rw [ht] at hP1
      have hP := hP1
      generalize H1 = H at hP hS ⊢
      obtain ⟨hqr6, hR7⟩ := hw
      exact W.iret (v := r6) hx hb hr (fun t ht hW => ⟨⟨r6, F5, rfl, (by have hsp : sp_at Kr Xx (nI j_rk) i = (-10 - 1, failX Xx 1) := (by unfold sp_at; rw [hi_rk]; exact (if_neg hp0_i).trans (by rw [hp_i]; rfl)); rw [hsp]; exact ⟨hqr6, hR7⟩), (by show va_P _ _ _ t.heap; rw [ht]; exact hP)⟩, hS.F ht⟩) hS.2.2 dX8_at_32
    · have hp0_i : ¬ pl0 (Kr.1 j_rk) i = 0 := by rw [hp_i]; decide
      refine lv_aload_n hx hb dX8_at_0 rfl (lv_at hl 0 rfl) ?_
      refine lv_iload_n hx hb dX8_at_1 rfl (lv_at hl 1 rfl) ?_
      refine va_csq (W.runV (As := [.int (nI j_rk)]) (rest := []) ⟨hx, hb, hml, hown, hts⟩ (c_rackOf l G cy L F o qa Mm Dd Sl Pp Kr Bk Xx hR j_rk hj_rk) (cwV 1 hts gX8_at_X8_rackOf rfl rfl rfl (by decide +kernel) ⟨Nat.le_of_ble_eq_true rfl, Nat.le_of_ble_eq_true rfl⟩) (preV_of okP (⟨hP, hK, hD.top⟩) (pl_recv hK hP (ci := 7) rfl hmo hFo)) rfl rfl hl.1 rfl (lv_room (Nat.le_of_ble_eq_true rfl)) dX8_at_2 ⟨Nat.le_of_ble_eq_true rfl, Nat.le_of_ble_eq_true rfl⟩) (fun r8 hr8 => ?_)
      subst hr8
      refine W.eq (g2 := F0 m 5 ls [.ref (qa 4 j_rk)]) rfl ?_
      refine lv_astore_n (lv' := [(3, .ref (qa 4 j_rk)), (0, .ref o), (1, .int (nI j_rk)), (2, .int i)]) hx hb dX8_at_5 rfl hl (by decide) rfl (fun ls hl => ?_)
      refine lv_aload_n hx hb dX8_at_6 rfl (lv_at hl 0 rfl) ?_
      refine lv_ifnonnull (tgt := 14) hx hb dX8_at_7 (by decide) ?_
      refine lv_aload_n hx hb dX8_at_14 rfl (lv_at hl 0 rfl) ?_
      refine lv_iload_n hx hb dX8_at_15 rfl (lv_at hl 3 rfl) ?_
      refine vp_callSi (cr_of (va_runU (As := [.int i]) (rest := []) ⟨hx, hb, hml, hown, hts⟩ (c_lackAt_rack l G cy L F (qa 4 j_rk) (Kr.1 j_rk) (qa 5 j_rk) (Kr.2.1 j_rk) hmk_rk hFk_rk i) (va_cwU 1 hts gX8_at_X5_lackAt_u244X6 rfl rfl rfl rfl (by decide +kernel) ⟨Nat.le_of_ble_eq_true rfl, Nat.le_of_ble_eq_true rfl⟩) (preV_of okP (⟨hP, hK, hD.top⟩) (pl_recv hK hP (ci := 5) rfl hmk_rk hFk_rk)) rfl rfl hl.1 rfl (lv_room (Nat.le_of_ble_eq_true rfl)) dX8_at_16 ⟨Nat.le_of_ble_eq_true rfl, Nat.le_of_ble_eq_true rfl⟩)) (fun r9 hr9 => ?_)
      rw [hk_i] at hr9
      subst hr9
      refine lv_istore (lv' := [(4, .int 2), (3, .ref (qa 4 j_rk)), (0, .ref o), (1, .int (nI j_rk)), (2, .int i)]) hx hb dX8_at_19 hl (by decide) rfl (fun ls hl => ?_)
      refine lv_iload hx hb dX8_at_21 (lv_at hl 0 rfl) ?_
      refine lv_if_eq (tgt := 33) hx hb dX8_at_23 (by decide) (fun c10 => absurd c10 (by decide)) (fun c10 => ?_)
      refine lv_aload_n hx hb dX8_at_26 rfl (lv_at hl 2 rfl) ?_
      refine lv_iload hx hb dX8_at_27 (lv_at hl 0 rfl) ?_
      refine va_calli (va_runV (As := [.int 2]) (rest := []) ⟨hx, hb, hml, hown, hts⟩ (c_fail_2 l G cy L F s.heap.size o qa Mm Dd Sl Pp Kr Bk Xx hR) (cwV 1 hts gX8_at_X8_fail rfl rfl rfl (by decide +kernel) ⟨Nat.le_of_ble_eq_true rfl, Nat.le_of_ble_eq_true rfl⟩) (preV_of okQ (⟨rfl, hP, hK, hD.top⟩) (pl_recv hK hP (ci := 7) rfl hmo hFo)) rfl rfl hl.1 rfl (lv_room (Nat.le_of_ble_eq_true rfl)) dX8_at_29 ⟨Nat.le_of_ble_eq_true rfl, Nat.le_of_ble_eq_true rfl⟩) hS (fun q _ h => pl_free hD hS hA q h) (pl_free hD hS hA) (fun r12 F11 t H1 locs ht hvm hw hP1 hz1 hk1 hS => ?_)
      have hP1 : va_P G vwCl (va_pl L F11) t.heap := hP1
      rw [ht] at hP1
      have hP := hP1
      generalize H1 = H at hP hS ⊢
      obtain ⟨hqr12, hR13⟩ := hw
      exact W.iret (v := r12) hx hb hr (fun t ht hW => ⟨⟨r12, F11, rfl, (by have hsp : sp_at Kr Xx (nI j_rk) i = (-10 - 2, failX Xx 2) := (by unfold sp_at; rw [hi_rk]; exact (if_neg hp0_i).trans (by rw [hp_i]; rfl)); rw [hsp]; exact ⟨hqr12, hR13⟩), (by show va_P _ _ _ t.heap; rw [ht]; exact hP)⟩, hS.F ht⟩) hS.2.2 dX8_at_32
    · subst ei_i
      refine lv_aload_n hx hb dX8_at_0 rfl (lv_at hl 0 rfl) ?_
      refine lv_iload_n hx hb dX8_at_1 rfl (lv_at hl 1 rfl) ?_
      refine va_csq (W.runV (As := [.int (nI j_rk)]) (rest := []) ⟨hx, hb, hml, hown, hts⟩ (c_rackOf l G cy L F o qa Mm Dd Sl Pp Kr Bk Xx hR j_rk hj_rk) (cwV 1 hts gX8_at_X8_rackOf rfl rfl rfl (by decide +kernel) ⟨Nat.le_of_ble_eq_true rfl, Nat.le_of_ble_eq_true rfl⟩) (preV_of okP (⟨hP, hK, hD.top⟩) (pl_recv hK hP (ci := 7) rfl hmo hFo)) rfl rfl hl.1 rfl (lv_room (Nat.le_of_ble_eq_true rfl)) dX8_at_2 ⟨Nat.le_of_ble_eq_true rfl, Nat.le_of_ble_eq_true rfl⟩) (fun r14 hr14 => ?_)
      subst hr14
      refine W.eq (g2 := F0 m 5 ls [.ref (qa 4 j_rk)]) rfl ?_
      refine lv_astore_n (lv' := [(3, .ref (qa 4 j_rk)), (0, .ref o), (1, .int (nI j_rk)), (2, .int (nI q_i))]) hx hb dX8_at_5 rfl hl (by decide) rfl (fun ls hl => ?_)
      refine lv_aload_n hx hb dX8_at_6 rfl (lv_at hl 0 rfl) ?_
      refine lv_ifnonnull (tgt := 14) hx hb dX8_at_7 (by decide) ?_
      refine lv_aload_n hx hb dX8_at_14 rfl (lv_at hl 0 rfl) ?_
      refine lv_iload_n hx hb dX8_at_15 rfl (lv_at hl 3 rfl) ?_
      refine vp_callSi (cr_of (va_runU (As := [.int (nI q_i)]) (rest := []) ⟨hx, hb, hml, hown, hts⟩ (c_lackAt_rack l G cy L F (qa 4 j_rk) (Kr.1 j_rk) (qa 5 j_rk) (Kr.2.1 j_rk) hmk_rk hFk_rk (nI q_i)) (va_cwU 1 hts gX8_at_X5_lackAt_u244X6 rfl rfl rfl rfl (by decide +kernel) ⟨Nat.le_of_ble_eq_true rfl, Nat.le_of_ble_eq_true rfl⟩) (preV_of okP (⟨hP, hK, hD.top⟩) (pl_recv hK hP (ci := 5) rfl hmk_rk hFk_rk)) rfl rfl hl.1 rfl (lv_room (Nat.le_of_ble_eq_true rfl)) dX8_at_16 ⟨Nat.le_of_ble_eq_true rfl, Nat.le_of_ble_eq_true rfl⟩)) (fun r15 hr15 => ?_)
      rw [hk_i] at hr15
      subst hr15
      refine lv_istore (lv' := [(4, .int 0), (3, .ref (qa 4 j_rk)), (0, .ref o), (1, .int (nI j_rk)), (2, .int (nI q_i))]) hx hb dX8_at_19 hl (by decide) rfl (fun ls hl => ?_)
      refine lv_iload hx hb dX8_at_21 (lv_at hl 0 rfl) ?_
      refine lv_if_eq (tgt := 33) hx hb dX8_at_23 (by decide) (fun c16 => ?_) (fun c16 => absurd (by decide) c16)
      refine lv_aload_n hx hb dX8_at_33 rfl (lv_at hl 1 rfl) ?_
      refine pg_get (ci := 5) (C := RX6) (T := TX6) (N := 3) hx hb hts hinX6 hown hK hP hmk_rk hFk_rk rfl 1 (by decide) (hts (.fieldLink RX8 248 "RopeDrums$Rack" "row" "[LRopeDrums$Spool;") (by decide +kernel)) (fun _ h9 => h9) rfl dX8_at_34 ?_
      refine lv_iload_n hx hb dX8_at_37 rfl (lv_at hl 4 rfl) ?_
      refine pg_aldq hx hb hK hP 9 hmr_rk hFr_rk rfl (vp_in_nI hq_i (by decide)) dX8_at_38 ?_
      rw [show f_rk (nI q_i).toNatClampNeg = f_rk q_i from by rw [nI_clamp (by omega)]]
      rcases hokk_rk q_i hs_i with ⟨hx0, hr0⟩ | ⟨ks, hks, hx0, hr0⟩
      · rw [hr0]
        refine W.eq (g2 := F0 m 39 ls [.null]) rfl ?_
        refine lv_astoreN (lv' := [(5, .null), (4, .int 0), (3, .ref (qa 4 j_rk)), (0, .ref o), (1, .int (nI j_rk)), (2, .int (nI q_i))]) hx hb dX8_at_39 hl (by decide) rfl (fun ls hl => ?_)
        refine lv_aload_n hx hb dX8_at_41 rfl (lv_at hl 3 rfl) ?_
        refine lv_aloadN hx hb dX8_at_42 (lv_at hl 0 rfl) ?_
        refine lv_ifnonnullN hx hb dX8_at_44 ?_
        refine lv_iconst (v := -1) hx hb dX8_at_47 (by decide) ?_
        refine lv_goto (tgt := 56) hx hb dX8_at_48 (by decide) ?_
        refine va_calli (va_runV (As := [.int (-1)]) (rest := []) ⟨hx, hb, hml, hown, hts⟩ (c_succeed l G cy L F s.heap.size o qa Mm Dd Sl Pp Kr Bk Xx hR (-1)) (cwV 1 hts gX8_at_X8_succeed rfl rfl rfl (by decide +kernel) ⟨Nat.le_of_ble_eq_true rfl, Nat.le_of_ble_eq_true rfl⟩) (preV_of okQ (⟨rfl, hP, hK, hD.top⟩) (pl_recv hK hP (ci := 7) rfl hmo hFo)) rfl rfl hl.1 rfl (lv_room (Nat.le_of_ble_eq_true rfl)) dX8_at_56 ⟨Nat.le_of_ble_eq_true rfl, Nat.le_of_ble_eq_true rfl⟩) hS (fun q _ h => pl_free hD hS hA q h) (pl_free hD hS hA) (fun r18 F17 t H1 locs ht hvm hw hP1 hz1 hk1 hS => ?_)
        have hP1 : va_P G vwCl (va_pl L F17) t.heap := hP1
        rw [ht] at hP1
        have hP := hP1
        generalize H1 = H at hP hS ⊢
        obtain ⟨hqr18, hR19⟩ := hw
        exact W.iret (v := r18) hx hb hr (fun t ht hW => ⟨⟨r18, F17, rfl, (by have hsp : sp_at Kr Xx (nI j_rk) (nI q_i) = (-1, goodX Xx) := (by unfold sp_at; rw [hi_rk]; exact (if_pos hp_i).trans (by rw [nI_tn (by omega), hx0])); rw [hsp]; exact ⟨hqr18, hR19⟩), (by show va_P _ _ _ t.heap; rw [ht]; exact hP)⟩, hS.F ht⟩) hS.2.2 dX8_at_59
      · rw [hr0]
        refine W.eq (g2 := F0 m 39 ls [.ref (qa 7 ks)]) rfl ?_
        have hp30 := hRP.1
        obtain ⟨hmsp, hFsp, hreel, -⟩ := hRP.2 ks hks
        refine lv_astore (lv' := [(5, .ref (qa 7 ks)), (4, .int 0), (3, .ref (qa 4 j_rk)), (0, .ref o), (1, .int (nI j_rk)), (2, .int (nI q_i))]) hx hb dX8_at_39 hl (by decide) rfl (fun ls hl => ?_)
        refine lv_aload_n hx hb dX8_at_41 rfl (lv_at hl 3 rfl) ?_
        refine lv_aload hx hb dX8_at_42 (lv_at hl 0 rfl) ?_
        refine lv_ifnonnull (tgt := 51) hx hb dX8_at_44 (by decide) ?_
        refine lv_aload hx hb dX8_at_51 (lv_at hl 0 rfl) ?_
        refine pg_get (ci := 6) (C := RX7) (T := TX7) (N := 3) hx hb hts hinX7 hown hK hP hmsp hFsp rfl 0 (by decide) (hts (.fieldLink RX8 250 "RopeDrums$Spool" "number" "I") (by decide +kernel)) (fun _ h9 => h9) rfl dX8_at_53 ?_
        refine va_calli (va_runV (As := [.int (nI ks)]) (rest := []) ⟨hx, hb, hml, hown, hts⟩ (c_succeed l G cy L F s.heap.size o qa Mm Dd Sl Pp Kr Bk Xx hR (nI ks)) (cwV 1 hts gX8_at_X8_succeed rfl rfl rfl (by decide +kernel) ⟨Nat.le_of_ble_eq_true rfl, Nat.le_of_ble_eq_true rfl⟩) (preV_of okQ (⟨rfl, hP, hK, hD.top⟩) (pl_recv hK hP (ci := 7) rfl hmo hFo)) rfl rfl hl.1 rfl (lv_room (Nat.le_of_ble_eq_true rfl)) dX8_at_56 ⟨Nat.le_of_ble_eq_true rfl, Nat.le_of_ble_eq_true rfl⟩) hS (fun q _ h => pl_free hD hS hA q h) (pl_free hD hS hA) (fun r21 F20 t H1 locs ht hvm hw hP1 hz1 hk1 hS => ?_)
        have hP1 : va_P G vwCl (va_pl L F20) t.heap := hP1
        rw [ht] at hP1
        have hP := hP1
        generalize H1 = H at hP hS ⊢
        obtain ⟨hqr21, hR22⟩ := hw
        exact W.iret (v := r21) hx hb hr (fun t ht hW => ⟨⟨r21, F20, rfl, (by have hsp : sp_at Kr Xx (nI j_rk) (nI q_i) = (nI ks, goodX Xx) := (by unfold sp_at; rw [hi_rk]; exact (if_pos hp_i).trans (by rw [nI_tn (by omega), hx0])); rw [hsp]; exact ⟨hqr21, hR22⟩), (by show va_P _ _ _ t.heap; rw [ht]; exact hP)⟩, hS.F ht⟩) hS.2.2 dX8_at_59

set_option maxHeartbeats 8000000 in
set_option maxRecDepth 100000 in
theorem m_weight (l : Launch) (G : va_G) (cy : Nat → ClassId) (L : List Nat) (F : Nat → va_E) (ad : Nat → Nat) (sz : Nat) (o : Nat) (qa : Nat → Nat → Nat) (Mm : SM) (Dd : SD) (Sl : SL) (Pp : SP) (Kr : SR) (Bk : SB) (Xx : SX) (hR : Rep cy L o qa Mm Dd Sl Pp Kr Bk Xx F) (rk i re : Int32)  : Met l yX8_weight wsX8_weight ({ frames := 1, cells := 0, slots := 0, locals := 21 }) (va_Pc [.ref o, .int rk, .int i, .int re] (fun U => bQE G cy L F ad sz U U.heap)) (va_Qi (fun (r : Int32) (F' : Nat → va_E) => r = (sp_weight Pp Kr Xx rk i re).1 ∧ Rep cy L o qa Mm Dd Sl Pp Kr Bk (sp_weight Pp Kr Xx rk i re).2 F') (fun F' t => va_P G vwCl (va_pl L F') t.heap) (va_A (va_pl L F) sz)) 0 0 (va_A (va_pl L F) sz) := by
  refine Met.ofW (cc := cX8_weight) (maxL := 7) (ret := (some .int)) (by decide) rfl ?_
  intro p e s m args below meth c s₁ B hml hv
  obtain ⟨rfl, ⟨hsz, hP, hK, hD0⟩, hE, hN⟩ := hv
  have hx := B.exec
  have hb := B.bytes
  have hr := B.returns
  have hts := atoms_spec (ws := wsX8_weight) B.pre
  have hown : s.vm.findClass RX8 = some m.cls := findClass_of_methodNamed B.named
  have hlocks := B.notSynchronized
  have hinX8 : ∀ w ∈ wsX80, w ∈ wsX8_weight := by decide +kernel
  have hinX6 : ∀ w ∈ wsX60, w ∈ wsX8_weight := by decide +kernel
  have hinX7 : ∀ w ∈ wsX70, w ∈ wsX8_weight := by decide +kernel
  subst hsz
  have hD := hD0.self F s.heap.size
  generalize hAe : va_A (va_pl L F) s.heap.size = A at hD hE ⊢
  have hA : ∀ q : Nat, s.heap.size ≤ q → A q := fun q h => by rw [← hAe]; exact Or.inr h
  have hS : va_S A s.heap s.heap [] := va_S.rf
  obtain ⟨⟨⟨hmo, hFo⟩, ⟨hmf, hFf⟩, hms, hFs⟩, ⟨⟨hm0, hF0⟩, ⟨hm1, hF1⟩, ⟨hm2, hF2⟩, ⟨hm4, hF4⟩, hm5, hF5⟩, hRM, hRD, hRG, hRP, hRR, hRB, hRI⟩ := id hR
  have hl := lv_entry ([.ref o, .int rk, .int i, .int re]) (n := 7) (Nat.le_of_ble_eq_true rfl)
  rw [lg_entry_eq]
  generalize (lg_sl ([.ref o, .int rk, .int i, .int re]) ++ List.replicate (7 - (lg_sl ([.ref o, .int rk, .int i, .int re])).length) Slot.unset).toArray = ls at hl ⊢
  have hl : lv_has ls 7 [(0, .ref o), (1, .int rk), (2, .int i), (3, .int re)] := hl
  rcases ixc 5 rk with hi_rk | ⟨j_rk, hj_rk, hi_rk, ei_rk⟩
  · refine lv_aload_n hx hb dX8_weight_0 rfl (lv_at hl 0 rfl) ?_
    refine lv_iload_n hx hb dX8_weight_1 rfl (lv_at hl 1 rfl) ?_
    refine va_csq (W.runV (As := [.int rk]) (rest := []) ⟨hx, hb, hml, hown, hts⟩ (c_rackOf_no l G cy L F o qa Mm Dd Sl Pp Kr Bk Xx hR rk hi_rk) (cwV 1 hts gX8_weight_X8_rackOf rfl rfl rfl (by decide +kernel) ⟨Nat.le_of_ble_eq_true rfl, Nat.le_of_ble_eq_true rfl⟩) (preV_of okP (⟨hP, hK, hD.top⟩) (pl_recv hK hP (ci := 7) rfl hmo hFo)) rfl rfl hl.1 rfl (lv_room (Nat.le_of_ble_eq_true rfl)) dX8_weight_2 ⟨Nat.le_of_ble_eq_true rfl, Nat.le_of_ble_eq_true rfl⟩) (fun r1 hr1 => ?_)
    subst hr1
    refine W.eq (g2 := F0 m 5 ls [.null]) rfl ?_
    refine lv_astoreN (lv' := [(4, .null), (0, .ref o), (1, .int rk), (2, .int i), (3, .int re)]) hx hb dX8_weight_5 hl (by decide) rfl (fun ls hl => ?_)
    refine lv_aloadN hx hb dX8_weight_7 (lv_at hl 0 rfl) ?_
    refine lv_ifnonnullN hx hb dX8_weight_9 ?_
    refine lv_sipush (v := -1001) hx hb dX8_weight_12 (by decide) ?_
    exact W.iret (v := -1001) hx hb hr (fun t ht hW => ⟨⟨-1001, F, rfl, (by have hsp : sp_weight Pp Kr Xx rk i re = (-1001, Xx) := (by unfold sp_weight; rw [hi_rk]); rw [hsp]; exact ⟨rfl, hR⟩), (by show va_P _ _ _ t.heap; rw [ht]; exact hP)⟩, hS.F ht⟩) hS.2.2 dX8_weight_15
  · subst ei_rk
    obtain ⟨hmk_rk, hmr_rk, hFk_rk, hal_rk, hsz_rk, f_rk, hFr_rk, hokk_rk⟩ := hRR j_rk hj_rk
    rcases lackc (i := i) (by decide) hsz_rk with ⟨hp_i, hk_i⟩ | ⟨hp_i, hk_i⟩ | ⟨q_i, hq_i, hs_i, hp_i, hk_i, ei_i⟩
    · have hp0_i : ¬ pl0 (Kr.1 j_rk) i = 0 := by rw [hp_i]; decide
      refine lv_aload_n hx hb dX8_weight_0 rfl (lv_at hl 0 rfl) ?_
      refine lv_iload_n hx hb dX8_weight_1 rfl (lv_at hl 1 rfl) ?_
      refine va_csq (W.runV (As := [.int (nI j_rk)]) (rest := []) ⟨hx, hb, hml, hown, hts⟩ (c_rackOf l G cy L F o qa Mm Dd Sl Pp Kr Bk Xx hR j_rk hj_rk) (cwV 1 hts gX8_weight_X8_rackOf rfl rfl rfl (by decide +kernel) ⟨Nat.le_of_ble_eq_true rfl, Nat.le_of_ble_eq_true rfl⟩) (preV_of okP (⟨hP, hK, hD.top⟩) (pl_recv hK hP (ci := 7) rfl hmo hFo)) rfl rfl hl.1 rfl (lv_room (Nat.le_of_ble_eq_true rfl)) dX8_weight_2 ⟨Nat.le_of_ble_eq_true rfl, Nat.le_of_ble_eq_true rfl⟩) (fun r2 hr2 => ?_)
      subst hr2
      refine W.eq (g2 := F0 m 5 ls [.ref (qa 4 j_rk)]) rfl ?_
      refine lv_astore (lv' := [(4, .ref (qa 4 j_rk)), (0, .ref o), (1, .int (nI j_rk)), (2, .int i), (3, .int re)]) hx hb dX8_weight_5 hl (by decide) rfl (fun ls hl => ?_)
      refine lv_aload hx hb dX8_weight_7 (lv_at hl 0 rfl) ?_
      refine lv_ifnonnull (tgt := 16) hx hb dX8_weight_9 (by decide) ?_
      refine lv_aload hx hb dX8_weight_16 (lv_at hl 0 rfl) ?_
      refine lv_iload_n hx hb dX8_weight_18 rfl (lv_at hl 3 rfl) ?_
      refine vp_callSi (cr_of (va_runU (As := [.int i]) (rest := []) ⟨hx, hb, hml, hown, hts⟩ (c_lackAt_rack l G cy L F (qa 4 j_rk) (Kr.1 j_rk) (qa 5 j_rk) (Kr.2.1 j_rk) hmk_rk hFk_rk i) (va_cwU 1 hts gX8_weight_X5_lackAt_u244X6 rfl rfl rfl rfl (by decide +kernel) ⟨Nat.le_of_ble_eq_true rfl, Nat.le_of_ble_eq_true rfl⟩) (preV_of okP (⟨hP, hK, hD.top⟩) (pl_recv hK hP (ci := 5) rfl hmk_rk hFk_rk)) rfl rfl hl.1 rfl (lv_room (Nat.le_of_ble_eq_true rfl)) dX8_weight_19 ⟨Nat.le_of_ble_eq_true rfl, Nat.le_of_ble_eq_true rfl⟩)) (fun r3 hr3 => ?_)
      rw [hk_i] at hr3
      subst hr3
      refine lv_istore (lv' := [(5, .int 1), (4, .ref (qa 4 j_rk)), (0, .ref o), (1, .int (nI j_rk)), (2, .int i), (3, .int re)]) hx hb dX8_weight_22 hl (by decide) rfl (fun ls hl => ?_)
      refine lv_iload hx hb dX8_weight_24 (lv_at hl 0 rfl) ?_
      refine lv_if_eq (tgt := 36) hx hb dX8_weight_26 (by decide) (fun c4 => absurd c4 (by decide)) (fun c4 => ?_)
      refine lv_aload_n hx hb dX8_weight_29 rfl (lv_at hl 2 rfl) ?_
      refine lv_iload hx hb dX8_weight_30 (lv_at hl 0 rfl) ?_
      refine va_calli (va_runV (As := [.int 1]) (rest := []) ⟨hx, hb, hml, hown, hts⟩ (c_fail_1 l G cy L F s.heap.size o qa Mm Dd Sl Pp Kr Bk Xx hR) (cwV 1 hts gX8_weight_X8_fail rfl rfl rfl (by decide +kernel) ⟨Nat.le_of_ble_eq_true rfl, Nat.le_of_ble_eq_true rfl⟩) (preV_of okQ (⟨rfl, hP, hK, hD.top⟩) (pl_recv hK hP (ci := 7) rfl hmo hFo)) rfl rfl hl.1 rfl (lv_room (Nat.le_of_ble_eq_true rfl)) dX8_weight_32 ⟨Nat.le_of_ble_eq_true rfl, Nat.le_of_ble_eq_true rfl⟩) hS (fun q _ h => pl_free hD hS hA q h) (pl_free hD hS hA) (fun r6 F5 t H1 locs ht hvm hw hP1 hz1 hk1 hS => ?_)
      have hP1 : va_P G vwCl (va_pl L F5) t.heap := hP1
      rw [ht] at hP1
      have hP := hP1
      generalize H1 = H at hP hS ⊢
      obtain ⟨hqr6, hR7⟩ := hw
      exact W.iret (v := r6) hx hb hr (fun t ht hW => ⟨⟨r6, F5, rfl, (by have hsp : sp_weight Pp Kr Xx (nI j_rk) i re = (-10 - 1, failX Xx 1) := (by unfold sp_weight; rw [hi_rk]; exact (if_neg hp0_i).trans (by rw [hp_i]; rfl)); rw [hsp]; exact ⟨hqr6, hR7⟩), (by show va_P _ _ _ t.heap; rw [ht]; exact hP)⟩, hS.F ht⟩) hS.2.2 dX8_weight_35
    · have hp0_i : ¬ pl0 (Kr.1 j_rk) i = 0 := by rw [hp_i]; decide
      refine lv_aload_n hx hb dX8_weight_0 rfl (lv_at hl 0 rfl) ?_
      refine lv_iload_n hx hb dX8_weight_1 rfl (lv_at hl 1 rfl) ?_
      refine va_csq (W.runV (As := [.int (nI j_rk)]) (rest := []) ⟨hx, hb, hml, hown, hts⟩ (c_rackOf l G cy L F o qa Mm Dd Sl Pp Kr Bk Xx hR j_rk hj_rk) (cwV 1 hts gX8_weight_X8_rackOf rfl rfl rfl (by decide +kernel) ⟨Nat.le_of_ble_eq_true rfl, Nat.le_of_ble_eq_true rfl⟩) (preV_of okP (⟨hP, hK, hD.top⟩) (pl_recv hK hP (ci := 7) rfl hmo hFo)) rfl rfl hl.1 rfl (lv_room (Nat.le_of_ble_eq_true rfl)) dX8_weight_2 ⟨Nat.le_of_ble_eq_true rfl, Nat.le_of_ble_eq_true rfl⟩) (fun r8 hr8 => ?_)
      subst hr8
      refine W.eq (g2 := F0 m 5 ls [.ref (qa 4 j_rk)]) rfl ?_
      refine lv_astore (lv' := [(4, .ref (qa 4 j_rk)), (0, .ref o), (1, .int (nI j_rk)), (2, .int i), (3, .int re)]) hx hb dX8_weight_5 hl (by decide) rfl (fun ls hl => ?_)
      refine lv_aload hx hb dX8_weight_7 (lv_at hl 0 rfl) ?_
      refine lv_ifnonnull (tgt := 16) hx hb dX8_weight_9 (by decide) ?_
      refine lv_aload hx hb dX8_weight_16 (lv_at hl 0 rfl) ?_
      refine lv_iload_n hx hb dX8_weight_18 rfl (lv_at hl 3 rfl) ?_
      refine vp_callSi (cr_of (va_runU (As := [.int i]) (rest := []) ⟨hx, hb, hml, hown, hts⟩ (c_lackAt_rack l G cy L F (qa 4 j_rk) (Kr.1 j_rk) (qa 5 j_rk) (Kr.2.1 j_rk) hmk_rk hFk_rk i) (va_cwU 1 hts gX8_weight_X5_lackAt_u244X6 rfl rfl rfl rfl (by decide +kernel) ⟨Nat.le_of_ble_eq_true rfl, Nat.le_of_ble_eq_true rfl⟩) (preV_of okP (⟨hP, hK, hD.top⟩) (pl_recv hK hP (ci := 5) rfl hmk_rk hFk_rk)) rfl rfl hl.1 rfl (lv_room (Nat.le_of_ble_eq_true rfl)) dX8_weight_19 ⟨Nat.le_of_ble_eq_true rfl, Nat.le_of_ble_eq_true rfl⟩)) (fun r9 hr9 => ?_)
      rw [hk_i] at hr9
      subst hr9
      refine lv_istore (lv' := [(5, .int 2), (4, .ref (qa 4 j_rk)), (0, .ref o), (1, .int (nI j_rk)), (2, .int i), (3, .int re)]) hx hb dX8_weight_22 hl (by decide) rfl (fun ls hl => ?_)
      refine lv_iload hx hb dX8_weight_24 (lv_at hl 0 rfl) ?_
      refine lv_if_eq (tgt := 36) hx hb dX8_weight_26 (by decide) (fun c10 => absurd c10 (by decide)) (fun c10 => ?_)
      refine lv_aload_n hx hb dX8_weight_29 rfl (lv_at hl 2 rfl) ?_
      refine lv_iload hx hb dX8_weight_30 (lv_at hl 0 rfl) ?_
      refine va_calli (va_runV (As := [.int 2]) (rest := []) ⟨hx, hb, hml, hown, hts⟩ (c_fail_2 l G cy L F s.heap.size o qa Mm Dd Sl Pp Kr Bk Xx hR) (cwV 1 hts gX8_weight_X8_fail rfl rfl rfl (by decide +kernel) ⟨Nat.le_of_ble_eq_true rfl, Nat.le_of_ble_eq_true rfl⟩) (preV_of okQ (⟨rfl, hP, hK, hD.top⟩) (pl_recv hK hP (ci := 7) rfl hmo hFo)) rfl rfl hl.1 rfl (lv_room (Nat.le_of_ble_eq_true rfl)) dX8_weight_32 ⟨Nat.le_of_ble_eq_true rfl, Nat.le_of_ble_eq_true rfl⟩) hS (fun q _ h => pl_free hD hS hA q h) (pl_free hD hS hA) (fun r12 F11 t H1 locs ht hvm hw hP1 hz1 hk1 hS => ?_)
      have hP1 : va_P G vwCl (va_pl L F11) t.heap := hP1
      rw [ht] at hP1
      have hP := hP1
      generalize H1 = H at hP hS ⊢
      obtain ⟨hqr12, hR13⟩ := hw
      exact W.iret (v := r12) hx hb hr (fun t ht hW => ⟨⟨r12, F11, rfl, (by have hsp : sp_weight Pp Kr Xx (nI j_rk) i re = (-10 - 2, failX Xx 2) := (by unfold sp_weight; rw [hi_rk]; exact (if_neg hp0_i).trans (by rw [hp_i]; rfl)); rw [hsp]; exact ⟨hqr12, hR13⟩), (by show va_P _ _ _ t.heap; rw [ht]; exact hP)⟩, hS.F ht⟩) hS.2.2 dX8_weight_35
    · subst ei_i
      refine lv_aload_n hx hb dX8_weight_0 rfl (lv_at hl 0 rfl) ?_
      refine lv_iload_n hx hb dX8_weight_1 rfl (lv_at hl 1 rfl) ?_
      refine va_csq (W.runV (As := [.int (nI j_rk)]) (rest := []) ⟨hx, hb, hml, hown, hts⟩ (c_rackOf l G cy L F o qa Mm Dd Sl Pp Kr Bk Xx hR j_rk hj_rk) (cwV 1 hts gX8_weight_X8_rackOf rfl rfl rfl (by decide +kernel) ⟨Nat.le_of_ble_eq_true rfl, Nat.le_of_ble_eq_true rfl⟩) (preV_of okP (⟨hP, hK, hD.top⟩) (pl_recv hK hP (ci := 7) rfl hmo hFo)) rfl rfl hl.1 rfl (lv_room (Nat.le_of_ble_eq_true rfl)) dX8_weight_2 ⟨Nat.le_of_ble_eq_true rfl, Nat.le_of_ble_eq_true rfl⟩) (fun r14 hr14 => ?_)
      subst hr14
      refine W.eq (g2 := F0 m 5 ls [.ref (qa 4 j_rk)]) rfl ?_
      refine lv_astore (lv' := [(4, .ref (qa 4 j_rk)), (0, .ref o), (1, .int (nI j_rk)), (2, .int (nI q_i)), (3, .int re)]) hx hb dX8_weight_5 hl (by decide) rfl (fun ls hl => ?_)
      refine lv_aload hx hb dX8_weight_7 (lv_at hl 0 rfl) ?_
      refine lv_ifnonnull (tgt := 16) hx hb dX8_weight_9 (by decide) ?_
      refine lv_aload hx hb dX8_weight_16 (lv_at hl 0 rfl) ?_
      refine lv_iload_n hx hb dX8_weight_18 rfl (lv_at hl 3 rfl) ?_
      refine vp_callSi (cr_of (va_runU (As := [.int (nI q_i)]) (rest := []) ⟨hx, hb, hml, hown, hts⟩ (c_lackAt_rack l G cy L F (qa 4 j_rk) (Kr.1 j_rk) (qa 5 j_rk) (Kr.2.1 j_rk) hmk_rk hFk_rk (nI q_i)) (va_cwU 1 hts gX8_weight_X5_lackAt_u244X6 rfl rfl rfl rfl (by decide +kernel) ⟨Nat.le_of_ble_eq_true rfl, Nat.le_of_ble_eq_true rfl⟩) (preV_of okP (⟨hP, hK, hD.top⟩) (pl_recv hK hP (ci := 5) rfl hmk_rk hFk_rk)) rfl rfl hl.1 rfl (lv_room (Nat.le_of_ble_eq_true rfl)) dX8_weight_19 ⟨Nat.le_of_ble_eq_true rfl, Nat.le_of_ble_eq_true rfl⟩)) (fun r15 hr15 => ?_)
      rw [hk_i] at hr15
      subst hr15
      refine lv_istore (lv' := [(5, .int 0), (4, .ref (qa 4 j_rk)), (0, .ref o), (1, .int (nI j_rk)), (2, .int (nI q_i)), (3, .int re)]) hx hb dX8_weight_22 hl (by decide) rfl (fun ls hl => ?_)
      refine lv_iload hx hb dX8_weight_24 (lv_at hl 0 rfl) ?_
      refine lv_if_eq (tgt := 36) hx hb dX8_weight_26 (by decide) (fun c16 => ?_) (fun c16 => absurd (by decide) c16)
      refine lv_aload hx hb dX8_weight_36 (lv_at hl 1 rfl) ?_
      refine pg_get (ci := 5) (C := RX6) (T := TX6) (N := 3) hx hb hts hinX6 hown hK hP hmk_rk hFk_rk rfl 1 (by decide) (hts (.fieldLink RX8 248 "RopeDrums$Rack" "row" "[LRopeDrums$Spool;") (by decide +kernel)) (fun _ h9 => h9) rfl dX8_weight_38 ?_
      refine lv_iload_n hx hb dX8_weight_41 rfl (lv_at hl 4 rfl) ?_
      refine pg_aldq hx hb hK hP 9 hmr_rk hFr_rk rfl (vp_in_nI hq_i (by decide)) dX8_weight_42 ?_
      rw [show f_rk (nI q_i).toNatClampNeg = f_rk q_i from by rw [nI_clamp (by omega)]]
      rcases hokk_rk q_i hs_i with ⟨hx0, hr0⟩ | ⟨ks, hks, hx0, hr0⟩
      · rw [hr0]
        refine W.eq (g2 := F0 m 43 ls [.null]) rfl ?_
        refine lv_astoreN (lv' := [(6, .null), (5, .int 0), (4, .ref (qa 4 j_rk)), (0, .ref o), (1, .int (nI j_rk)), (2, .int (nI q_i)), (3, .int re)]) hx hb dX8_weight_43 hl (by decide) rfl (fun ls hl => ?_)
        refine lv_aloadN hx hb dX8_weight_45 (lv_at hl 0 rfl) ?_
        refine lv_ifnonnullN hx hb dX8_weight_47 ?_
        refine lv_aload_n hx hb dX8_weight_50 rfl (lv_at hl 3 rfl) ?_
        refine lv_iconst (v := 1) hx hb dX8_weight_51 (by decide) ?_
        refine va_calli (va_runV (As := [.int 1]) (rest := []) ⟨hx, hb, hml, hown, hts⟩ (c_fail_1 l G cy L F s.heap.size o qa Mm Dd Sl Pp Kr Bk Xx hR) (cwV 1 hts gX8_weight_X8_fail rfl rfl rfl (by decide +kernel) ⟨Nat.le_of_ble_eq_true rfl, Nat.le_of_ble_eq_true rfl⟩) (preV_of okQ (⟨rfl, hP, hK, hD.top⟩) (pl_recv hK hP (ci := 7) rfl hmo hFo)) rfl rfl hl.1 rfl (lv_room (Nat.le_of_ble_eq_true rfl)) dX8_weight_52 ⟨Nat.le_of_ble_eq_true rfl, Nat.le_of_ble_eq_true rfl⟩) hS (fun q _ h => pl_free hD hS hA q h) (pl_free hD hS hA) (fun r18 F17 t H1 locs ht hvm hw hP1 hz1 hk1 hS => ?_)
        have hP1 : va_P G vwCl (va_pl L F17) t.heap := hP1
        rw [ht] at hP1
        have hP := hP1
        generalize H1 = H at hP hS ⊢
        obtain ⟨hqr18, hR19⟩ := hw
        exact W.iret (v := r18) hx hb hr (fun t ht hW => ⟨⟨r18, F17, rfl, (by have hsp : sp_weight Pp Kr Xx (nI j_rk) (nI q_i) re = (-10 - 1, failX Xx 1) := (by unfold sp_weight; rw [hi_rk]; refine (if_pos hp_i).trans ?_; rw [nI_tn (q := q_i) (by omega), hx0]; unfold wtX; exact if_pos rfl); rw [hsp]; exact ⟨hqr18, hR19⟩), (by show va_P _ _ _ t.heap; rw [ht]; exact hP)⟩, hS.F ht⟩) hS.2.2 dX8_weight_55
      · rw [hr0]
        refine W.eq (g2 := F0 m 43 ls [.ref (qa 7 ks)]) rfl ?_
        have hp30 := hRP.1
        obtain ⟨hmsp, hFsp, hreel, -⟩ := hRP.2 ks hks
        refine lv_astore (lv' := [(6, .ref (qa 7 ks)), (5, .int 0), (4, .ref (qa 4 j_rk)), (0, .ref o), (1, .int (nI j_rk)), (2, .int (nI q_i)), (3, .int re)]) hx hb dX8_weight_43 hl (by decide) rfl (fun ls hl => ?_)
        refine lv_aload hx hb dX8_weight_45 (lv_at hl 0 rfl) ?_
        refine lv_ifnonnull (tgt := 56) hx hb dX8_weight_47 (by decide) ?_
        refine lv_iload_n hx hb dX8_weight_56 rfl (lv_at hl 6 rfl) ?_
        refine lv_if_eq (tgt := 74) hx hb dX8_weight_57 (by decide) (fun c20 => ?_) (fun c20 => ?_)
        · refine lv_aload_n hx hb dX8_weight_74 rfl (lv_at hl 3 rfl) ?_
          refine lv_iload_n hx hb dX8_weight_75 rfl (lv_at hl 6 rfl) ?_
          refine lv_if_eq (tgt := 91) hx hb dX8_weight_76 (by decide) (fun c21 => ?_) (fun c21 => absurd (c20) c21)
          refine lv_aload hx hb dX8_weight_91 (lv_at hl 0 rfl) ?_
          refine pg_get (ci := 6) (C := RX7) (T := TX7) (N := 3) hx hb hts hinX7 hown hK hP hmsp hFsp rfl 1 (by decide) (hts (.fieldLink RX8 252 "RopeDrums$Spool" "weight" "I") (by decide +kernel)) (fun _ h9 => h9) rfl dX8_weight_93 ?_
          refine va_calli (va_runV (As := [.int (Pp.2.1 ks)]) (rest := []) ⟨hx, hb, hml, hown, hts⟩ (c_succeed l G cy L F s.heap.size o qa Mm Dd Sl Pp Kr Bk Xx hR (Pp.2.1 ks)) (cwV 1 hts gX8_weight_X8_succeed rfl rfl rfl (by decide +kernel) ⟨Nat.le_of_ble_eq_true rfl, Nat.le_of_ble_eq_true rfl⟩) (preV_of okQ (⟨rfl, hP, hK, hD.top⟩) (pl_recv hK hP (ci := 7) rfl hmo hFo)) rfl rfl hl.1 rfl (lv_room (Nat.le_of_ble_eq_true rfl)) dX8_weight_96 ⟨Nat.le_of_ble_eq_true rfl, Nat.le_of_ble_eq_true rfl⟩) hS (fun q _ h => pl_free hD hS hA q h) (pl_free hD hS hA) (fun r23 F22 t H1 locs ht hvm hw hP1 hz1 hk1 hS => ?_)
          have hP1 : va_P G vwCl (va_pl L F22) t.heap := hP1
          rw [ht] at hP1
          have hP := hP1
          generalize H1 = H at hP hS ⊢
          obtain ⟨hqr23, hR24⟩ := hw
          exact W.iret (v := r23) hx hb hr (fun t ht hW => ⟨⟨r23, F22, rfl, (by have hsp : sp_weight Pp Kr Xx (nI j_rk) (nI q_i) re = (Pp.2.1 ks, goodX Xx) := (by unfold sp_weight; rw [hi_rk]; refine (if_pos hp_i).trans ?_; rw [nI_tn (q := q_i) (by omega), hx0]; unfold wtX; rw [if_neg (nI_neg (by omega)), nI_tn (q := ks) (by omega)]; rw [if_neg (fun q => q.1 c20), if_pos c20]); rw [hsp]; exact ⟨hqr23, hR24⟩), (by show va_P _ _ _ t.heap; rw [ht]; exact hP)⟩, hS.F ht⟩) hS.2.2 dX8_weight_99
        · refine lv_aload hx hb dX8_weight_60 (lv_at hl 0 rfl) ?_
          refine pg_get (ci := 6) (C := RX7) (T := TX7) (N := 3) hx hb hts hinX7 hown hK hP hmsp hFsp rfl 2 (by decide) (hts (.fieldLink RX8 245 "RopeDrums$Spool" "isReel" "Z") (by decide +kernel)) (fun _ h9 => h9) rfl dX8_weight_62 ?_
          refine lv_if_ne (tgt := 74) hx hb dX8_weight_65 (by decide) (fun c25 => ?_) (fun c25 => ?_)
          · refine lv_aload_n hx hb dX8_weight_74 rfl (lv_at hl 3 rfl) ?_
            refine lv_iload_n hx hb dX8_weight_75 rfl (lv_at hl 6 rfl) ?_
            refine lv_if_eq (tgt := 91) hx hb dX8_weight_76 (by decide) (fun c26 => absurd c26 (c20)) (fun c26 => ?_)
            refine lv_iconst (v := 2) hx hb dX8_weight_79 (by decide) ?_
            refine lv_aload hx hb dX8_weight_80 (lv_at hl 0 rfl) ?_
            refine pg_get (ci := 6) (C := RX7) (T := TX7) (N := 3) hx hb hts hinX7 hown hK hP hmsp hFsp rfl 1 (by decide) (hts (.fieldLink RX8 252 "RopeDrums$Spool" "weight" "I") (by decide +kernel)) (fun _ h9 => h9) rfl dX8_weight_82 ?_
            refine lv_imul hx hb dX8_weight_85 ?_
            refine lv_topi (fun v27 ev27 => ?_)
            refine lv_iconst (v := 1) hx hb dX8_weight_86 (by decide) ?_
            refine lv_iadd hx hb dX8_weight_87 ?_
            refine lv_topi (fun v28 ev28 => ?_)
            refine lv_goto (tgt := 96) hx hb dX8_weight_88 (by decide) ?_
            refine va_calli (va_runV (As := [.int v28]) (rest := []) ⟨hx, hb, hml, hown, hts⟩ (c_succeed l G cy L F s.heap.size o qa Mm Dd Sl Pp Kr Bk Xx hR v28) (cwV 1 hts gX8_weight_X8_succeed rfl rfl rfl (by decide +kernel) ⟨Nat.le_of_ble_eq_true rfl, Nat.le_of_ble_eq_true rfl⟩) (preV_of okQ (⟨rfl, hP, hK, hD.top⟩) (pl_recv hK hP (ci := 7) rfl hmo hFo)) rfl rfl hl.1 rfl (lv_room (Nat.le_of_ble_eq_true rfl)) dX8_weight_96 ⟨Nat.le_of_ble_eq_true rfl, Nat.le_of_ble_eq_true rfl⟩) hS (fun q _ h => pl_free hD hS hA q h) (pl_free hD hS hA) (fun r30 F29 t H1 locs ht hvm hw hP1 hz1 hk1 hS => ?_)
            have hP1 : va_P G vwCl (va_pl L F29) t.heap := hP1
            rw [ht] at hP1
            have hP := hP1
            generalize H1 = H at hP hS ⊢
            obtain ⟨hqr30, hR31⟩ := hw
            exact W.iret (v := r30) hx hb hr (fun t ht hW => ⟨⟨r30, F29, rfl, (by have hsp : sp_weight Pp Kr Xx (nI j_rk) (nI q_i) re = (2 * Pp.2.1 ks + 1, goodX Xx) := (by unfold sp_weight; rw [hi_rk]; refine (if_pos hp_i).trans ?_; rw [nI_tn (q := q_i) (by omega), hx0]; unfold wtX; rw [if_neg (nI_neg (by omega)), nI_tn (q := ks) (by omega)]; rw [if_neg (fun q => c25 q.2), if_neg c20]); rw [hsp]; exact ⟨hqr30.trans (by subst ev28 ev27; rfl), hR31⟩), (by show va_P _ _ _ t.heap; rw [ht]; exact hP)⟩, hS.F ht⟩) hS.2.2 dX8_weight_99
          · refine lv_aload_n hx hb dX8_weight_68 rfl (lv_at hl 3 rfl) ?_
            refine lv_iconst (v := 3) hx hb dX8_weight_69 (by decide) ?_
            refine va_calli (va_runV (As := [.int 3]) (rest := []) ⟨hx, hb, hml, hown, hts⟩ (c_fail_3 l G cy L F s.heap.size o qa Mm Dd Sl Pp Kr Bk Xx hR) (cwV 1 hts gX8_weight_X8_fail rfl rfl rfl (by decide +kernel) ⟨Nat.le_of_ble_eq_true rfl, Nat.le_of_ble_eq_true rfl⟩) (preV_of okQ (⟨rfl, hP, hK, hD.top⟩) (pl_recv hK hP (ci := 7) rfl hmo hFo)) rfl rfl hl.1 rfl (lv_room (Nat.le_of_ble_eq_true rfl)) dX8_weight_70 ⟨Nat.le_of_ble_eq_true rfl, Nat.le_of_ble_eq_true rfl⟩) hS (fun q _ h => pl_free hD hS hA q h) (pl_free hD hS hA) (fun r33 F32 t H1 locs ht hvm hw hP1 hz1 hk1 hS => ?_)
            have hP1 : va_P G vwCl (va_pl L F32) t.heap := hP1
            rw [ht] at hP1
            have hP := hP1
            generalize H1 = H at hP hS ⊢
            obtain ⟨hqr33, hR34⟩ := hw
            exact W.iret (v := r33) hx hb hr (fun t ht hW => ⟨⟨r33, F32, rfl, (by have hsp : sp_weight Pp Kr Xx (nI j_rk) (nI q_i) re = (-10 - 3, failX Xx 3) := (by unfold sp_weight; rw [hi_rk]; refine (if_pos hp_i).trans ?_; rw [nI_tn (q := q_i) (by omega), hx0]; unfold wtX; rw [if_neg (nI_neg (by omega)), nI_tn (q := ks) (by omega)]; exact if_pos ⟨c20, c25⟩); rw [hsp]; exact ⟨hqr33, hR34⟩), (by show va_P _ _ _ t.heap; rw [ht]; exact hP)⟩, hS.F ht⟩) hS.2.2 dX8_weight_73

set_option maxHeartbeats 8000000 in
set_option maxRecDepth 100000 in
theorem m_failed (l : Launch) (G : va_G) (cy : Nat → ClassId) (L : List Nat) (F : Nat → va_E) (ad : Nat → Nat) (sz : Nat) (o : Nat) (qa : Nat → Nat → Nat) (Mm : SM) (Dd : SD) (Sl : SL) (Pp : SP) (Kr : SR) (Bk : SB) (Xx : SX) (hR : Rep cy L o qa Mm Dd Sl Pp Kr Bk Xx F)  : Met l yX8_failed wsX8_failed ({ frames := 0, cells := 0, slots := 0, locals := 0 }) (va_Pc [.ref o] (fun U => bQE G cy L F ad sz U U.heap)) (va_Qi (fun (r : Int32) (F' : Nat → va_E) => r = Xx.1 ∧ Rep cy L o qa Mm Dd Sl Pp Kr Bk Xx F') (fun F' t => va_P G vwCl (va_pl L F') t.heap) (va_A (va_pl L F) sz)) 0 0 (va_A (va_pl L F) sz) := by
  refine Met.ofW (cc := cX8_failed) (maxL := 1) (ret := (some .int)) (by decide) rfl ?_
  intro p e s m args below meth c s₁ B hml hv
  obtain ⟨rfl, ⟨hsz, hP, hK, hD0⟩, hE, hN⟩ := hv
  have hx := B.exec
  have hb := B.bytes
  have hr := B.returns
  have hts := atoms_spec (ws := wsX8_failed) B.pre
  have hown : s.vm.findClass RX8 = some m.cls := findClass_of_methodNamed B.named
  have hlocks := B.notSynchronized
  have hinX8 : ∀ w ∈ wsX80, w ∈ wsX8_failed := by decide +kernel
  subst hsz
  have hD := hD0.self F s.heap.size
  generalize hAe : va_A (va_pl L F) s.heap.size = A at hD hE ⊢
  have hA : ∀ q : Nat, s.heap.size ≤ q → A q := fun q h => by rw [← hAe]; exact Or.inr h
  have hS : va_S A s.heap s.heap [] := va_S.rf
  obtain ⟨⟨⟨hmo, hFo⟩, ⟨hmf, hFf⟩, hms, hFs⟩, ⟨⟨hm0, hF0⟩, ⟨hm1, hF1⟩, ⟨hm2, hF2⟩, ⟨hm4, hF4⟩, hm5, hF5⟩, hRM, hRD, hRG, hRP, hRR, hRB, hRI⟩ := id hR
  have hl := lv_entry ([.ref o]) (n := 1) (Nat.le_of_ble_eq_true rfl)
  rw [lg_entry_eq]
  generalize (lg_sl ([.ref o]) ++ List.replicate (1 - (lg_sl ([.ref o])).length) Slot.unset).toArray = ls at hl ⊢
  have hl : lv_has ls 1 [(0, .ref o)] := hl
  refine lv_aload_n hx hb dX8_failed_0 rfl (lv_at hl 0 rfl) ?_
  refine pg_get (ci := 7) (C := RX8) (T := TX8) (N := 9) hx hb hts hinX8 hown hK hP hmo hFo rfl 8 (by decide) (hts (.fieldLink RX8 53 "RopeDrums" "latestFailure" "I") (by decide +kernel)) (fun _ h9 => h9) rfl dX8_failed_1 ?_
  exact W.iret (v := Xx.1) hx hb hr (fun t ht hW => ⟨⟨Xx.1, F, rfl, ⟨rfl, hR⟩, (by show va_P _ _ _ t.heap; rw [ht]; exact hP)⟩, hS.F ht⟩) hS.2.2 dX8_failed_4

set_option maxHeartbeats 8000000 in
set_option maxRecDepth 100000 in
theorem m_count (l : Launch) (G : va_G) (cy : Nat → ClassId) (L : List Nat) (F : Nat → va_E) (ad : Nat → Nat) (sz : Nat) (o : Nat) (qa : Nat → Nat → Nat) (Mm : SM) (Dd : SD) (Sl : SL) (Pp : SP) (Kr : SR) (Bk : SB) (Xx : SX) (hR : Rep cy L o qa Mm Dd Sl Pp Kr Bk Xx F) (wh : Int32)  : Met l yX8_count wsX8_count ({ frames := 0, cells := 0, slots := 0, locals := 0 }) (va_Pc [.ref o, .int wh] (fun U => bQE G cy L F ad sz U U.heap)) (va_Qi (fun (r : Int32) (F' : Nat → va_E) => r = sp_count Pp Xx wh ∧ Rep cy L o qa Mm Dd Sl Pp Kr Bk Xx F') (fun F' t => va_P G vwCl (va_pl L F') t.heap) (va_A (va_pl L F) sz)) 0 0 (va_A (va_pl L F) sz) := by
  refine Met.ofW (cc := cX8_count) (maxL := 2) (ret := (some .int)) (by decide) rfl ?_
  intro p e s m args below meth c s₁ B hml hv
  obtain ⟨rfl, ⟨hsz, hP, hK, hD0⟩, hE, hN⟩ := hv
  have hx := B.exec
  have hb := B.bytes
  have hr := B.returns
  have hts := atoms_spec (ws := wsX8_count) B.pre
  have hown : s.vm.findClass RX8 = some m.cls := findClass_of_methodNamed B.named
  have hlocks := B.notSynchronized
  have hinX8 : ∀ w ∈ wsX80, w ∈ wsX8_count := by decide +kernel
  subst hsz
  have hD := hD0.self F s.heap.size
  generalize hAe : va_A (va_pl L F) s.heap.size = A at hD hE ⊢
  have hA : ∀ q : Nat, s.heap.size ≤ q → A q := fun q h => by rw [← hAe]; exact Or.inr h
  have hS : va_S A s.heap s.heap [] := va_S.rf
  obtain ⟨⟨⟨hmo, hFo⟩, ⟨hmf, hFf⟩, hms, hFs⟩, ⟨⟨hm0, hF0⟩, ⟨hm1, hF1⟩, ⟨hm2, hF2⟩, ⟨hm4, hF4⟩, hm5, hF5⟩, hRM, hRD, hRG, hRP, hRR, hRB, hRI⟩ := id hR
  have hl := lv_entry ([.ref o, .int wh]) (n := 2) (Nat.le_of_ble_eq_true rfl)
  rw [lg_entry_eq]
  generalize (lg_sl ([.ref o, .int wh]) ++ List.replicate (2 - (lg_sl ([.ref o, .int wh])).length) Slot.unset).toArray = ls at hl ⊢
  have hl : lv_has ls 2 [(0, .ref o), (1, .int wh)] := hl
  refine lv_iload_n hx hb dX8_count_0 rfl (lv_at hl 1 rfl) ?_
  refine lv_if_ne (tgt := 9) hx hb dX8_count_1 (by decide) (fun c1 => ?_) (fun c1 => ?_)
  · refine lv_iload_n hx hb dX8_count_9 rfl (lv_at hl 1 rfl) ?_
    refine lv_iconst (v := 1) hx hb dX8_count_10 (by decide) ?_
    refine lv_icmp_lt (tgt := 19) hx hb dX8_count_11 (by decide) (fun c2 => ?_) (fun c2 => ?_)
    · refine lv_sipush (v := -1002) hx hb dX8_count_19 (by decide) ?_
      exact W.iret (v := -1002) hx hb hr (fun t ht hW => ⟨⟨-1002, F, rfl, ⟨(by unfold sp_count; rw [if_neg c1]; exact (if_neg (by intro hq; have hc := c2; have h1 : (1 : Int32).toInt = 1 := (by decide); have h5 : (5 : Int32).toInt = 5 := (by decide); rw [fa_lt] at hc; omega)).symm), hR⟩, (by show va_P _ _ _ t.heap; rw [ht]; exact hP)⟩, hS.F ht⟩) hS.2.2 dX8_count_22
    · refine lv_iload_n hx hb dX8_count_14 rfl (lv_at hl 1 rfl) ?_
      refine lv_iconst (v := 5) hx hb dX8_count_15 (by decide) ?_
      refine lv_icmp_le (tgt := 23) hx hb dX8_count_16 (by decide) (fun c3 => ?_) (fun c3 => ?_)
      · refine lv_aload_n hx hb dX8_count_23 rfl (lv_at hl 0 rfl) ?_
        refine pg_get (ci := 7) (C := RX8) (T := TX8) (N := 9) hx hb hts hinX8 hown hK hP hmo hFo rfl 6 (by decide) (hts (.fieldLink RX8 45 "RopeDrums" "failures" "[I") (by decide +kernel)) (fun _ h9 => h9) rfl dX8_count_24 ?_
        refine lv_iload_n hx hb dX8_count_27 rfl (lv_at hl 1 rfl) ?_
        refine pg_iald hx hb hK hP 1 hmf hFf rfl (vp_in_iff.mpr (by have hc1 := c2; have hc2 := c3; have h1 : (1 : Int32).toInt = 1 := (by decide); have h5 : (5 : Int32).toInt = 5 := (by decide); rw [fa_lt] at hc1; rw [fa_le] at hc2; omega)) dX8_count_28 ?_
        refine lv_topi (fun v4 ev4 => ?_)
        exact W.iret (v := v4) hx hb hr (fun t ht hW => ⟨⟨v4, F, rfl, ⟨(by unfold sp_count; rw [if_neg c1]; subst ev4; exact (if_pos (by have hc1 := c2; have hc2 := c3; have h1 : (1 : Int32).toInt = 1 := (by decide); have h5 : (5 : Int32).toInt = 5 := (by decide); rw [fa_lt] at hc1; rw [fa_le] at hc2; omega)).symm), hR⟩, (by show va_P _ _ _ t.heap; rw [ht]; exact hP)⟩, hS.F ht⟩) hS.2.2 dX8_count_29
      · refine lv_sipush (v := -1002) hx hb dX8_count_19 (by decide) ?_
        exact W.iret (v := -1002) hx hb hr (fun t ht hW => ⟨⟨-1002, F, rfl, ⟨(by unfold sp_count; rw [if_neg c1]; exact (if_neg (by intro hq; have hc := c3; have h1 : (1 : Int32).toInt = 1 := (by decide); have h5 : (5 : Int32).toInt = 5 := (by decide); rw [fa_le] at hc; omega)).symm), hR⟩, (by show va_P _ _ _ t.heap; rw [ht]; exact hP)⟩, hS.F ht⟩) hS.2.2 dX8_count_22
  · refine lv_aload_n hx hb dX8_count_4 rfl (lv_at hl 0 rfl) ?_
    refine pg_get (ci := 7) (C := RX8) (T := TX8) (N := 9) hx hb hts hinX8 hown hK hP hmo hFo rfl 7 (by decide) (hts (.fieldLink RX8 49 "RopeDrums" "spoolCount" "I") (by decide +kernel)) (fun _ h9 => h9) rfl dX8_count_5 ?_
    exact W.iret (v := Pp.1) hx hb hr (fun t ht hW => ⟨⟨Pp.1, F, rfl, ⟨(by unfold sp_count; rw [if_pos c1]), hR⟩, (by show va_P _ _ _ t.heap; rw [ht]; exact hP)⟩, hS.F ht⟩) hS.2.2 dX8_count_8
