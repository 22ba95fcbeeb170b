def rkW (k : Nat) (M : SM) (X : SX) (lane : Int32) (a b : Int64) (t : Nat) : Int32 × SM × SX := if 3 ≤ k ∧ b = 0 then (-14, M, failX X 4) else (lane, setM M t lane (q_holdW lane (rkL k a b)), goodX X)
theorem hold_ok {lane : Int32} {x : Int64} {rl : UInt64} (h : lane = 0 ∨ lane = 1) (hn : FP.Core.val64 rl ≠ .nan) : okM lane (q_holdW lane x) (q_holdW lane x) rl := by
  rcases h with rfl | rfl
  · exact ⟨hn, Or.inl ⟨rfl, by simp [q_holdW]; exact sx_i _, rfl⟩⟩
  · exact ⟨hn, Or.inr (Or.inl ⟨rfl, rfl⟩)⟩
theorem real_okM2 {u : UInt32} {nm : Int64} (h : FP.Core.val32 u ≠ .nan) : okM 2 u.toInt32.toInt64 nm (FP.f2d u) := ⟨(f2d_ok h).2, Or.inr (Or.inr (Or.inl ⟨rfl, fl_sx.1, by rw [fl_sx.2]; exact h, by rw [fl_sx.2]⟩))⟩
theorem real_okM3 {u : UInt64} {nm : Int64} (h : FP.Core.val64 u ≠ .nan) : okM 3 u.toInt64 nm u := ⟨h, Or.inr (Or.inr (Or.inr ⟨rfl, by rw [db_u]; exact h, by rw [db_u]⟩))⟩
theorem ixk : ix 5 0 = some 0 ∧ ix 5 1 = some 1 ∧ ix 5 2 = some 2 ∧ ix 5 3 = some 3 ∧ ix 5 4 = some 4 := by decide
theorem rk_eq {M : SM} {X : SX} {k i j t : Nat} {a b : Int64} (h : mx (M.1 i) (M.1 j) < 2) (ha : a = tn (M.1 i) (M.2 i) (mx (M.1 i) (M.1 j))) (hb : b = tn (M.1 j) (M.2 j) (mx (M.1 i) (M.1 j))) : rk M X k i j t = rkW k M X (mx (M.1 i) (M.1 j)) a b t := by
  unfold rk rkW
  rw [if_pos h, ← ha, ← hb]
  rfl

set_option maxHeartbeats 8000000 in
set_option maxRecDepth 100000 in
theorem c_rkW_0 (l : Launch) (G : va_G) (cy : Nat → ClassId) (L : List Nat) (F : Nat → va_E) (sz : Nat) (o : Nat) (qa : Nat → Nat → Nat) (Mm : SM) (Dd : SD) (Sl : SL) (Pp : SP) (Kr : SR) (Bk : SB) (Xx : SX) (hR : Rep cy L o qa Mm Dd Sl Pp Kr Bk Xx F) (lane : Int32) (a b : Int64) (ti : Nat) (hti : ti < 10) (hlane : lane = 0 ∨ lane = 1)  : Met l yX8_reckonWholes wsX8_reckonWholes ({ frames := 1, cells := 0, slots := 0, locals := 23 }) (va_Pc [.ref o, .int 0, .int lane, .long a, .long b, .ref (qa 0 ti)] (fun U => bQ G cy L F sz U U.heap)) (va_Qi (fun (r : Int32) (F' : Nat → va_E) => r = (rkW 0 Mm Xx lane a b ti).1 ∧ Rep cy L o qa (rkW 0 Mm Xx lane a b ti).2.1 Dd Sl Pp Kr Bk (rkW 0 Mm Xx lane a b ti).2.2 F') (fun F' t => va_P G vwCl (va_pl L F') t.heap) (va_A (va_pl L F) sz)) 0 0 (va_A (va_pl L F) sz) := by
  refine Met.ofW (cc := cX8_reckonWholes) (maxL := 10) (ret := (some .int)) (by decide) rfl ?_
  intro p e s m args below meth c s₁ B hml hv
  obtain ⟨rfl, hsz, hP, hK, hD0⟩ := hv
  have hx := B.exec
  have hb := B.bytes
  have hr := B.returns
  have hts := atoms_spec (ws := wsX8_reckonWholes) B.pre
  have hown : s.vm.findClass RX8 = some m.cls := findClass_of_methodNamed B.named
  have hlocks := B.notSynchronized
  have hinX8 : ∀ w ∈ wsX80, w ∈ wsX8_reckonWholes := by decide +kernel
  have hinX4 : ∀ w ∈ wsX40, w ∈ wsX8_reckonWholes := by decide +kernel
  subst hsz
  have hD := hD0.self F s.heap.size
  generalize hAe : va_A (va_pl L F) s.heap.size = A at hD ⊢
  have hA : ∀ q : Nat, s.heap.size ≤ q → A q := fun q h => by rw [← hAe]; exact Or.inr h
  have hS : va_S A s.heap s.heap [] := va_S.rf
  obtain ⟨⟨⟨hmo, hFo⟩, ⟨hmf, hFf⟩, hms, hFs⟩, ⟨⟨hm0, hF0⟩, ⟨hm1, hF1⟩, ⟨hm2, hF2⟩, ⟨hm4, hF4⟩, hm5, hF5⟩, hRM, hRD, hRG, hRP, hRR, hRB, hRI⟩ := id hR
  obtain ⟨hmt, nmt, rlt, hFt, hokt⟩ := hRM ti hti
  have hl := lv_entry ([.ref o, .int 0, .int lane, .long a, .long b, .ref (qa 0 ti)]) (n := 10) (Nat.le_of_ble_eq_true rfl)
  rw [lg_entry_eq]
  generalize (lg_sl ([.ref o, .int 0, .int lane, .long a, .long b, .ref (qa 0 ti)]) ++ List.replicate (10 - (lg_sl ([.ref o, .int 0, .int lane, .long a, .long b, .ref (qa 0 ti)])).length) Slot.unset).toArray = ls at hl ⊢
  have hl : lv_has ls 10 [(0, .ref o), (1, .int 0), (2, .int lane), (3, .long a), (5, .long b), (7, .ref (qa 0 ti))] := hl
  refine lv_iload_n hx hb dX8_reckonWholes_0 rfl (lv_at hl 1 rfl) ?_
  refine lv_iconst (v := 3) hx hb dX8_reckonWholes_1 (by decide) ?_
  refine lv_icmp_lt (tgt := 18) hx hb dX8_reckonWholes_2 (by decide) (fun c1 => ?_) (fun c1 => absurd (by decide) c1)
  refine lv_iload_n hx hb dX8_reckonWholes_18 rfl (lv_at hl 1 rfl) ?_
  refine lv_tableIn (off := 29) (tgt := 48) hx hb dX8_reckonWholes_19 (by decide) (by decide) (by decide) (by decide) ?_
  refine lv_lload_n hx hb dX8_reckonWholes_48 rfl (lv_at hl 3 rfl) ?_
  refine lv_lload hx hb dX8_reckonWholes_49 (lv_at hl 4 rfl) ?_
  refine lv_ladd hx hb dX8_reckonWholes_51 ?_
  refine lv_topl (fun v2 ev2 => ?_)
  refine lv_lstore (lv' := [(8, .long v2), (0, .ref o), (1, .int 0), (2, .int lane), (3, .long a), (5, .long b), (7, .ref (qa 0 ti))]) hx hb dX8_reckonWholes_52 hl (by decide) rfl (fun ls hl => ?_)
  refine lv_goto (tgt := 90) hx hb dX8_reckonWholes_54 (by decide) ?_
  refine lv_aload hx hb dX8_reckonWholes_90 (lv_at hl 6 rfl) ?_
  refine lv_iload_n hx hb dX8_reckonWholes_92 rfl (lv_at hl 3 rfl) ?_
  refine lv_lload hx hb dX8_reckonWholes_93 (lv_at hl 0 rfl) ?_
  refine va_callv (va_runV (As := [.int lane, .long v2]) (rest := []) ⟨hx, hb, hml, hown, hts⟩ (c_holdWhole l G cy L F s.heap.size (qa 0 ti) (Mm.1 ti) nmt rlt hmt hFt lane v2) (cwV 2 hts gX8_reckonWholes_X4_holdWhole rfl rfl rfl (by decide +kernel) ⟨Nat.le_of_ble_eq_true rfl, Nat.le_of_ble_eq_true rfl⟩) (preV_of okQ (⟨rfl, hP, hK, hD.top⟩) (pl_recv hK hP (ci := 4) rfl hmt hFt)) rfl rfl hl.1 rfl (lv_room (Nat.le_of_ble_eq_true rfl)) dX8_reckonWholes_95 ⟨Nat.le_of_ble_eq_true rfl, Nat.le_of_ble_eq_true rfl⟩) hS (fun q _ h => pl_free hD hS hA q h) (pl_free hD hS hA) (fun F3 t H1 locs ht hvm hw hP1 hz1 hk1 hS => ?_)
  have hP1 : va_P G vwCl (va_pl L F3) t.heap := hP1
  rw [ht] at hP1
  have hP := hP1
  generalize H1 = H at hP hS ⊢
  have eF3 : F3 = va_up F (qa 0 ti) (.inr (4, [.int lane, .long (q_holdW lane v2), .double rlt])) := hw
  have hFo_3 : F3 o = .inr (7, [.ref (qa 8 0), .ref (qa 8 1), .ref (qa 8 2), .ref (qa 8 3), .ref (qa 8 4), .ref (qa 8 5), .ref (qa 8 6), .int Pp.1, .int Xx.1]) := by rw [eF3, va_up_ne _ _ (pl_ne hFo hFt rfl)]; exact hFo
  have hFqa80_3 : F3 (qa 8 0) = cQ (cy 7) 10 (pR 10 (qa 0)) := by rw [eF3, va_up_ne _ _ (pl_ne hF0 hFt rfl)]; exact hF0
  have hFqa81_3 : F3 (qa 8 1) = cQ (cy 5) 6 (pR 6 (qa 1)) := by rw [eF3, va_up_ne _ _ (pl_ne hF1 hFt rfl)]; exact hF1
  have hFqa82_3 : F3 (qa 8 2) = cQ (cy 6) 8 (pR 8 (qa 2)) := by rw [eF3, va_up_ne _ _ (pl_ne hF2 hFt rfl)]; exact hF2
  have hFqa83_3 : F3 (qa 8 3) = cQ (cy 9) 30 (pR Pp.1.toInt.toNat (qa 7)) := by rw [eF3, va_up_ne _ _ (pl_ne hFs hFt rfl)]; exact hFs
  have hFqa84_3 : F3 (qa 8 4) = cQ (cy 8) 5 (pR 5 (qa 4)) := by rw [eF3, va_up_ne _ _ (pl_ne hF4 hFt rfl)]; exact hF4
  have hFqa85_3 : F3 (qa 8 5) = cQ (cy 4) 4 (pR 4 (qa 6)) := by rw [eF3, va_up_ne _ _ (pl_ne hF5 hFt rfl)]; exact hF5
  have hFqa86_3 : F3 (qa 8 6) = cI (cy 1) 6 Xx.2 := by rw [eF3, va_up_ne _ _ (pl_ne hFf hFt rfl)]; exact hFf
  have hFqa0ti_3 : F3 (qa 0 ti) = .inr (4, [.int lane, .long (q_holdW lane v2), .double rlt]) := by rw [eF3]; exact va_up_self _ _ _
  have hR4 : Rep cy L o qa (setM Mm ti lane (q_holdW lane (rkL 0 a b))) Dd Sl Pp Kr Bk Xx F3 := by rw [eF3, ev2]; exact hR.meter hti (hold_ok (x := rkL 0 a b) hlane hokt.ne)
  refine lv_aload_n hx hb dX8_reckonWholes_98 rfl (lv_at hl 1 rfl) ?_
  refine lv_iload_n hx hb dX8_reckonWholes_99 rfl (lv_at hl 3 rfl) ?_
  refine va_calli (va_runV (As := [.int lane]) (rest := []) ⟨hx, hb, hml, hown, hts⟩ (c_succeed l G cy L F3 H.size o qa (setM Mm ti lane (q_holdW lane (rkL 0 a b))) Dd Sl Pp Kr Bk Xx hR4 lane) (cwV 1 hts gX8_reckonWholes_X8_succeed rfl rfl rfl (by decide +kernel) ⟨Nat.le_of_ble_eq_true rfl, Nat.le_of_ble_eq_true rfl⟩) (preV_of okQ (⟨rfl, hP, hK, hD.top⟩) (pl_recv hK hP (ci := 7) rfl hmo hFo_3)) rfl rfl hl.1 rfl (lv_room (Nat.le_of_ble_eq_true rfl)) dX8_reckonWholes_100 ⟨Nat.le_of_ble_eq_true rfl, Nat.le_of_ble_eq_true rfl⟩) hS (fun q _ h => pl_free hD hS hA q h) (pl_free hD hS hA) (fun r6 F5 t H1 locs ht hvm hw hP1 hz1 hk1 hS => ?_)
  have hP1 : va_P G vwCl (va_pl L F5) t.heap := hP1
  rw [ht] at hP1
  have hP := hP1
  generalize H1 = H at hP hS ⊢
  obtain ⟨hqr6, hR7⟩ := hw
  exact W.iret (v := r6) hx hb hr (fun t ht hW => ⟨⟨r6, F5, rfl, (by have hsp : rkW 0 Mm Xx lane a b ti = (lane, setM Mm ti lane (q_holdW lane (rkL 0 a b)), goodX Xx) := (if_neg (fun q => absurd q.1 (by decide))); rw [hsp]; exact ⟨hqr6, hR7⟩), (by show va_P _ _ _ t.heap; rw [ht]; exact hP)⟩, hS.F ht⟩) hS.2.2 dX8_reckonWholes_103

set_option maxHeartbeats 8000000 in
set_option maxRecDepth 100000 in
theorem c_rkW_1 (l : Launch) (G : va_G) (cy : Nat → ClassId) (L : List Nat) (F : Nat → va_E) (sz : Nat) (o : Nat) (qa : Nat → Nat → Nat) (Mm : SM) (Dd : SD) (Sl : SL) (Pp : SP) (Kr : SR) (Bk : SB) (Xx : SX) (hR : Rep cy L o qa Mm Dd Sl Pp Kr Bk Xx F) (lane : Int32) (a b : Int64) (ti : Nat) (hti : ti < 10) (hlane : lane = 0 ∨ lane = 1)  : Met l yX8_reckonWholes wsX8_reckonWholes ({ frames := 1, cells := 0, slots := 0, locals := 23 }) (va_Pc [.ref o, .int 1, .int lane, .long a, .long b, .ref (qa 0 ti)] (fun U => bQ G cy L F sz U U.heap)) (va_Qi (fun (r : Int32) (F' : Nat → va_E) => r = (rkW 1 Mm Xx lane a b ti).1 ∧ Rep cy L o qa (rkW 1 Mm Xx lane a b ti).2.1 Dd Sl Pp Kr Bk (rkW 1 Mm Xx lane a b ti).2.2 F') (fun F' t => va_P G vwCl (va_pl L F') t.heap) (va_A (va_pl L F) sz)) 0 0 (va_A (va_pl L F) sz) := by
  refine Met.ofW (cc := cX8_reckonWholes) (maxL := 10) (ret := (some .int)) (by decide) rfl ?_
  intro p e s m args below meth c s₁ B hml hv
  obtain ⟨rfl, hsz, hP, hK, hD0⟩ := hv
  have hx := B.exec
  have hb := B.bytes
  have hr := B.returns
  have hts := atoms_spec (ws := wsX8_reckonWholes) B.pre
  have hown : s.vm.findClass RX8 = some m.cls := findClass_of_methodNamed B.named
  have hlocks := B.notSynchronized
  have hinX8 : ∀ w ∈ wsX80, w ∈ wsX8_reckonWholes := by decide +kernel
  have hinX4 : ∀ w ∈ wsX40, w ∈ wsX8_reckonWholes := by decide +kernel
  subst hsz
  have hD := hD0.self F s.heap.size
  generalize hAe : va_A (va_pl L F) s.heap.size = A at hD ⊢
  have hA : ∀ q : Nat, s.heap.size ≤ q → A q := fun q h => by rw [← hAe]; exact Or.inr h
  have hS : va_S A s.heap s.heap [] := va_S.rf
  obtain ⟨⟨⟨hmo, hFo⟩, ⟨hmf, hFf⟩, hms, hFs⟩, ⟨⟨hm0, hF0⟩, ⟨hm1, hF1⟩, ⟨hm2, hF2⟩, ⟨hm4, hF4⟩, hm5, hF5⟩, hRM, hRD, hRG, hRP, hRR, hRB, hRI⟩ := id hR
  obtain ⟨hmt, nmt, rlt, hFt, hokt⟩ := hRM ti hti
  have hl := lv_entry ([.ref o, .int 1, .int lane, .long a, .long b, .ref (qa 0 ti)]) (n := 10) (Nat.le_of_ble_eq_true rfl)
  rw [lg_entry_eq]
  generalize (lg_sl ([.ref o, .int 1, .int lane, .long a, .long b, .ref (qa 0 ti)]) ++ List.replicate (10 - (lg_sl ([.ref o, .int 1, .int lane, .long a, .long b, .ref (qa 0 ti)])).length) Slot.unset).toArray = ls at hl ⊢
  have hl : lv_has ls 10 [(0, .ref o), (1, .int 1), (2, .int lane), (3, .long a), (5, .long b), (7, .ref (qa 0 ti))] := hl
  refine lv_iload_n hx hb dX8_reckonWholes_0 rfl (lv_at hl 1 rfl) ?_
  refine lv_iconst (v := 3) hx hb dX8_reckonWholes_1 (by decide) ?_
  refine lv_icmp_lt (tgt := 18) hx hb dX8_reckonWholes_2 (by decide) (fun c1 => ?_) (fun c1 => absurd (by decide) c1)
  refine lv_iload_n hx hb dX8_reckonWholes_18 rfl (lv_at hl 1 rfl) ?_
  refine lv_tableIn (off := 38) (tgt := 57) hx hb dX8_reckonWholes_19 (by decide) (by decide) (by decide) (by decide) ?_
  refine lv_lload_n hx hb dX8_reckonWholes_57 rfl (lv_at hl 3 rfl) ?_
  refine lv_lload hx hb dX8_reckonWholes_58 (lv_at hl 4 rfl) ?_
  refine lv_lsub hx hb dX8_reckonWholes_60 ?_
  refine lv_topl (fun v2 ev2 => ?_)
  refine lv_lstore (lv' := [(8, .long v2), (0, .ref o), (1, .int 1), (2, .int lane), (3, .long a), (5, .long b), (7, .ref (qa 0 ti))]) hx hb dX8_reckonWholes_61 hl (by decide) rfl (fun ls hl => ?_)
  refine lv_goto (tgt := 90) hx hb dX8_reckonWholes_63 (by decide) ?_
  refine lv_aload hx hb dX8_reckonWholes_90 (lv_at hl 6 rfl) ?_
  refine lv_iload_n hx hb dX8_reckonWholes_92 rfl (lv_at hl 3 rfl) ?_
  refine lv_lload hx hb dX8_reckonWholes_93 (lv_at hl 0 rfl) ?_
  refine va_callv (va_runV (As := [.int lane, .long v2]) (rest := []) ⟨hx, hb, hml, hown, hts⟩ (c_holdWhole l G cy L F s.heap.size (qa 0 ti) (Mm.1 ti) nmt rlt hmt hFt lane v2) (cwV 2 hts gX8_reckonWholes_X4_holdWhole rfl rfl rfl (by decide +kernel) ⟨Nat.le_of_ble_eq_true rfl, Nat.le_of_ble_eq_true rfl⟩) (preV_of okQ (⟨rfl, hP, hK, hD.top⟩) (pl_recv hK hP (ci := 4) rfl hmt hFt)) rfl rfl hl.1 rfl (lv_room (Nat.le_of_ble_eq_true rfl)) dX8_reckonWholes_95 ⟨Nat.le_of_ble_eq_true rfl, Nat.le_of_ble_eq_true rfl⟩) hS (fun q _ h => pl_free hD hS hA q h) (pl_free hD hS hA) (fun F3 t H1 locs ht hvm hw hP1 hz1 hk1 hS => ?_)
  have hP1 : va_P G vwCl (va_pl L F3) t.heap := hP1
  rw [ht] at hP1
  have hP := hP1
  generalize H1 = H at hP hS ⊢
  have eF3 : F3 = va_up F (qa 0 ti) (.inr (4, [.int lane, .long (q_holdW lane v2), .double rlt])) := hw
  have hFo_3 : F3 o = .inr (7, [.ref (qa 8 0), .ref (qa 8 1), .ref (qa 8 2), .ref (qa 8 3), .ref (qa 8 4), .ref (qa 8 5), .ref (qa 8 6), .int Pp.1, .int Xx.1]) := by rw [eF3, va_up_ne _ _ (pl_ne hFo hFt rfl)]; exact hFo
  have hFqa80_3 : F3 (qa 8 0) = cQ (cy 7) 10 (pR 10 (qa 0)) := by rw [eF3, va_up_ne _ _ (pl_ne hF0 hFt rfl)]; exact hF0
  have hFqa81_3 : F3 (qa 8 1) = cQ (cy 5) 6 (pR 6 (qa 1)) := by rw [eF3, va_up_ne _ _ (pl_ne hF1 hFt rfl)]; exact hF1
  have hFqa82_3 : F3 (qa 8 2) = cQ (cy 6) 8 (pR 8 (qa 2)) := by rw [eF3, va_up_ne _ _ (pl_ne hF2 hFt rfl)]; exact hF2
  have hFqa83_3 : F3 (qa 8 3) = cQ (cy 9) 30 (pR Pp.1.toInt.toNat (qa 7)) := by rw [eF3, va_up_ne _ _ (pl_ne hFs hFt rfl)]; exact hFs
  have hFqa84_3 : F3 (qa 8 4) = cQ (cy 8) 5 (pR 5 (qa 4)) := by rw [eF3, va_up_ne _ _ (pl_ne hF4 hFt rfl)]; exact hF4
  have hFqa85_3 : F3 (qa 8 5) = cQ (cy 4) 4 (pR 4 (qa 6)) := by rw [eF3, va_up_ne _ _ (pl_ne hF5 hFt rfl)]; exact hF5
  have hFqa86_3 : F3 (qa 8 6) = cI (cy 1) 6 Xx.2 := by rw [eF3, va_up_ne _ _ (pl_ne hFf hFt rfl)]; exact hFf
  have hFqa0ti_3 : F3 (qa 0 ti) = .inr (4, [.int lane, .long (q_holdW lane v2), .double rlt]) := by rw [eF3]; exact va_up_self _ _ _
  have hR4 : Rep cy L o qa (setM Mm ti lane (q_holdW lane (rkL 1 a b))) Dd Sl Pp Kr Bk Xx F3 := by rw [eF3, ev2]; exact hR.meter hti (hold_ok (x := rkL 1 a b) hlane hokt.ne)
  refine lv_aload_n hx hb dX8_reckonWholes_98 rfl (lv_at hl 1 rfl) ?_
  refine lv_iload_n hx hb dX8_reckonWholes_99 rfl (lv_at hl 3 rfl) ?_
  refine va_calli (va_runV (As := [.int lane]) (rest := []) ⟨hx, hb, hml, hown, hts⟩ (c_succeed l G cy L F3 H.size o qa (setM Mm ti lane (q_holdW lane (rkL 1 a b))) Dd Sl Pp Kr Bk Xx hR4 lane) (cwV 1 hts gX8_reckonWholes_X8_succeed rfl rfl rfl (by decide +kernel) ⟨Nat.le_of_ble_eq_true rfl, Nat.le_of_ble_eq_true rfl⟩) (preV_of okQ (⟨rfl, hP, hK, hD.top⟩) (pl_recv hK hP (ci := 7) rfl hmo hFo_3)) rfl rfl hl.1 rfl (lv_room (Nat.le_of_ble_eq_true rfl)) dX8_reckonWholes_100 ⟨Nat.le_of_ble_eq_true rfl, Nat.le_of_ble_eq_true rfl⟩) hS (fun q _ h => pl_free hD hS hA q h) (pl_free hD hS hA) (fun r6 F5 t H1 locs ht hvm hw hP1 hz1 hk1 hS => ?_)
  have hP1 : va_P G vwCl (va_pl L F5) t.heap := hP1
  rw [ht] at hP1
  have hP := hP1
  generalize H1 = H at hP hS ⊢
  obtain ⟨hqr6, hR7⟩ := hw
  exact W.iret (v := r6) hx hb hr (fun t ht hW => ⟨⟨r6, F5, rfl, (by have hsp : rkW 1 Mm Xx lane a b ti = (lane, setM Mm ti lane (q_holdW lane (rkL 1 a b)), goodX Xx) := (if_neg (fun q => absurd q.1 (by decide))); rw [hsp]; exact ⟨hqr6, hR7⟩), (by show va_P _ _ _ t.heap; rw [ht]; exact hP)⟩, hS.F ht⟩) hS.2.2 dX8_reckonWholes_103

set_option maxHeartbeats 8000000 in
set_option maxRecDepth 100000 in
theorem c_rkW_2 (l : Launch) (G : va_G) (cy : Nat → ClassId) (L : List Nat) (F : Nat → va_E) (sz : Nat) (o : Nat) (qa : Nat → Nat → Nat) (Mm : SM) (Dd : SD) (Sl : SL) (Pp : SP) (Kr : SR) (Bk : SB) (Xx : SX) (hR : Rep cy L o qa Mm Dd Sl Pp Kr Bk Xx F) (lane : Int32) (a b : Int64) (ti : Nat) (hti : ti < 10) (hlane : lane = 0 ∨ lane = 1)  : Met l yX8_reckonWholes wsX8_reckonWholes ({ frames := 1, cells := 0, slots := 0, locals := 23 }) (va_Pc [.ref o, .int 2, .int lane, .long a, .long b, .ref (qa 0 ti)] (fun U => bQ G cy L F sz U U.heap)) (va_Qi (fun (r : Int32) (F' : Nat → va_E) => r = (rkW 2 Mm Xx lane a b ti).1 ∧ Rep cy L o qa (rkW 2 Mm Xx lane a b ti).2.1 Dd Sl Pp Kr Bk (rkW 2 Mm Xx lane a b ti).2.2 F') (fun F' t => va_P G vwCl (va_pl L F') t.heap) (va_A (va_pl L F) sz)) 0 0 (va_A (va_pl L F) sz) := by
  refine Met.ofW (cc := cX8_reckonWholes) (maxL := 10) (ret := (some .int)) (by decide) rfl ?_
  intro p e s m args below meth c s₁ B hml hv
  obtain ⟨rfl, hsz, hP, hK, hD0⟩ := hv
  have hx := B.exec
  have hb := B.bytes
  have hr := B.returns
  have hts := atoms_spec (ws := wsX8_reckonWholes) B.pre
  have hown : s.vm.findClass RX8 = some m.cls := findClass_of_methodNamed B.named
  have hlocks := B.notSynchronized
  have hinX8 : ∀ w ∈ wsX80, w ∈ wsX8_reckonWholes := by decide +kernel
  have hinX4 : ∀ w ∈ wsX40, w ∈ wsX8_reckonWholes := by decide +kernel
  subst hsz
  have hD := hD0.self F s.heap.size
  generalize hAe : va_A (va_pl L F) s.heap.size = A at hD ⊢
  have hA : ∀ q : Nat, s.heap.size ≤ q → A q := fun q h => by rw [← hAe]; exact Or.inr h
  have hS : va_S A s.heap s.heap [] := va_S.rf
  obtain ⟨⟨⟨hmo, hFo⟩, ⟨hmf, hFf⟩, hms, hFs⟩, ⟨⟨hm0, hF0⟩, ⟨hm1, hF1⟩, ⟨hm2, hF2⟩, ⟨hm4, hF4⟩, hm5, hF5⟩, hRM, hRD, hRG, hRP, hRR, hRB, hRI⟩ := id hR
  obtain ⟨hmt, nmt, rlt, hFt, hokt⟩ := hRM ti hti
  have hl := lv_entry ([.ref o, .int 2, .int lane, .long a, .long b, .ref (qa 0 ti)]) (n := 10) (Nat.le_of_ble_eq_true rfl)
  rw [lg_entry_eq]
  generalize (lg_sl ([.ref o, .int 2, .int lane, .long a, .long b, .ref (qa 0 ti)]) ++ List.replicate (10 - (lg_sl ([.ref o, .int 2, .int lane, .long a, .long b, .ref (qa 0 ti)])).length) Slot.unset).toArray = ls at hl ⊢
  have hl : lv_has ls 10 [(0, .ref o), (1, .int 2), (2, .int lane), (3, .long a), (5, .long b), (7, .ref (qa 0 ti))] := hl
  refine lv_iload_n hx hb dX8_reckonWholes_0 rfl (lv_at hl 1 rfl) ?_
  refine lv_iconst (v := 3) hx hb dX8_reckonWholes_1 (by decide) ?_
  refine lv_icmp_lt (tgt := 18) hx hb dX8_reckonWholes_2 (by decide) (fun c1 => ?_) (fun c1 => absurd (by decide) c1)
  refine lv_iload_n hx hb dX8_reckonWholes_18 rfl (lv_at hl 1 rfl) ?_
  refine lv_tableIn (off := 47) (tgt := 66) hx hb dX8_reckonWholes_19 (by decide) (by decide) (by decide) (by decide) ?_
  refine lv_lload_n hx hb dX8_reckonWholes_66 rfl (lv_at hl 3 rfl) ?_
  refine lv_lload hx hb dX8_reckonWholes_67 (lv_at hl 4 rfl) ?_
  refine lv_lmul hx hb dX8_reckonWholes_69 ?_
  refine lv_topl (fun v2 ev2 => ?_)
  refine lv_lstore (lv' := [(8, .long v2), (0, .ref o), (1, .int 2), (2, .int lane), (3, .long a), (5, .long b), (7, .ref (qa 0 ti))]) hx hb dX8_reckonWholes_70 hl (by decide) rfl (fun ls hl => ?_)
  refine lv_goto (tgt := 90) hx hb dX8_reckonWholes_72 (by decide) ?_
  refine lv_aload hx hb dX8_reckonWholes_90 (lv_at hl 6 rfl) ?_
  refine lv_iload_n hx hb dX8_reckonWholes_92 rfl (lv_at hl 3 rfl) ?_
  refine lv_lload hx hb dX8_reckonWholes_93 (lv_at hl 0 rfl) ?_
  refine va_callv (va_runV (As := [.int lane, .long v2]) (rest := []) ⟨hx, hb, hml, hown, hts⟩ (c_holdWhole l G cy L F s.heap.size (qa 0 ti) (Mm.1 ti) nmt rlt hmt hFt lane v2) (cwV 2 hts gX8_reckonWholes_X4_holdWhole rfl rfl rfl (by decide +kernel) ⟨Nat.le_of_ble_eq_true rfl, Nat.le_of_ble_eq_true rfl⟩) (preV_of okQ (⟨rfl, hP, hK, hD.top⟩) (pl_recv hK hP (ci := 4) rfl hmt hFt)) rfl rfl hl.1 rfl (lv_room (Nat.le_of_ble_eq_true rfl)) dX8_reckonWholes_95 ⟨Nat.le_of_ble_eq_true rfl, Nat.le_of_ble_eq_true rfl⟩) hS (fun q _ h => pl_free hD hS hA q h) (pl_free hD hS hA) (fun F3 t H1 locs ht hvm hw hP1 hz1 hk1 hS => ?_)
  have hP1 : va_P G vwCl (va_pl L F3) t.heap := hP1
  rw [ht] at hP1
  have hP := hP1
  generalize H1 = H at hP hS ⊢
  have eF3 : F3 = va_up F (qa 0 ti) (.inr (4, [.int lane, .long (q_holdW lane v2), .double rlt])) := hw
  have hFo_3 : F3 o = .inr (7, [.ref (qa 8 0), .ref (qa 8 1), .ref (qa 8 2), .ref (qa 8 3), .ref (qa 8 4), .ref (qa 8 5), .ref (qa 8 6), .int Pp.1, .int Xx.1]) := by rw [eF3, va_up_ne _ _ (pl_ne hFo hFt rfl)]; exact hFo
  have hFqa80_3 : F3 (qa 8 0) = cQ (cy 7) 10 (pR 10 (qa 0)) := by rw [eF3, va_up_ne _ _ (pl_ne hF0 hFt rfl)]; exact hF0
  have hFqa81_3 : F3 (qa 8 1) = cQ (cy 5) 6 (pR 6 (qa 1)) := by rw [eF3, va_up_ne _ _ (pl_ne hF1 hFt rfl)]; exact hF1
  have hFqa82_3 : F3 (qa 8 2) = cQ (cy 6) 8 (pR 8 (qa 2)) := by rw [eF3, va_up_ne _ _ (pl_ne hF2 hFt rfl)]; exact hF2
  have hFqa83_3 : F3 (qa 8 3) = cQ (cy 9) 30 (pR Pp.1.toInt.toNat (qa 7)) := by rw [eF3, va_up_ne _ _ (pl_ne hFs hFt rfl)]; exact hFs
  have hFqa84_3 : F3 (qa 8 4) = cQ (cy 8) 5 (pR 5 (qa 4)) := by rw [eF3, va_up_ne _ _ (pl_ne hF4 hFt rfl)]; exact hF4
  have hFqa85_3 : F3 (qa 8 5) = cQ (cy 4) 4 (pR 4 (qa 6)) := by rw [eF3, va_up_ne _ _ (pl_ne hF5 hFt rfl)]; exact hF5
  have hFqa86_3 : F3 (qa 8 6) = cI (cy 1) 6 Xx.2 := by rw [eF3, va_up_ne _ _ (pl_ne hFf hFt rfl)]; exact hFf
  have hFqa0ti_3 : F3 (qa 0 ti) = .inr (4, [.int lane, .long (q_holdW lane v2), .double rlt]) := by rw [eF3]; exact va_up_self _ _ _
  have hR4 : Rep cy L o qa (setM Mm ti lane (q_holdW lane (rkL 2 a b))) Dd Sl Pp Kr Bk Xx F3 := by rw [eF3, ev2]; exact hR.meter hti (hold_ok (x := rkL 2 a b) hlane hokt.ne)
  refine lv_aload_n hx hb dX8_reckonWholes_98 rfl (lv_at hl 1 rfl) ?_
  refine lv_iload_n hx hb dX8_reckonWholes_99 rfl (lv_at hl 3 rfl) ?_
  refine va_calli (va_runV (As := [.int lane]) (rest := []) ⟨hx, hb, hml, hown, hts⟩ (c_succeed l G cy L F3 H.size o qa (setM Mm ti lane (q_holdW lane (rkL 2 a b))) Dd Sl Pp Kr Bk Xx hR4 lane) (cwV 1 hts gX8_reckonWholes_X8_succeed rfl rfl rfl (by decide +kernel) ⟨Nat.le_of_ble_eq_true rfl, Nat.le_of_ble_eq_true rfl⟩) (preV_of okQ (⟨rfl, hP, hK, hD.top⟩) (pl_recv hK hP (ci := 7) rfl hmo hFo_3)) rfl rfl hl.1 rfl (lv_room (Nat.le_of_ble_eq_true rfl)) dX8_reckonWholes_100 ⟨Nat.le_of_ble_eq_true rfl, Nat.le_of_ble_eq_true rfl⟩) hS (fun q _ h => pl_free hD hS hA q h) (pl_free hD hS hA) (fun r6 F5 t H1 locs ht hvm hw hP1 hz1 hk1 hS => ?_)
  have hP1 : va_P G vwCl (va_pl L F5) t.heap := hP1
  rw [ht] at hP1
  have hP := hP1
  generalize H1 = H at hP hS ⊢
  obtain ⟨hqr6, hR7⟩ := hw
  exact W.iret (v := r6) hx hb hr (fun t ht hW => ⟨⟨r6, F5, rfl, (by have hsp : rkW 2 Mm Xx lane a b ti = (lane, setM Mm ti lane (q_holdW lane (rkL 2 a b)), goodX Xx) := (if_neg (fun q => absurd q.1 (by decide))); rw [hsp]; exact ⟨hqr6, hR7⟩), (by show va_P _ _ _ t.heap; rw [ht]; exact hP)⟩, hS.F ht⟩) hS.2.2 dX8_reckonWholes_103

set_option maxHeartbeats 8000000 in
set_option maxRecDepth 100000 in
theorem c_rkW_3 (l : Launch) (G : va_G) (cy : Nat → ClassId) (L : List Nat) (F : Nat → va_E) (sz : Nat) (o : Nat) (qa : Nat → Nat → Nat) (Mm : SM) (Dd : SD) (Sl : SL) (Pp : SP) (Kr : SR) (Bk : SB) (Xx : SX) (hR : Rep cy L o qa Mm Dd Sl Pp Kr Bk Xx F) (lane : Int32) (a b : Int64) (ti : Nat) (hti : ti < 10) (hlane : lane = 0 ∨ lane = 1)  : Met l yX8_reckonWholes wsX8_reckonWholes ({ frames := 1, cells := 0, slots := 0, locals := 23 }) (va_Pc [.ref o, .int 3, .int lane, .long a, .long b, .ref (qa 0 ti)] (fun U => bQ G cy L F sz U U.heap)) (va_Qi (fun (r : Int32) (F' : Nat → va_E) => r = (rkW 3 Mm Xx lane a b ti).1 ∧ Rep cy L o qa (rkW 3 Mm Xx lane a b ti).2.1 Dd Sl Pp Kr Bk (rkW 3 Mm Xx lane a b ti).2.2 F') (fun F' t => va_P G vwCl (va_pl L F') t.heap) (va_A (va_pl L F) sz)) 0 0 (va_A (va_pl L F) sz) := by
  refine Met.ofW (cc := cX8_reckonWholes) (maxL := 10) (ret := (some .int)) (by decide) rfl ?_
  intro p e s m args below meth c s₁ B hml hv
  obtain ⟨rfl, hsz, hP, hK, hD0⟩ := hv
  have hx := B.exec
  have hb := B.bytes
  have hr := B.returns
  have hts := atoms_spec (ws := wsX8_reckonWholes) B.pre
  have hown : s.vm.findClass RX8 = some m.cls := findClass_of_methodNamed B.named
  have hlocks := B.notSynchronized
  have hinX8 : ∀ w ∈ wsX80, w ∈ wsX8_reckonWholes := by decide +kernel
  have hinX4 : ∀ w ∈ wsX40, w ∈ wsX8_reckonWholes := by decide +kernel
  subst hsz
  have hD := hD0.self F s.heap.size
  generalize hAe : va_A (va_pl L F) s.heap.size = A at hD ⊢
  have hA : ∀ q : Nat, s.heap.size ≤ q → A q := fun q h => by rw [← hAe]; exact Or.inr h
  have hS : va_S A s.heap s.heap [] := va_S.rf
  obtain ⟨⟨⟨hmo, hFo⟩, ⟨hmf, hFf⟩, hms, hFs⟩, ⟨⟨hm0, hF0⟩, ⟨hm1, hF1⟩, ⟨hm2, hF2⟩, ⟨hm4, hF4⟩, hm5, hF5⟩, hRM, hRD, hRG, hRP, hRR, hRB, hRI⟩ := id hR
  obtain ⟨hmt, nmt, rlt, hFt, hokt⟩ := hRM ti hti
  have hl := lv_entry ([.ref o, .int 3, .int lane, .long a, .long b, .ref (qa 0 ti)]) (n := 10) (Nat.le_of_ble_eq_true rfl)
  rw [lg_entry_eq]
  generalize (lg_sl ([.ref o, .int 3, .int lane, .long a, .long b, .ref (qa 0 ti)]) ++ List.replicate (10 - (lg_sl ([.ref o, .int 3, .int lane, .long a, .long b, .ref (qa 0 ti)])).length) Slot.unset).toArray = ls at hl ⊢
  have hl : lv_has ls 10 [(0, .ref o), (1, .int 3), (2, .int lane), (3, .long a), (5, .long b), (7, .ref (qa 0 ti))] := hl
  refine lv_iload_n hx hb dX8_reckonWholes_0 rfl (lv_at hl 1 rfl) ?_
  refine lv_iconst (v := 3) hx hb dX8_reckonWholes_1 (by decide) ?_
  refine lv_icmp_lt (tgt := 18) hx hb dX8_reckonWholes_2 (by decide) (fun c1 => absurd c1 (by decide)) (fun c1 => ?_)
  refine lv_lload hx hb dX8_reckonWholes_5 (lv_at hl 4 rfl) ?_
  refine lv_lconst (v := 0) hx hb dX8_reckonWholes_7 (by decide) ?_
  refine W.lcmp hx hb dX8_reckonWholes_8 ?_
  refine lv_if_ne (tgt := 18) hx hb dX8_reckonWholes_9 (by decide) (fun c2 => ?_) (fun c2 => ?_)
  · refine lv_iload_n hx hb dX8_reckonWholes_18 rfl (lv_at hl 1 rfl) ?_
    refine lv_tableIn (off := 56) (tgt := 75) hx hb dX8_reckonWholes_19 (by decide) (by decide) (by decide) (by decide) ?_
    refine lv_lload_n hx hb dX8_reckonWholes_75 rfl (lv_at hl 3 rfl) ?_
    refine lv_lload hx hb dX8_reckonWholes_76 (lv_at hl 4 rfl) ?_
    refine lv_ldiv hx hb dX8_reckonWholes_78 (fun q => c2 (by rw [lg_cmp_eq]; exact q)) ?_
    refine lv_topl (fun v3 ev3 => ?_)
    refine lv_lstore (lv' := [(8, .long v3), (0, .ref o), (1, .int 3), (2, .int lane), (3, .long a), (5, .long b), (7, .ref (qa 0 ti))]) hx hb dX8_reckonWholes_79 hl (by decide) rfl (fun ls hl => ?_)
    refine lv_goto (tgt := 90) hx hb dX8_reckonWholes_81 (by decide) ?_
    refine lv_aload hx hb dX8_reckonWholes_90 (lv_at hl 6 rfl) ?_
    refine lv_iload_n hx hb dX8_reckonWholes_92 rfl (lv_at hl 3 rfl) ?_
    refine lv_lload hx hb dX8_reckonWholes_93 (lv_at hl 0 rfl) ?_
    refine va_callv (va_runV (As := [.int lane, .long v3]) (rest := []) ⟨hx, hb, hml, hown, hts⟩ (c_holdWhole l G cy L F s.heap.size (qa 0 ti) (Mm.1 ti) nmt rlt hmt hFt lane v3) (cwV 2 hts gX8_reckonWholes_X4_holdWhole rfl rfl rfl (by decide +kernel) ⟨Nat.le_of_ble_eq_true rfl, Nat.le_of_ble_eq_true rfl⟩) (preV_of okQ (⟨rfl, hP, hK, hD.top⟩) (pl_recv hK hP (ci := 4) rfl hmt hFt)) rfl rfl hl.1 rfl (lv_room (Nat.le_of_ble_eq_true rfl)) dX8_reckonWholes_95 ⟨Nat.le_of_ble_eq_true rfl, Nat.le_of_ble_eq_true rfl⟩) hS (fun q _ h => pl_free hD hS hA q h) (pl_free hD hS hA) (fun F4 t H1 locs ht hvm hw hP1 hz1 hk1 hS => ?_)
    have hP1 : va_P G vwCl (va_pl L F4) t.heap := hP1
    rw [ht] at hP1
    have hP := hP1
    generalize H1 = H at hP hS ⊢
    have eF4 : F4 = va_up F (qa 0 ti) (.inr (4, [.int lane, .long (q_holdW lane v3), .double rlt])) := hw
    have hFo_4 : F4 o = .inr (7, [.ref (qa 8 0), .ref (qa 8 1), .ref (qa 8 2), .ref (qa 8 3), .ref (qa 8 4), .ref (qa 8 5), .ref (qa 8 6), .int Pp.1, .int Xx.1]) := by rw [eF4, va_up_ne _ _ (pl_ne hFo hFt rfl)]; exact hFo
    have hFqa80_4 : F4 (qa 8 0) = cQ (cy 7) 10 (pR 10 (qa 0)) := by rw [eF4, va_up_ne _ _ (pl_ne hF0 hFt rfl)]; exact hF0
    have hFqa81_4 : F4 (qa 8 1) = cQ (cy 5) 6 (pR 6 (qa 1)) := by rw [eF4, va_up_ne _ _ (pl_ne hF1 hFt rfl)]; exact hF1
    have hFqa82_4 : F4 (qa 8 2) = cQ (cy 6) 8 (pR 8 (qa 2)) := by rw [eF4, va_up_ne _ _ (pl_ne hF2 hFt rfl)]; exact hF2
    have hFqa83_4 : F4 (qa 8 3) = cQ (cy 9) 30 (pR Pp.1.toInt.toNat (qa 7)) := by rw [eF4, va_up_ne _ _ (pl_ne hFs hFt rfl)]; exact hFs
    have hFqa84_4 : F4 (qa 8 4) = cQ (cy 8) 5 (pR 5 (qa 4)) := by rw [eF4, va_up_ne _ _ (pl_ne hF4 hFt rfl)]; exact hF4
    have hFqa85_4 : F4 (qa 8 5) = cQ (cy 4) 4 (pR 4 (qa 6)) := by rw [eF4, va_up_ne _ _ (pl_ne hF5 hFt rfl)]; exact hF5
    have hFqa86_4 : F4 (qa 8 6) = cI (cy 1) 6 Xx.2 := by rw [eF4, va_up_ne _ _ (pl_ne hFf hFt rfl)]; exact hFf
    have hFqa0ti_4 : F4 (qa 0 ti) = .inr (4, [.int lane, .long (q_holdW lane v3), .double rlt]) := by rw [eF4]; exact va_up_self _ _ _
    have hR5 : Rep cy L o qa (setM Mm ti lane (q_holdW lane (rkL 3 a b))) Dd Sl Pp Kr Bk Xx F4 := by rw [eF4, ev3]; exact hR.meter hti (hold_ok (x := rkL 3 a b) hlane hokt.ne)
    refine lv_aload_n hx hb dX8_reckonWholes_98 rfl (lv_at hl 1 rfl) ?_
    refine lv_iload_n hx hb dX8_reckonWholes_99 rfl (lv_at hl 3 rfl) ?_
    refine va_calli (va_runV (As := [.int lane]) (rest := []) ⟨hx, hb, hml, hown, hts⟩ (c_succeed l G cy L F4 H.size o qa (setM Mm ti lane (q_holdW lane (rkL 3 a b))) Dd Sl Pp Kr Bk Xx hR5 lane) (cwV 1 hts gX8_reckonWholes_X8_succeed rfl rfl rfl (by decide +kernel) ⟨Nat.le_of_ble_eq_true rfl, Nat.le_of_ble_eq_true rfl⟩) (preV_of okQ (⟨rfl, hP, hK, hD.top⟩) (pl_recv hK hP (ci := 7) rfl hmo hFo_4)) rfl rfl hl.1 rfl (lv_room (Nat.le_of_ble_eq_true rfl)) dX8_reckonWholes_100 ⟨Nat.le_of_ble_eq_true rfl, Nat.le_of_ble_eq_true rfl⟩) hS (fun q _ h => pl_free hD hS hA q h) (pl_free hD hS hA) (fun r7 F6 t H1 locs ht hvm hw hP1 hz1 hk1 hS => ?_)
    have hP1 : va_P G vwCl (va_pl L F6) t.heap := hP1
    rw [ht] at hP1
    have hP := hP1
    generalize H1 = H at hP hS ⊢
    obtain ⟨hqr7, hR8⟩ := hw
    exact W.iret (v := r7) hx hb hr (fun t ht hW => ⟨⟨r7, F6, rfl, (by have hsp : rkW 3 Mm Xx lane a b ti = (lane, setM Mm ti lane (q_holdW lane (rkL 3 a b)), goodX Xx) := (if_neg (fun q => c2 (by rw [lg_cmp_eq]; exact q.2))); rw [hsp]; exact ⟨hqr7, hR8⟩), (by show va_P _ _ _ t.heap; rw [ht]; exact hP)⟩, hS.F ht⟩) hS.2.2 dX8_reckonWholes_103
  · refine lv_aload_n hx hb dX8_reckonWholes_12 rfl (lv_at hl 0 rfl) ?_
    refine lv_iconst (v := 4) hx hb dX8_reckonWholes_13 (by decide) ?_
    refine va_calli (va_runV (As := [.int 4]) (rest := []) ⟨hx, hb, hml, hown, hts⟩ (c_fail_4 l G cy L F s.heap.size o qa Mm Dd Sl Pp Kr Bk Xx hR) (cwV 1 hts gX8_reckonWholes_X8_fail rfl rfl rfl (by decide +kernel) ⟨Nat.le_of_ble_eq_true rfl, Nat.le_of_ble_eq_true rfl⟩) (preV_of okQ (⟨rfl, hP, hK, hD.top⟩) (pl_recv hK hP (ci := 7) rfl hmo hFo)) rfl rfl hl.1 rfl (lv_room (Nat.le_of_ble_eq_true rfl)) dX8_reckonWholes_14 ⟨Nat.le_of_ble_eq_true rfl, Nat.le_of_ble_eq_true rfl⟩) hS (fun q _ h => pl_free hD hS hA q h) (pl_free hD hS hA) (fun r10 F9 t H1 locs ht hvm hw hP1 hz1 hk1 hS => ?_)
    have hP1 : va_P G vwCl (va_pl L F9) t.heap := hP1
    rw [ht] at hP1
    have hP := hP1
    generalize H1 = H at hP hS ⊢
    obtain ⟨hqr10, hR11⟩ := hw
    exact W.iret (v := r10) hx hb hr (fun t ht hW => ⟨⟨r10, F9, rfl, (by have hsp : rkW 3 Mm Xx lane a b ti = (-14, Mm, failX Xx 4) := (if_pos ⟨by decide, by have hc := c2; rw [lg_cmp_eq] at hc; exact hc⟩); rw [hsp]; exact ⟨hqr10, hR11⟩), (by show va_P _ _ _ t.heap; rw [ht]; exact hP)⟩, hS.F ht⟩) hS.2.2 dX8_reckonWholes_17

set_option maxHeartbeats 8000000 in
set_option maxRecDepth 100000 in
theorem c_rkW_4 (l : Launch) (G : va_G) (cy : Nat → ClassId) (L : List Nat) (F : Nat → va_E) (sz : Nat) (o : Nat) (qa : Nat → Nat → Nat) (Mm : SM) (Dd : SD) (Sl : SL) (Pp : SP) (Kr : SR) (Bk : SB) (Xx : SX) (hR : Rep cy L o qa Mm Dd Sl Pp Kr Bk Xx F) (lane : Int32) (a b : Int64) (ti : Nat) (hti : ti < 10) (hlane : lane = 0 ∨ lane = 1)  : Met l yX8_reckonWholes wsX8_reckonWholes ({ frames := 1, cells := 0, slots := 0, locals := 23 }) (va_Pc [.ref o, .int 4, .int lane, .long a, .long b, .ref (qa 0 ti)] (fun U => bQ G cy L F sz U U.heap)) (va_Qi (fun (r : Int32) (F' : Nat → va_E) => r = (rkW 4 Mm Xx lane a b ti).1 ∧ Rep cy L o qa (rkW 4 Mm Xx lane a b ti).2.1 Dd Sl Pp Kr Bk (rkW 4 Mm Xx lane a b ti).2.2 F') (fun F' t => va_P G vwCl (va_pl L F') t.heap) (va_A (va_pl L F) sz)) 0 0 (va_A (va_pl L F) sz) := by
  refine Met.ofW (cc := cX8_reckonWholes) (maxL := 10) (ret := (some .int)) (by decide) rfl ?_
  intro p e s m args below meth c s₁ B hml hv
  obtain ⟨rfl, hsz, hP, hK, hD0⟩ := hv
  have hx := B.exec
  have hb := B.bytes
  have hr := B.returns
  have hts := atoms_spec (ws := wsX8_reckonWholes) B.pre
  have hown : s.vm.findClass RX8 = some m.cls := findClass_of_methodNamed B.named
  have hlocks := B.notSynchronized
  have hinX8 : ∀ w ∈ wsX80, w ∈ wsX8_reckonWholes := by decide +kernel
  have hinX4 : ∀ w ∈ wsX40, w ∈ wsX8_reckonWholes := by decide +kernel
  subst hsz
  have hD := hD0.self F s.heap.size
  generalize hAe : va_A (va_pl L F) s.heap.size = A at hD ⊢
  have hA : ∀ q : Nat, s.heap.size ≤ q → A q := fun q h => by rw [← hAe]; exact Or.inr h
  have hS : va_S A s.heap s.heap [] := va_S.rf
  obtain ⟨⟨⟨hmo, hFo⟩, ⟨hmf, hFf⟩, hms, hFs⟩, ⟨⟨hm0, hF0⟩, ⟨hm1, hF1⟩, ⟨hm2, hF2⟩, ⟨hm4, hF4⟩, hm5, hF5⟩, hRM, hRD, hRG, hRP, hRR, hRB, hRI⟩ := id hR
  obtain ⟨hmt, nmt, rlt, hFt, hokt⟩ := hRM ti hti
  have hl := lv_entry ([.ref o, .int 4, .int lane, .long a, .long b, .ref (qa 0 ti)]) (n := 10) (Nat.le_of_ble_eq_true rfl)
  rw [lg_entry_eq]
  generalize (lg_sl ([.ref o, .int 4, .int lane, .long a, .long b, .ref (qa 0 ti)]) ++ List.replicate (10 - (lg_sl ([.ref o, .int 4, .int lane, .long a, .long b, .ref (qa 0 ti)])).length) Slot.unset).toArray = ls at hl ⊢
  have hl : lv_has ls 10 [(0, .ref o), (1, .int 4), (2, .int lane), (3, .long a), (5, .long b), (7, .ref (qa 0 ti))] := hl
  refine lv_iload_n hx hb dX8_reckonWholes_0 rfl (lv_at hl 1 rfl) ?_
  refine lv_iconst (v := 3) hx hb dX8_reckonWholes_1 (by decide) ?_
  refine lv_icmp_lt (tgt := 18) hx hb dX8_reckonWholes_2 (by decide) (fun c1 => absurd c1 (by decide)) (fun c1 => ?_)
  refine lv_lload hx hb dX8_reckonWholes_5 (lv_at hl 4 rfl) ?_
  refine lv_lconst (v := 0) hx hb dX8_reckonWholes_7 (by decide) ?_
  refine W.lcmp hx hb dX8_reckonWholes_8 ?_
  refine lv_if_ne (tgt := 18) hx hb dX8_reckonWholes_9 (by decide) (fun c2 => ?_) (fun c2 => ?_)
  · refine lv_iload_n hx hb dX8_reckonWholes_18 rfl (lv_at hl 1 rfl) ?_
    refine lv_tableOut (tgt := 84) hx hb dX8_reckonWholes_19 (by decide) (by decide) ?_
    refine lv_lload_n hx hb dX8_reckonWholes_84 rfl (lv_at hl 3 rfl) ?_
    refine lv_lload hx hb dX8_reckonWholes_85 (lv_at hl 4 rfl) ?_
    refine lv_lrem hx hb dX8_reckonWholes_87 (fun q => c2 (by rw [lg_cmp_eq]; exact q)) ?_
    refine lv_topl (fun v3 ev3 => ?_)
    refine lv_lstore (lv' := [(8, .long v3), (0, .ref o), (1, .int 4), (2, .int lane), (3, .long a), (5, .long b), (7, .ref (qa 0 ti))]) hx hb dX8_reckonWholes_88 hl (by decide) rfl (fun ls hl => ?_)
    refine lv_aload hx hb dX8_reckonWholes_90 (lv_at hl 6 rfl) ?_
    refine lv_iload_n hx hb dX8_reckonWholes_92 rfl (lv_at hl 3 rfl) ?_
    refine lv_lload hx hb dX8_reckonWholes_93 (lv_at hl 0 rfl) ?_
    refine va_callv (va_runV (As := [.int lane, .long v3]) (rest := []) ⟨hx, hb, hml, hown, hts⟩ (c_holdWhole l G cy L F s.heap.size (qa 0 ti) (Mm.1 ti) nmt rlt hmt hFt lane v3) (cwV 2 hts gX8_reckonWholes_X4_holdWhole rfl rfl rfl (by decide +kernel) ⟨Nat.le_of_ble_eq_true rfl, Nat.le_of_ble_eq_true rfl⟩) (preV_of okQ (⟨rfl, hP, hK, hD.top⟩) (pl_recv hK hP (ci := 4) rfl hmt hFt)) rfl rfl hl.1 rfl (lv_room (Nat.le_of_ble_eq_true rfl)) dX8_reckonWholes_95 ⟨Nat.le_of_ble_eq_true rfl, Nat.le_of_ble_eq_true rfl⟩) hS (fun q _ h => pl_free hD hS hA q h) (pl_free hD hS hA) (fun F4 t H1 locs ht hvm hw hP1 hz1 hk1 hS => ?_)
    have hP1 : va_P G vwCl (va_pl L F4) t.heap := hP1
    rw [ht] at hP1
    have hP := hP1
    generalize H1 = H at hP hS ⊢
    have eF4 : F4 = va_up F (qa 0 ti) (.inr (4, [.int lane, .long (q_holdW lane v3), .double rlt])) := hw
    have hFo_4 : F4 o = .inr (7, [.ref (qa 8 0), .ref (qa 8 1), .ref (qa 8 2), .ref (qa 8 3), .ref (qa 8 4), .ref (qa 8 5), .ref (qa 8 6), .int Pp.1, .int Xx.1]) := by rw [eF4, va_up_ne _ _ (pl_ne hFo hFt rfl)]; exact hFo
    have hFqa80_4 : F4 (qa 8 0) = cQ (cy 7) 10 (pR 10 (qa 0)) := by rw [eF4, va_up_ne _ _ (pl_ne hF0 hFt rfl)]; exact hF0
    have hFqa81_4 : F4 (qa 8 1) = cQ (cy 5) 6 (pR 6 (qa 1)) := by rw [eF4, va_up_ne _ _ (pl_ne hF1 hFt rfl)]; exact hF1
    have hFqa82_4 : F4 (qa 8 2) = cQ (cy 6) 8 (pR 8 (qa 2)) := by rw [eF4, va_up_ne _ _ (pl_ne hF2 hFt rfl)]; exact hF2
    have hFqa83_4 : F4 (qa 8 3) = cQ (cy 9) 30 (pR Pp.1.toInt.toNat (qa 7)) := by rw [eF4, va_up_ne _ _ (pl_ne hFs hFt rfl)]; exact hFs
    have hFqa84_4 : F4 (qa 8 4) = cQ (cy 8) 5 (pR 5 (qa 4)) := by rw [eF4, va_up_ne _ _ (pl_ne hF4 hFt rfl)]; exact hF4
    have hFqa85_4 : F4 (qa 8 5) = cQ (cy 4) 4 (pR 4 (qa 6)) := by rw [eF4, va_up_ne _ _ (pl_ne hF5 hFt rfl)]; exact hF5
    have hFqa86_4 : F4 (qa 8 6) = cI (cy 1) 6 Xx.2 := by rw [eF4, va_up_ne _ _ (pl_ne hFf hFt rfl)]; exact hFf
    have hFqa0ti_4 : F4 (qa 0 ti) = .inr (4, [.int lane, .long (q_holdW lane v3), .double rlt]) := by rw [eF4]; exact va_up_self _ _ _
    have hR5 : Rep cy L o qa (setM Mm ti lane (q_holdW lane (rkL 4 a b))) Dd Sl Pp Kr Bk Xx F4 := by rw [eF4, ev3]; exact hR.meter hti (hold_ok (x := rkL 4 a b) hlane hokt.ne)
    refine lv_aload_n hx hb dX8_reckonWholes_98 rfl (lv_at hl 1 rfl) ?_
    refine lv_iload_n hx hb dX8_reckonWholes_99 rfl (lv_at hl 3 rfl) ?_
    refine va_calli (va_runV (As := [.int lane]) (rest := []) ⟨hx, hb, hml, hown, hts⟩ (c_succeed l G cy L F4 H.size o qa (setM Mm ti lane (q_holdW lane (rkL 4 a b))) Dd Sl Pp Kr Bk Xx hR5 lane) (cwV 1 hts gX8_reckonWholes_X8_succeed rfl rfl rfl (by decide +kernel) ⟨Nat.le_of_ble_eq_true rfl, Nat.le_of_ble_eq_true rfl⟩) (preV_of okQ (⟨rfl, hP, hK, hD.top⟩) (pl_recv hK hP (ci := 7) rfl hmo hFo_4)) rfl rfl hl.1 rfl (lv_room (Nat.le_of_ble_eq_true rfl)) dX8_reckonWholes_100 ⟨Nat.le_of_ble_eq_true rfl, Nat.le_of_ble_eq_true rfl⟩) hS (fun q _ h => pl_free hD hS hA q h) (pl_free hD hS hA) (fun r7 F6 t H1 locs ht hvm hw hP1 hz1 hk1 hS => ?_)
    have hP1 : va_P G vwCl (va_pl L F6) t.heap := hP1
    rw [ht] at hP1
    have hP := hP1
    generalize H1 = H at hP hS ⊢
    obtain ⟨hqr7, hR8⟩ := hw
    exact W.iret (v := r7) hx hb hr (fun t ht hW => ⟨⟨r7, F6, rfl, (by have hsp : rkW 4 Mm Xx lane a b ti = (lane, setM Mm ti lane (q_holdW lane (rkL 4 a b)), goodX Xx) := (if_neg (fun q => c2 (by rw [lg_cmp_eq]; exact q.2))); rw [hsp]; exact ⟨hqr7, hR8⟩), (by show va_P _ _ _ t.heap; rw [ht]; exact hP)⟩, hS.F ht⟩) hS.2.2 dX8_reckonWholes_103
  · refine lv_aload_n hx hb dX8_reckonWholes_12 rfl (lv_at hl 0 rfl) ?_
    refine lv_iconst (v := 4) hx hb dX8_reckonWholes_13 (by decide) ?_
    refine va_calli (va_runV (As := [.int 4]) (rest := []) ⟨hx, hb, hml, hown, hts⟩ (c_fail_4 l G cy L F s.heap.size o qa Mm Dd Sl Pp Kr Bk Xx hR) (cwV 1 hts gX8_reckonWholes_X8_fail rfl rfl rfl (by decide +kernel) ⟨Nat.le_of_ble_eq_true rfl, Nat.le_of_ble_eq_true rfl⟩) (preV_of okQ (⟨rfl, hP, hK, hD.top⟩) (pl_recv hK hP (ci := 7) rfl hmo hFo)) rfl rfl hl.1 rfl (lv_room (Nat.le_of_ble_eq_true rfl)) dX8_reckonWholes_14 ⟨Nat.le_of_ble_eq_true rfl, Nat.le_of_ble_eq_true rfl⟩) hS (fun q _ h => pl_free hD hS hA q h) (pl_free hD hS hA) (fun r10 F9 t H1 locs ht hvm hw hP1 hz1 hk1 hS => ?_)
    have hP1 : va_P G vwCl (va_pl L F9) t.heap := hP1
    rw [ht] at hP1
    have hP := hP1
    generalize H1 = H at hP hS ⊢
    obtain ⟨hqr10, hR11⟩ := hw
    exact W.iret (v := r10) hx hb hr (fun t ht hW => ⟨⟨r10, F9, rfl, (by have hsp : rkW 4 Mm Xx lane a b ti = (-14, Mm, failX Xx 4) := (if_pos ⟨by decide, by have hc := c2; rw [lg_cmp_eq] at hc; exact hc⟩); rw [hsp]; exact ⟨hqr10, hR11⟩), (by show va_P _ _ _ t.heap; rw [ht]; exact hP)⟩, hS.F ht⟩) hS.2.2 dX8_reckonWholes_17

set_option maxHeartbeats 8000000 in
set_option maxRecDepth 100000 in
theorem m_reckon_no (l : Launch) (G : va_G) (cy : Nat → ClassId) (L : List Nat) (F : Nat → va_E) (ad : Nat → Nat) (sz : Nat) (o : Nat) (qa : Nat → Nat → Nat) (Mm : SM) (Dd : SD) (Sl : SL) (Pp : SP) (Kr : SR) (Bk : SB) (Xx : SX) (hR : Rep cy L o qa Mm Dd Sl Pp Kr Bk Xx F) (act x y into : Int32) (hact : ix 5 act = none)  : Met l yX8_reckon wsX8_reckon ({ frames := 5, cells := 0, slots := 0, locals := 133 }) (va_Pc [.ref o, .int act, .int x, .int y, .int into] (fun U => bQE G cy L F ad sz U U.heap)) (va_Qi (fun (r : Int32) (F' : Nat → va_E) => r = (sp_reckon Mm Xx act x y into).1 ∧ Rep cy L o qa (sp_reckon Mm Xx act x y into).2.1 Dd Sl Pp Kr Bk (sp_reckon Mm Xx act x y into).2.2 F') (fun F' t => va_P G vwCl (va_pl L F') t.heap) (va_A (va_pl L F) sz)) 0 0 (va_A (va_pl L F) sz) := by
  refine Met.ofW (cc := cX8_reckon) (maxL := 11) (ret := (some .int)) (by decide) rfl ?_
  intro p e s m args below meth c s₁ B hml hv
  obtain ⟨rfl, ⟨hsz, hP, hK, hD0⟩, hE, hN⟩ := hv
  have hx := B.exec
  have hb := B.bytes
  have hr := B.returns
  have hts := atoms_spec (ws := wsX8_reckon) B.pre
  have hown : s.vm.findClass RX8 = some m.cls := findClass_of_methodNamed B.named
  have hlocks := B.notSynchronized
  have hinX8 : ∀ w ∈ wsX80, w ∈ wsX8_reckon := by decide +kernel
  have hinX4 : ∀ w ∈ wsX40, w ∈ wsX8_reckon := by decide +kernel
  subst hsz
  have hD := hD0.self F s.heap.size
  generalize hAe : va_A (va_pl L F) s.heap.size = A at hD hE ⊢
  have hA : ∀ q : Nat, s.heap.size ≤ q → A q := fun q h => by rw [← hAe]; exact Or.inr h
  have hS : va_S A s.heap s.heap [] := va_S.rf
  obtain ⟨⟨⟨hmo, hFo⟩, ⟨hmf, hFf⟩, hms, hFs⟩, ⟨⟨hm0, hF0⟩, ⟨hm1, hF1⟩, ⟨hm2, hF2⟩, ⟨hm4, hF4⟩, hm5, hF5⟩, hRM, hRD, hRG, hRP, hRR, hRB, hRI⟩ := id hR
  have hl := lv_entry ([.ref o, .int act, .int x, .int y, .int into]) (n := 11) (Nat.le_of_ble_eq_true rfl)
  rw [lg_entry_eq]
  generalize (lg_sl ([.ref o, .int act, .int x, .int y, .int into]) ++ List.replicate (11 - (lg_sl ([.ref o, .int act, .int x, .int y, .int into])).length) Slot.unset).toArray = ls at hl ⊢
  have hl : lv_has ls 11 [(0, .ref o), (1, .int act), (2, .int x), (3, .int y), (4, .int into)] := hl
  rcases ixc 10 x with hi_x | ⟨j_x, hj_x, hi_x, ei_x⟩
  · rcases ixc 10 y with hi_y | ⟨j_y, hj_y, hi_y, ei_y⟩
    · rcases ixc 10 into with hi_into | ⟨j_into, hj_into, hi_into, ei_into⟩
      · refine lv_aload_n hx hb dX8_reckon_0 rfl (lv_at hl 0 rfl) ?_
        refine lv_iload_n hx hb dX8_reckon_1 rfl (lv_at hl 2 rfl) ?_
        refine va_csq (W.runV (As := [.int x]) (rest := []) ⟨hx, hb, hml, hown, hts⟩ (c_meterOf_no l G cy L F o qa Mm Dd Sl Pp Kr Bk Xx hR x hi_x) (cwV 1 hts gX8_reckon_X8_meterOf rfl rfl rfl (by decide +kernel) ⟨Nat.le_of_ble_eq_true rfl, Nat.le_of_ble_eq_true rfl⟩) (preV_of okP (⟨hP, hK, hD.top⟩) (pl_recv hK hP (ci := 7) rfl hmo hFo)) rfl rfl hl.1 rfl (lv_room (Nat.le_of_ble_eq_true rfl)) dX8_reckon_2 ⟨Nat.le_of_ble_eq_true rfl, Nat.le_of_ble_eq_true rfl⟩) (fun r1 hr1 => ?_)
        subst hr1
        refine W.eq (g2 := F0 m 5 ls [.null]) rfl ?_
        refine lv_astoreN (lv' := [(5, .null), (0, .ref o), (1, .int act), (2, .int x), (3, .int y), (4, .int into)]) hx hb dX8_reckon_5 hl (by decide) rfl (fun ls hl => ?_)
        refine lv_aload_n hx hb dX8_reckon_7 rfl (lv_at hl 1 rfl) ?_
        refine lv_iload_n hx hb dX8_reckon_8 rfl (lv_at hl 4 rfl) ?_
        refine va_csq (W.runV (As := [.int y]) (rest := []) ⟨hx, hb, hml, hown, hts⟩ (c_meterOf_no l G cy L F o qa Mm Dd Sl Pp Kr Bk Xx hR y hi_y) (cwV 1 hts gX8_reckon_X8_meterOf rfl rfl rfl (by decide +kernel) ⟨Nat.le_of_ble_eq_true rfl, Nat.le_of_ble_eq_true rfl⟩) (preV_of okP (⟨hP, hK, hD.top⟩) (pl_recv hK hP (ci := 7) rfl hmo hFo)) rfl rfl hl.1 rfl (lv_room (Nat.le_of_ble_eq_true rfl)) dX8_reckon_9 ⟨Nat.le_of_ble_eq_true rfl, Nat.le_of_ble_eq_true rfl⟩) (fun r2 hr2 => ?_)
        subst hr2
        refine W.eq (g2 := F0 m 12 ls [.null]) rfl ?_
        refine lv_astoreN (lv' := [(6, .null), (5, .null), (0, .ref o), (1, .int act), (2, .int x), (3, .int y), (4, .int into)]) hx hb dX8_reckon_12 hl (by decide) rfl (fun ls hl => ?_)
        refine lv_aload_n hx hb dX8_reckon_14 rfl (lv_at hl 2 rfl) ?_
        refine lv_iload hx hb dX8_reckon_15 (lv_at hl 6 rfl) ?_
        refine va_csq (W.runV (As := [.int into]) (rest := []) ⟨hx, hb, hml, hown, hts⟩ (c_meterOf_no l G cy L F o qa Mm Dd Sl Pp Kr Bk Xx hR into hi_into) (cwV 1 hts gX8_reckon_X8_meterOf rfl rfl rfl (by decide +kernel) ⟨Nat.le_of_ble_eq_true rfl, Nat.le_of_ble_eq_true rfl⟩) (preV_of okP (⟨hP, hK, hD.top⟩) (pl_recv hK hP (ci := 7) rfl hmo hFo)) rfl rfl hl.1 rfl (lv_room (Nat.le_of_ble_eq_true rfl)) dX8_reckon_17 ⟨Nat.le_of_ble_eq_true rfl, Nat.le_of_ble_eq_true rfl⟩) (fun r3 hr3 => ?_)
        subst hr3
        refine W.eq (g2 := F0 m 20 ls [.null]) rfl ?_
        refine lv_astoreN (lv' := [(7, .null), (6, .null), (5, .null), (0, .ref o), (1, .int act), (2, .int x), (3, .int y), (4, .int into)]) hx hb dX8_reckon_20 hl (by decide) rfl (fun ls hl => ?_)
        refine lv_aloadN hx hb dX8_reckon_22 (lv_at hl 2 rfl) ?_
        refine lv_ifnullN (tgt := 37) hx hb dX8_reckon_24 (by decide) ?_
        refine lv_sipush (v := -1001) hx hb dX8_reckon_37 (by decide) ?_
        exact W.iret (v := -1001) hx hb hr (fun t ht hW => ⟨⟨-1001, F, rfl, (by have hsp : sp_reckon Mm Xx act x y into = (-1001, Mm, Xx) := (by unfold sp_reckon; rw [hi_x]); rw [hsp]; exact ⟨rfl, hR⟩), (by show va_P _ _ _ t.heap; rw [ht]; exact hP)⟩, hS.F ht⟩) hS.2.2 dX8_reckon_40
      · subst ei_into
        obtain ⟨hmm_into, nm_into, rl_into, hFm_into, hok_into⟩ := hRM j_into hj_into
        refine lv_aload_n hx hb dX8_reckon_0 rfl (lv_at hl 0 rfl) ?_
        refine lv_iload_n hx hb dX8_reckon_1 rfl (lv_at hl 2 rfl) ?_
        refine va_csq (W.runV (As := [.int x]) (rest := []) ⟨hx, hb, hml, hown, hts⟩ (c_meterOf_no l G cy L F o qa Mm Dd Sl Pp Kr Bk Xx hR x hi_x) (cwV 1 hts gX8_reckon_X8_meterOf rfl rfl rfl (by decide +kernel) ⟨Nat.le_of_ble_eq_true rfl, Nat.le_of_ble_eq_true rfl⟩) (preV_of okP (⟨hP, hK, hD.top⟩) (pl_recv hK hP (ci := 7) rfl hmo hFo)) rfl rfl hl.1 rfl (lv_room (Nat.le_of_ble_eq_true rfl)) dX8_reckon_2 ⟨Nat.le_of_ble_eq_true rfl, Nat.le_of_ble_eq_true rfl⟩) (fun r4 hr4 => ?_)
        subst hr4
        refine W.eq (g2 := F0 m 5 ls [.null]) rfl ?_
        refine lv_astoreN (lv' := [(5, .null), (0, .ref o), (1, .int act), (2, .int x), (3, .int y), (4, .int (nI j_into))]) hx hb dX8_reckon_5 hl (by decide) rfl (fun ls hl => ?_)
        refine lv_aload_n hx hb dX8_reckon_7 rfl (lv_at hl 1 rfl) ?_
        refine lv_iload_n hx hb dX8_reckon_8 rfl (lv_at hl 4 rfl) ?_
        refine va_csq (W.runV (As := [.int y]) (rest := []) ⟨hx, hb, hml, hown, hts⟩ (c_meterOf_no l G cy L F o qa Mm Dd Sl Pp Kr Bk Xx hR y hi_y) (cwV 1 hts gX8_reckon_X8_meterOf rfl rfl rfl (by decide +kernel) ⟨Nat.le_of_ble_eq_true rfl, Nat.le_of_ble_eq_true rfl⟩) (preV_of okP (⟨hP, hK, hD.top⟩) (pl_recv hK hP (ci := 7) rfl hmo hFo)) rfl rfl hl.1 rfl (lv_room (Nat.le_of_ble_eq_true rfl)) dX8_reckon_9 ⟨Nat.le_of_ble_eq_true rfl, Nat.le_of_ble_eq_true rfl⟩) (fun r5 hr5 => ?_)
        subst hr5
        refine W.eq (g2 := F0 m 12 ls [.null]) rfl ?_
        refine lv_astoreN (lv' := [(6, .null), (5, .null), (0, .ref o), (1, .int act), (2, .int x), (3, .int y), (4, .int (nI j_into))]) hx hb dX8_reckon_12 hl (by decide) rfl (fun ls hl => ?_)
        refine lv_aload_n hx hb dX8_reckon_14 rfl (lv_at hl 2 rfl) ?_
        refine lv_iload hx hb dX8_reckon_15 (lv_at hl 6 rfl) ?_
        refine va_csq (W.runV (As := [.int (nI j_into)]) (rest := []) ⟨hx, hb, hml, hown, hts⟩ (c_meterOf l G cy L F o qa Mm Dd Sl Pp Kr Bk Xx hR j_into hj_into) (cwV 1 hts gX8_reckon_X8_meterOf rfl rfl rfl (by decide +kernel) ⟨Nat.le_of_ble_eq_true rfl, Nat.le_of_ble_eq_true rfl⟩) (preV_of okP (⟨hP, hK, hD.top⟩) (pl_recv hK hP (ci := 7) rfl hmo hFo)) rfl rfl hl.1 rfl (lv_room (Nat.le_of_ble_eq_true rfl)) dX8_reckon_17 ⟨Nat.le_of_ble_eq_true rfl, Nat.le_of_ble_eq_true rfl⟩) (fun r6 hr6 => ?_)
        subst hr6
        refine W.eq (g2 := F0 m 20 ls [.ref (qa 0 j_into)]) rfl ?_
        refine lv_astore (lv' := [(7, .ref (qa 0 j_into)), (6, .null), (5, .null), (0, .ref o), (1, .int act), (2, .int x), (3, .int y), (4, .int (nI j_into))]) hx hb dX8_reckon_20 hl (by decide) rfl (fun ls hl => ?_)
        refine lv_aloadN hx hb dX8_reckon_22 (lv_at hl 2 rfl) ?_
        refine lv_ifnullN (tgt := 37) hx hb dX8_reckon_24 (by decide) ?_
        refine lv_sipush (v := -1001) hx hb dX8_reckon_37 (by decide) ?_
        exact W.iret (v := -1001) hx hb hr (fun t ht hW => ⟨⟨-1001, F, rfl, (by have hsp : sp_reckon Mm Xx act x y (nI j_into) = (-1001, Mm, Xx) := (by unfold sp_reckon; rw [hi_x]); rw [hsp]; exact ⟨rfl, hR⟩), (by show va_P _ _ _ t.heap; rw [ht]; exact hP)⟩, hS.F ht⟩) hS.2.2 dX8_reckon_40
    · subst ei_y
      obtain ⟨hmm_y, nm_y, rl_y, hFm_y, hok_y⟩ := hRM j_y hj_y
      rcases ixc 10 into with hi_into | ⟨j_into, hj_into, hi_into, ei_into⟩
      · refine lv_aload_n hx hb dX8_reckon_0 rfl (lv_at hl 0 rfl) ?_
        refine lv_iload_n hx hb dX8_reckon_1 rfl (lv_at hl 2 rfl) ?_
        refine va_csq (W.runV (As := [.int x]) (rest := []) ⟨hx, hb, hml, hown, hts⟩ (c_meterOf_no l G cy L F o qa Mm Dd Sl Pp Kr Bk Xx hR x hi_x) (cwV 1 hts gX8_reckon_X8_meterOf rfl rfl rfl (by decide +kernel) ⟨Nat.le_of_ble_eq_true rfl, Nat.le_of_ble_eq_true rfl⟩) (preV_of okP (⟨hP, hK, hD.top⟩) (pl_recv hK hP (ci := 7) rfl hmo hFo)) rfl rfl hl.1 rfl (lv_room (Nat.le_of_ble_eq_true rfl)) dX8_reckon_2 ⟨Nat.le_of_ble_eq_true rfl, Nat.le_of_ble_eq_true rfl⟩) (fun r7 hr7 => ?_)
        subst hr7
        refine W.eq (g2 := F0 m 5 ls [.null]) rfl ?_
        refine lv_astoreN (lv' := [(5, .null), (0, .ref o), (1, .int act), (2, .int x), (3, .int (nI j_y)), (4, .int into)]) hx hb dX8_reckon_5 hl (by decide) rfl (fun ls hl => ?_)
        refine lv_aload_n hx hb dX8_reckon_7 rfl (lv_at hl 1 rfl) ?_
        refine lv_iload_n hx hb dX8_reckon_8 rfl (lv_at hl 4 rfl) ?_
        refine va_csq (W.runV (As := [.int (nI j_y)]) (rest := []) ⟨hx, hb, hml, hown, hts⟩ (c_meterOf l G cy L F o qa Mm Dd Sl Pp Kr Bk Xx hR j_y hj_y) (cwV 1 hts gX8_reckon_X8_meterOf rfl rfl rfl (by decide +kernel) ⟨Nat.le_of_ble_eq_true rfl, Nat.le_of_ble_eq_true rfl⟩) (preV_of okP (⟨hP, hK, hD.top⟩) (pl_recv hK hP (ci := 7) rfl hmo hFo)) rfl rfl hl.1 rfl (lv_room (Nat.le_of_ble_eq_true rfl)) dX8_reckon_9 ⟨Nat.le_of_ble_eq_true rfl, Nat.le_of_ble_eq_true rfl⟩) (fun r8 hr8 => ?_)
        subst hr8
        refine W.eq (g2 := F0 m 12 ls [.ref (qa 0 j_y)]) rfl ?_
        refine lv_astore (lv' := [(6, .ref (qa 0 j_y)), (5, .null), (0, .ref o), (1, .int act), (2, .int x), (3, .int (nI j_y)), (4, .int into)]) hx hb dX8_reckon_12 hl (by decide) rfl (fun ls hl => ?_)
        refine lv_aload_n hx hb dX8_reckon_14 rfl (lv_at hl 2 rfl) ?_
        refine lv_iload hx hb dX8_reckon_15 (lv_at hl 6 rfl) ?_
        refine va_csq (W.runV (As := [.int into]) (rest := []) ⟨hx, hb, hml, hown, hts⟩ (c_meterOf_no l G cy L F o qa Mm Dd Sl Pp Kr Bk Xx hR into hi_into) (cwV 1 hts gX8_reckon_X8_meterOf rfl rfl rfl (by decide +kernel) ⟨Nat.le_of_ble_eq_true rfl, Nat.le_of_ble_eq_true rfl⟩) (preV_of okP (⟨hP, hK, hD.top⟩) (pl_recv hK hP (ci := 7) rfl hmo hFo)) rfl rfl hl.1 rfl (lv_room (Nat.le_of_ble_eq_true rfl)) dX8_reckon_17 ⟨Nat.le_of_ble_eq_true rfl, Nat.le_of_ble_eq_true rfl⟩) (fun r9 hr9 => ?_)
        subst hr9
        refine W.eq (g2 := F0 m 20 ls [.null]) rfl ?_
        refine lv_astoreN (lv' := [(7, .null), (6, .ref (qa 0 j_y)), (5, .null), (0, .ref o), (1, .int act), (2, .int x), (3, .int (nI j_y)), (4, .int into)]) hx hb dX8_reckon_20 hl (by decide) rfl (fun ls hl => ?_)
        refine lv_aloadN hx hb dX8_reckon_22 (lv_at hl 2 rfl) ?_
        refine lv_ifnullN (tgt := 37) hx hb dX8_reckon_24 (by decide) ?_
        refine lv_sipush (v := -1001) hx hb dX8_reckon_37 (by decide) ?_
        exact W.iret (v := -1001) hx hb hr (fun t ht hW => ⟨⟨-1001, F, rfl, (by have hsp : sp_reckon Mm Xx act x (nI j_y) into = (-1001, Mm, Xx) := (by unfold sp_reckon; rw [hi_x]); rw [hsp]; exact ⟨rfl, hR⟩), (by show va_P _ _ _ t.heap; rw [ht]; exact hP)⟩, hS.F ht⟩) hS.2.2 dX8_reckon_40
      · subst ei_into
        obtain ⟨hmm_into, nm_into, rl_into, hFm_into, hok_into⟩ := hRM j_into hj_into
        refine lv_aload_n hx hb dX8_reckon_0 rfl (lv_at hl 0 rfl) ?_
        refine lv_iload_n hx hb dX8_reckon_1 rfl (lv_at hl 2 rfl) ?_
        refine va_csq (W.runV (As := [.int x]) (rest := []) ⟨hx, hb, hml, hown, hts⟩ (c_meterOf_no l G cy L F o qa Mm Dd Sl Pp Kr Bk Xx hR x hi_x) (cwV 1 hts gX8_reckon_X8_meterOf rfl rfl rfl (by decide +kernel) ⟨Nat.le_of_ble_eq_true rfl, Nat.le_of_ble_eq_true rfl⟩) (preV_of okP (⟨hP, hK, hD.top⟩) (pl_recv hK hP (ci := 7) rfl hmo hFo)) rfl rfl hl.1 rfl (lv_room (Nat.le_of_ble_eq_true rfl)) dX8_reckon_2 ⟨Nat.le_of_ble_eq_true rfl, Nat.le_of_ble_eq_true rfl⟩) (fun r10 hr10 => ?_)
        subst hr10
        refine W.eq (g2 := F0 m 5 ls [.null]) rfl ?_
        refine lv_astoreN (lv' := [(5, .null), (0, .ref o), (1, .int act), (2, .int x), (3, .int (nI j_y)), (4, .int (nI j_into))]) hx hb dX8_reckon_5 hl (by decide) rfl (fun ls hl => ?_)
        refine lv_aload_n hx hb dX8_reckon_7 rfl (lv_at hl 1 rfl) ?_
        refine lv_iload_n hx hb dX8_reckon_8 rfl (lv_at hl 4 rfl) ?_
        refine va_csq (W.runV (As := [.int (nI j_y)]) (rest := []) ⟨hx, hb, hml, hown, hts⟩ (c_meterOf l G cy L F o qa Mm Dd Sl Pp Kr Bk Xx hR j_y hj_y) (cwV 1 hts gX8_reckon_X8_meterOf rfl rfl rfl (by decide +kernel) ⟨Nat.le_of_ble_eq_true rfl, Nat.le_of_ble_eq_true rfl⟩) (preV_of okP (⟨hP, hK, hD.top⟩) (pl_recv hK hP (ci := 7) rfl hmo hFo)) rfl rfl hl.1 rfl (lv_room (Nat.le_of_ble_eq_true rfl)) dX8_reckon_9 ⟨Nat.le_of_ble_eq_true rfl, Nat.le_of_ble_eq_true rfl⟩) (fun r11 hr11 => ?_)
        subst hr11
        refine W.eq (g2 := F0 m 12 ls [.ref (qa 0 j_y)]) rfl ?_
        refine lv_astore (lv' := [(6, .ref (qa 0 j_y)), (5, .null), (0, .ref o), (1, .int act), (2, .int x), (3, .int (nI j_y)), (4, .int (nI j_into))]) hx hb dX8_reckon_12 hl (by decide) rfl (fun ls hl => ?_)
        refine lv_aload_n hx hb dX8_reckon_14 rfl (lv_at hl 2 rfl) ?_
        refine lv_iload hx hb dX8_reckon_15 (lv_at hl 6 rfl) ?_
        refine va_csq (W.runV (As := [.int (nI j_into)]) (rest := []) ⟨hx, hb, hml, hown, hts⟩ (c_meterOf l G cy L F o qa Mm Dd Sl Pp Kr Bk Xx hR j_into hj_into) (cwV 1 hts gX8_reckon_X8_meterOf rfl rfl rfl (by decide +kernel) ⟨Nat.le_of_ble_eq_true rfl, Nat.le_of_ble_eq_true rfl⟩) (preV_of okP (⟨hP, hK, hD.top⟩) (pl_recv hK hP (ci := 7) rfl hmo hFo)) rfl rfl hl.1 rfl (lv_room (Nat.le_of_ble_eq_true rfl)) dX8_reckon_17 ⟨Nat.le_of_ble_eq_true rfl, Nat.le_of_ble_eq_true rfl⟩) (fun r12 hr12 => ?_)
        subst hr12
        refine W.eq (g2 := F0 m 20 ls [.ref (qa 0 j_into)]) rfl ?_
        refine lv_astore (lv' := [(7, .ref (qa 0 j_into)), (6, .ref (qa 0 j_y)), (5, .null), (0, .ref o), (1, .int act), (2, .int x), (3, .int (nI j_y)), (4, .int (nI j_into))]) hx hb dX8_reckon_20 hl (by decide) rfl (fun ls hl => ?_)
        refine lv_aloadN hx hb dX8_reckon_22 (lv_at hl 2 rfl) ?_
        refine lv_ifnullN (tgt := 37) hx hb dX8_reckon_24 (by decide) ?_
        refine lv_sipush (v := -1001) hx hb dX8_reckon_37 (by decide) ?_
        exact W.iret (v := -1001) hx hb hr (fun t ht hW => ⟨⟨-1001, F, rfl, (by have hsp : sp_reckon Mm Xx act x (nI j_y) (nI j_into) = (-1001, Mm, Xx) := (by unfold sp_reckon; rw [hi_x]); rw [hsp]; exact ⟨rfl, hR⟩), (by show va_P _ _ _ t.heap; rw [ht]; exact hP)⟩, hS.F ht⟩) hS.2.2 dX8_reckon_40
  · subst ei_x
    obtain ⟨hmm_x, nm_x, rl_x, hFm_x, hok_x⟩ := hRM j_x hj_x
    rcases ixc 10 y with hi_y | ⟨j_y, hj_y, hi_y, ei_y⟩
    · rcases ixc 10 into with hi_into | ⟨j_into, hj_into, hi_into, ei_into⟩
      · refine lv_aload_n hx hb dX8_reckon_0 rfl (lv_at hl 0 rfl) ?_
        refine lv_iload_n hx hb dX8_reckon_1 rfl (lv_at hl 2 rfl) ?_
        refine va_csq (W.runV (As := [.int (nI j_x)]) (rest := []) ⟨hx, hb, hml, hown, hts⟩ (c_meterOf l G cy L F o qa Mm Dd Sl Pp Kr Bk Xx hR j_x hj_x) (cwV 1 hts gX8_reckon_X8_meterOf rfl rfl rfl (by decide +kernel) ⟨Nat.le_of_ble_eq_true rfl, Nat.le_of_ble_eq_true rfl⟩) (preV_of okP (⟨hP, hK, hD.top⟩) (pl_recv hK hP (ci := 7) rfl hmo hFo)) rfl rfl hl.1 rfl (lv_room (Nat.le_of_ble_eq_true rfl)) dX8_reckon_2 ⟨Nat.le_of_ble_eq_true rfl, Nat.le_of_ble_eq_true rfl⟩) (fun r13 hr13 => ?_)
        subst hr13
        refine W.eq (g2 := F0 m 5 ls [.ref (qa 0 j_x)]) rfl ?_
        refine lv_astore (lv' := [(5, .ref (qa 0 j_x)), (0, .ref o), (1, .int act), (2, .int (nI j_x)), (3, .int y), (4, .int into)]) hx hb dX8_reckon_5 hl (by decide) rfl (fun ls hl => ?_)
        refine lv_aload_n hx hb dX8_reckon_7 rfl (lv_at hl 1 rfl) ?_
        refine lv_iload_n hx hb dX8_reckon_8 rfl (lv_at hl 4 rfl) ?_
        refine va_csq (W.runV (As := [.int y]) (rest := []) ⟨hx, hb, hml, hown, hts⟩ (c_meterOf_no l G cy L F o qa Mm Dd Sl Pp Kr Bk Xx hR y hi_y) (cwV 1 hts gX8_reckon_X8_meterOf rfl rfl rfl (by decide +kernel) ⟨Nat.le_of_ble_eq_true rfl, Nat.le_of_ble_eq_true rfl⟩) (preV_of okP (⟨hP, hK, hD.top⟩) (pl_recv hK hP (ci := 7) rfl hmo hFo)) rfl rfl hl.1 rfl (lv_room (Nat.le_of_ble_eq_true rfl)) dX8_reckon_9 ⟨Nat.le_of_ble_eq_true rfl, Nat.le_of_ble_eq_true rfl⟩) (fun r14 hr14 => ?_)
        subst hr14
        refine W.eq (g2 := F0 m 12 ls [.null]) rfl ?_
        refine lv_astoreN (lv' := [(6, .null), (5, .ref (qa 0 j_x)), (0, .ref o), (1, .int act), (2, .int (nI j_x)), (3, .int y), (4, .int into)]) hx hb dX8_reckon_12 hl (by decide) rfl (fun ls hl => ?_)
        refine lv_aload_n hx hb dX8_reckon_14 rfl (lv_at hl 2 rfl) ?_
        refine lv_iload hx hb dX8_reckon_15 (lv_at hl 6 rfl) ?_
        refine va_csq (W.runV (As := [.int into]) (rest := []) ⟨hx, hb, hml, hown, hts⟩ (c_meterOf_no l G cy L F o qa Mm Dd Sl Pp Kr Bk Xx hR into hi_into) (cwV 1 hts gX8_reckon_X8_meterOf rfl rfl rfl (by decide +kernel) ⟨Nat.le_of_ble_eq_true rfl, Nat.le_of_ble_eq_true rfl⟩) (preV_of okP (⟨hP, hK, hD.top⟩) (pl_recv hK hP (ci := 7) rfl hmo hFo)) rfl rfl hl.1 rfl (lv_room (Nat.le_of_ble_eq_true rfl)) dX8_reckon_17 ⟨Nat.le_of_ble_eq_true rfl, Nat.le_of_ble_eq_true rfl⟩) (fun r15 hr15 => ?_)
        subst hr15
        refine W.eq (g2 := F0 m 20 ls [.null]) rfl ?_
        refine lv_astoreN (lv' := [(7, .null), (6, .null), (5, .ref (qa 0 j_x)), (0, .ref o), (1, .int act), (2, .int (nI j_x)), (3, .int y), (4, .int into)]) hx hb dX8_reckon_20 hl (by decide) rfl (fun ls hl => ?_)
        refine lv_aload hx hb dX8_reckon_22 (lv_at hl 2 rfl) ?_
        refine lv_ifnull hx hb dX8_reckon_24 ?_
        refine lv_aloadN hx hb dX8_reckon_27 (lv_at hl 1 rfl) ?_
        refine lv_ifnullN (tgt := 37) hx hb dX8_reckon_29 (by decide) ?_
        refine lv_sipush (v := -1001) hx hb dX8_reckon_37 (by decide) ?_
        exact W.iret (v := -1001) hx hb hr (fun t ht hW => ⟨⟨-1001, F, rfl, (by have hsp : sp_reckon Mm Xx act (nI j_x) y into = (-1001, Mm, Xx) := (by unfold sp_reckon; rw [hi_x, hi_y]); rw [hsp]; exact ⟨rfl, hR⟩), (by show va_P _ _ _ t.heap; rw [ht]; exact hP)⟩, hS.F ht⟩) hS.2.2 dX8_reckon_40
      · subst ei_into
        obtain ⟨hmm_into, nm_into, rl_into, hFm_into, hok_into⟩ := hRM j_into hj_into
        refine lv_aload_n hx hb dX8_reckon_0 rfl (lv_at hl 0 rfl) ?_
        refine lv_iload_n hx hb dX8_reckon_1 rfl (lv_at hl 2 rfl) ?_
        refine va_csq (W.runV (As := [.int (nI j_x)]) (rest := []) ⟨hx, hb, hml, hown, hts⟩ (c_meterOf l G cy L F o qa Mm Dd Sl Pp Kr Bk Xx hR j_x hj_x) (cwV 1 hts gX8_reckon_X8_meterOf rfl rfl rfl (by decide +kernel) ⟨Nat.le_of_ble_eq_true rfl, Nat.le_of_ble_eq_true rfl⟩) (preV_of okP (⟨hP, hK, hD.top⟩) (pl_recv hK hP (ci := 7) rfl hmo hFo)) rfl rfl hl.1 rfl (lv_room (Nat.le_of_ble_eq_true rfl)) dX8_reckon_2 ⟨Nat.le_of_ble_eq_true rfl, Nat.le_of_ble_eq_true rfl⟩) (fun r16 hr16 => ?_)
        subst hr16
        refine W.eq (g2 := F0 m 5 ls [.ref (qa 0 j_x)]) rfl ?_
        refine lv_astore (lv' := [(5, .ref (qa 0 j_x)), (0, .ref o), (1, .int act), (2, .int (nI j_x)), (3, .int y), (4, .int (nI j_into))]) hx hb dX8_reckon_5 hl (by decide) rfl (fun ls hl => ?_)
        refine lv_aload_n hx hb dX8_reckon_7 rfl (lv_at hl 1 rfl) ?_
        refine lv_iload_n hx hb dX8_reckon_8 rfl (lv_at hl 4 rfl) ?_
        refine va_csq (W.runV (As := [.int y]) (rest := []) ⟨hx, hb, hml, hown, hts⟩ (c_meterOf_no l G cy L F o qa Mm Dd Sl Pp Kr Bk Xx hR y hi_y) (cwV 1 hts gX8_reckon_X8_meterOf rfl rfl rfl (by decide +kernel) ⟨Nat.le_of_ble_eq_true rfl, Nat.le_of_ble_eq_true rfl⟩) (preV_of okP (⟨hP, hK, hD.top⟩) (pl_recv hK hP (ci := 7) rfl hmo hFo)) rfl rfl hl.1 rfl (lv_room (Nat.le_of_ble_eq_true rfl)) dX8_reckon_9 ⟨Nat.le_of_ble_eq_true rfl, Nat.le_of_ble_eq_true rfl⟩) (fun r17 hr17 => ?_)
        subst hr17
        refine W.eq (g2 := F0 m 12 ls [.null]) rfl ?_
        refine lv_astoreN (lv' := [(6, .null), (5, .ref (qa 0 j_x)), (0, .ref o), (1, .int act), (2, .int (nI j_x)), (3, .int y), (4, .int (nI j_into))]) hx hb dX8_reckon_12 hl (by decide) rfl (fun ls hl => ?_)
        refine lv_aload_n hx hb dX8_reckon_14 rfl (lv_at hl 2 rfl) ?_
        refine lv_iload hx hb dX8_reckon_15 (lv_at hl 6 rfl) ?_
        refine va_csq (W.runV (As := [.int (nI j_into)]) (rest := []) ⟨hx, hb, hml, hown, hts⟩ (c_meterOf l G cy L F o qa Mm Dd Sl Pp Kr Bk Xx hR j_into hj_into) (cwV 1 hts gX8_reckon_X8_meterOf rfl rfl rfl (by decide +kernel) ⟨Nat.le_of_ble_eq_true rfl, Nat.le_of_ble_eq_true rfl⟩) (preV_of okP (⟨hP, hK, hD.top⟩) (pl_recv hK hP (ci := 7) rfl hmo hFo)) rfl rfl hl.1 rfl (lv_room (Nat.le_of_ble_eq_true rfl)) dX8_reckon_17 ⟨Nat.le_of_ble_eq_true rfl, Nat.le_of_ble_eq_true rfl⟩) (fun r18 hr18 => ?_)
        subst hr18
        refine W.eq (g2 := F0 m 20 ls [.ref (qa 0 j_into)]) rfl ?_
        refine lv_astore (lv' := [(7, .ref (qa 0 j_into)), (6, .null), (5, .ref (qa 0 j_x)), (0, .ref o), (1, .int act), (2, .int (nI j_x)), (3, .int y), (4, .int (nI j_into))]) hx hb dX8_reckon_20 hl (by decide) rfl (fun ls hl => ?_)
        refine lv_aload hx hb dX8_reckon_22 (lv_at hl 2 rfl) ?_
        refine lv_ifnull hx hb dX8_reckon_24 ?_
        refine lv_aloadN hx hb dX8_reckon_27 (lv_at hl 1 rfl) ?_
        refine lv_ifnullN (tgt := 37) hx hb dX8_reckon_29 (by decide) ?_
        refine lv_sipush (v := -1001) hx hb dX8_reckon_37 (by decide) ?_
        exact W.iret (v := -1001) hx hb hr (fun t ht hW => ⟨⟨-1001, F, rfl, (by have hsp : sp_reckon Mm Xx act (nI j_x) y (nI j_into) = (-1001, Mm, Xx) := (by unfold sp_reckon; rw [hi_x, hi_y]); rw [hsp]; exact ⟨rfl, hR⟩), (by show va_P _ _ _ t.heap; rw [ht]; exact hP)⟩, hS.F ht⟩) hS.2.2 dX8_reckon_40
    · subst ei_y
      obtain ⟨hmm_y, nm_y, rl_y, hFm_y, hok_y⟩ := hRM j_y hj_y
      rcases ixc 10 into with hi_into | ⟨j_into, hj_into, hi_into, ei_into⟩
      · refine lv_aload_n hx hb dX8_reckon_0 rfl (lv_at hl 0 rfl) ?_
        refine lv_iload_n hx hb dX8_reckon_1 rfl (lv_at hl 2 rfl) ?_
        refine va_csq (W.runV (As := [.int (nI j_x)]) (rest := []) ⟨hx, hb, hml, hown, hts⟩ (c_meterOf l G cy L F o qa Mm Dd Sl Pp Kr Bk Xx hR j_x hj_x) (cwV 1 hts gX8_reckon_X8_meterOf rfl rfl rfl (by decide +kernel) ⟨Nat.le_of_ble_eq_true rfl, Nat.le_of_ble_eq_true rfl⟩) (preV_of okP (⟨hP, hK, hD.top⟩) (pl_recv hK hP (ci := 7) rfl hmo hFo)) rfl rfl hl.1 rfl (lv_room (Nat.le_of_ble_eq_true rfl)) dX8_reckon_2 ⟨Nat.le_of_ble_eq_true rfl, Nat.le_of_ble_eq_true rfl⟩) (fun r19 hr19 => ?_)
        subst hr19
        refine W.eq (g2 := F0 m 5 ls [.ref (qa 0 j_x)]) rfl ?_
        refine lv_astore (lv' := [(5, .ref (qa 0 j_x)), (0, .ref o), (1, .int act), (2, .int (nI j_x)), (3, .int (nI j_y)), (4, .int into)]) hx hb dX8_reckon_5 hl (by decide) rfl (fun ls hl => ?_)
        refine lv_aload_n hx hb dX8_reckon_7 rfl (lv_at hl 1 rfl) ?_
        refine lv_iload_n hx hb dX8_reckon_8 rfl (lv_at hl 4 rfl) ?_
        refine va_csq (W.runV (As := [.int (nI j_y)]) (rest := []) ⟨hx, hb, hml, hown, hts⟩ (c_meterOf l G cy L F o qa Mm Dd Sl Pp Kr Bk Xx hR j_y hj_y) (cwV 1 hts gX8_reckon_X8_meterOf rfl rfl rfl (by decide +kernel) ⟨Nat.le_of_ble_eq_true rfl, Nat.le_of_ble_eq_true rfl⟩) (preV_of okP (⟨hP, hK, hD.top⟩) (pl_recv hK hP (ci := 7) rfl hmo hFo)) rfl rfl hl.1 rfl (lv_room (Nat.le_of_ble_eq_true rfl)) dX8_reckon_9 ⟨Nat.le_of_ble_eq_true rfl, Nat.le_of_ble_eq_true rfl⟩) (fun r20 hr20 => ?_)
        subst hr20
        refine W.eq (g2 := F0 m 12 ls [.ref (qa 0 j_y)]) rfl ?_
        refine lv_astore (lv' := [(6, .ref (qa 0 j_y)), (5, .ref (qa 0 j_x)), (0, .ref o), (1, .int act), (2, .int (nI j_x)), (3, .int (nI j_y)), (4, .int into)]) hx hb dX8_reckon_12 hl (by decide) rfl (fun ls hl => ?_)
        refine lv_aload_n hx hb dX8_reckon_14 rfl (lv_at hl 2 rfl) ?_
        refine lv_iload hx hb dX8_reckon_15 (lv_at hl 6 rfl) ?_
        refine va_csq (W.runV (As := [.int into]) (rest := []) ⟨hx, hb, hml, hown, hts⟩ (c_meterOf_no l G cy L F o qa Mm Dd Sl Pp Kr Bk Xx hR into hi_into) (cwV 1 hts gX8_reckon_X8_meterOf rfl rfl rfl (by decide +kernel) ⟨Nat.le_of_ble_eq_true rfl, Nat.le_of_ble_eq_true rfl⟩) (preV_of okP (⟨hP, hK, hD.top⟩) (pl_recv hK hP (ci := 7) rfl hmo hFo)) rfl rfl hl.1 rfl (lv_room (Nat.le_of_ble_eq_true rfl)) dX8_reckon_17 ⟨Nat.le_of_ble_eq_true rfl, Nat.le_of_ble_eq_true rfl⟩) (fun r21 hr21 => ?_)
        subst hr21
        refine W.eq (g2 := F0 m 20 ls [.null]) rfl ?_
        refine lv_astoreN (lv' := [(7, .null), (6, .ref (qa 0 j_y)), (5, .ref (qa 0 j_x)), (0, .ref o), (1, .int act), (2, .int (nI j_x)), (3, .int (nI j_y)), (4, .int into)]) hx hb dX8_reckon_20 hl (by decide) rfl (fun ls hl => ?_)
        refine lv_aload hx hb dX8_reckon_22 (lv_at hl 2 rfl) ?_
        refine lv_ifnull hx hb dX8_reckon_24 ?_
        refine lv_aload hx hb dX8_reckon_27 (lv_at hl 1 rfl) ?_
        refine lv_ifnull hx hb dX8_reckon_29 ?_
        refine lv_aloadN hx hb dX8_reckon_32 (lv_at hl 0 rfl) ?_
        refine lv_ifnonnullN hx hb dX8_reckon_34 ?_
        refine lv_sipush (v := -1001) hx hb dX8_reckon_37 (by decide) ?_
        exact W.iret (v := -1001) hx hb hr (fun t ht hW => ⟨⟨-1001, F, rfl, (by have hsp : sp_reckon Mm Xx act (nI j_x) (nI j_y) into = (-1001, Mm, Xx) := (by unfold sp_reckon; rw [hi_x, hi_y, hi_into]); rw [hsp]; exact ⟨rfl, hR⟩), (by show va_P _ _ _ t.heap; rw [ht]; exact hP)⟩, hS.F ht⟩) hS.2.2 dX8_reckon_40
      · subst ei_into
        obtain ⟨hmm_into, nm_into, rl_into, hFm_into, hok_into⟩ := hRM j_into hj_into
        refine lv_aload_n hx hb dX8_reckon_0 rfl (lv_at hl 0 rfl) ?_
        refine lv_iload_n hx hb dX8_reckon_1 rfl (lv_at hl 2 rfl) ?_
        refine va_csq (W.runV (As := [.int (nI j_x)]) (rest := []) ⟨hx, hb, hml, hown, hts⟩ (c_meterOf l G cy L F o qa Mm Dd Sl Pp Kr Bk Xx hR j_x hj_x) (cwV 1 hts gX8_reckon_X8_meterOf rfl rfl rfl (by decide +kernel) ⟨Nat.le_of_ble_eq_true rfl, Nat.le_of_ble_eq_true rfl⟩) (preV_of okP (⟨hP, hK, hD.top⟩) (pl_recv hK hP (ci := 7) rfl hmo hFo)) rfl rfl hl.1 rfl (lv_room (Nat.le_of_ble_eq_true rfl)) dX8_reckon_2 ⟨Nat.le_of_ble_eq_true rfl, Nat.le_of_ble_eq_true rfl⟩) (fun r22 hr22 => ?_)
        subst hr22
        refine W.eq (g2 := F0 m 5 ls [.ref (qa 0 j_x)]) rfl ?_
        refine lv_astore (lv' := [(5, .ref (qa 0 j_x)), (0, .ref o), (1, .int act), (2, .int (nI j_x)), (3, .int (nI j_y)), (4, .int (nI j_into))]) hx hb dX8_reckon_5 hl (by decide) rfl (fun ls hl => ?_)
        refine lv_aload_n hx hb dX8_reckon_7 rfl (lv_at hl 1 rfl) ?_
        refine lv_iload_n hx hb dX8_reckon_8 rfl (lv_at hl 4 rfl) ?_
        refine va_csq (W.runV (As := [.int (nI j_y)]) (rest := []) ⟨hx, hb, hml, hown, hts⟩ (c_meterOf l G cy L F o qa Mm Dd Sl Pp Kr Bk Xx hR j_y hj_y) (cwV 1 hts gX8_reckon_X8_meterOf rfl rfl rfl (by decide +kernel) ⟨Nat.le_of_ble_eq_true rfl, Nat.le_of_ble_eq_true rfl⟩) (preV_of okP (⟨hP, hK, hD.top⟩) (pl_recv hK hP (ci := 7) rfl hmo hFo)) rfl rfl hl.1 rfl (lv_room (Nat.le_of_ble_eq_true rfl)) dX8_reckon_9 ⟨Nat.le_of_ble_eq_true rfl, Nat.le_of_ble_eq_true rfl⟩) (fun r23 hr23 => ?_)
        subst hr23
        refine W.eq (g2 := F0 m 12 ls [.ref (qa 0 j_y)]) rfl ?_
        refine lv_astore (lv' := [(6, .ref (qa 0 j_y)), (5, .ref (qa 0 j_x)), (0, .ref o), (1, .int act), (2, .int (nI j_x)), (3, .int (nI j_y)), (4, .int (nI j_into))]) hx hb dX8_reckon_12 hl (by decide) rfl (fun ls hl => ?_)
        refine lv_aload_n hx hb dX8_reckon_14 rfl (lv_at hl 2 rfl) ?_
        refine lv_iload hx hb dX8_reckon_15 (lv_at hl 6 rfl) ?_
        refine va_csq (W.runV (As := [.int (nI j_into)]) (rest := []) ⟨hx, hb, hml, hown, hts⟩ (c_meterOf l G cy L F o qa Mm Dd Sl Pp Kr Bk Xx hR j_into hj_into) (cwV 1 hts gX8_reckon_X8_meterOf rfl rfl rfl (by decide +kernel) ⟨Nat.le_of_ble_eq_true rfl, Nat.le_of_ble_eq_true rfl⟩) (preV_of okP (⟨hP, hK, hD.top⟩) (pl_recv hK hP (ci := 7) rfl hmo hFo)) rfl rfl hl.1 rfl (lv_room (Nat.le_of_ble_eq_true rfl)) dX8_reckon_17 ⟨Nat.le_of_ble_eq_true rfl, Nat.le_of_ble_eq_true rfl⟩) (fun r24 hr24 => ?_)
        subst hr24
        refine W.eq (g2 := F0 m 20 ls [.ref (qa 0 j_into)]) rfl ?_
        refine lv_astore (lv' := [(7, .ref (qa 0 j_into)), (6, .ref (qa 0 j_y)), (5, .ref (qa 0 j_x)), (0, .ref o), (1, .int act), (2, .int (nI j_x)), (3, .int (nI j_y)), (4, .int (nI j_into))]) hx hb dX8_reckon_20 hl (by decide) rfl (fun ls hl => ?_)
        refine lv_aload hx hb dX8_reckon_22 (lv_at hl 2 rfl) ?_
        refine lv_ifnull hx hb dX8_reckon_24 ?_
        refine lv_aload hx hb dX8_reckon_27 (lv_at hl 1 rfl) ?_
        refine lv_ifnull hx hb dX8_reckon_29 ?_
        refine lv_aload hx hb dX8_reckon_32 (lv_at hl 0 rfl) ?_
        refine lv_ifnonnull (tgt := 41) hx hb dX8_reckon_34 (by decide) ?_
        refine lv_iload_n hx hb dX8_reckon_41 rfl (lv_at hl 4 rfl) ?_
        refine lv_if_lt (tgt := 50) hx hb dX8_reckon_42 (by decide) (fun c25 => ?_) (fun c25 => ?_)
        · refine lv_sipush (v := -1002) hx hb dX8_reckon_50 (by decide) ?_
          exact W.iret (v := -1002) hx hb hr (fun t ht hW => ⟨⟨-1002, F, rfl, (by have hsp : sp_reckon Mm Xx act (nI j_x) (nI j_y) (nI j_into) = (-1002, Mm, Xx) := (by unfold sp_reckon; rw [hi_x, hi_y, hi_into, hact]); rw [hsp]; exact ⟨rfl, hR⟩), (by show va_P _ _ _ t.heap; rw [ht]; exact hP)⟩, hS.F ht⟩) hS.2.2 dX8_reckon_53
        · refine lv_iload_n hx hb dX8_reckon_45 rfl (lv_at hl 4 rfl) ?_
          refine lv_iconst (v := 4) hx hb dX8_reckon_46 (by decide) ?_
          refine lv_icmp_le (tgt := 54) hx hb dX8_reckon_47 (by decide) (fun c26 => ?_) (fun c26 => ?_)
          · exfalso
            have hc1 := c25
            have hc2 := c26
            have hq := ixn hact
            rw [fa_lt] at hc1
            rw [fa_le] at hc2
            have h8 : (0 : Int32).toInt = 0 := (by decide)
            have h7 : (4 : Int32).toInt = 4 := (by decide)
            omega
          · refine lv_sipush (v := -1002) hx hb dX8_reckon_50 (by decide) ?_
            exact W.iret (v := -1002) hx hb hr (fun t ht hW => ⟨⟨-1002, F, rfl, (by have hsp : sp_reckon Mm Xx act (nI j_x) (nI j_y) (nI j_into) = (-1002, Mm, Xx) := (by unfold sp_reckon; rw [hi_x, hi_y, hi_into, hact]); rw [hsp]; exact ⟨rfl, hR⟩), (by show va_P _ _ _ t.heap; rw [ht]; exact hP)⟩, hS.F ht⟩) hS.2.2 dX8_reckon_53

set_option maxHeartbeats 8000000 in
set_option maxRecDepth 100000 in
theorem m_reckon_0 (l : Launch) (G : va_G) (cy : Nat → ClassId) (L : List Nat) (F : Nat → va_E) (ad : Nat → Nat) (sz : Nat) (o : Nat) (qa : Nat → Nat → Nat) (Mm : SM) (Dd : SD) (Sl : SL) (Pp : SP) (Kr : SR) (Bk : SB) (Xx : SX) (hR : Rep cy L o qa Mm Dd Sl Pp Kr Bk Xx F) (x y into : Int32)  : Met l yX8_reckon wsX8_reckon ({ frames := 5, cells := 0, slots := 0, locals := 133 }) (va_Pc [.ref o, .int 0, .int x, .int y, .int into] (fun U => bQE G cy L F ad sz U U.heap)) (va_Qi (fun (r : Int32) (F' : Nat → va_E) => r = (sp_reckon Mm Xx 0 x y into).1 ∧ Rep cy L o qa (sp_reckon Mm Xx 0 x y into).2.1 Dd Sl Pp Kr Bk (sp_reckon Mm Xx 0 x y into).2.2 F') (fun F' t => va_P G vwCl (va_pl L F') t.heap) (va_A (va_pl L F) sz)) 0 0 (va_A (va_pl L F) sz) := by
  refine Met.ofW (cc := cX8_reckon) (maxL := 11) (ret := (some .int)) (by decide) rfl ?_
  intro p e s m args below meth c s₁ B hml hv
  obtain ⟨rfl, ⟨hsz, hP, hK, hD0⟩, hE, hN⟩ := hv
  have hx := B.exec
  have hb := B.bytes
  have hr := B.returns
  have hts := atoms_spec (ws := wsX8_reckon) B.pre
  have hown : s.vm.findClass RX8 = some m.cls := findClass_of_methodNamed B.named
  have hlocks := B.notSynchronized
  have hinX8 : ∀ w ∈ wsX80, w ∈ wsX8_reckon := by decide +kernel
  have hinX4 : ∀ w ∈ wsX40, w ∈ wsX8_reckon := by decide +kernel
  subst hsz
  have hD := hD0.self F s.heap.size
  generalize hAe : va_A (va_pl L F) s.heap.size = A at hD hE ⊢
  have hA : ∀ q : Nat, s.heap.size ≤ q → A q := fun q h => by rw [← hAe]; exact Or.inr h
  have hS : va_S A s.heap s.heap [] := va_S.rf
  obtain ⟨⟨⟨hmo, hFo⟩, ⟨hmf, hFf⟩, hms, hFs⟩, ⟨⟨hm0, hF0⟩, ⟨hm1, hF1⟩, ⟨hm2, hF2⟩, ⟨hm4, hF4⟩, hm5, hF5⟩, hRM, hRD, hRG, hRP, hRR, hRB, hRI⟩ := id hR
  have hl := lv_entry ([.ref o, .int 0, .int x, .int y, .int into]) (n := 11) (Nat.le_of_ble_eq_true rfl)
  rw [lg_entry_eq]
  generalize (lg_sl ([.ref o, .int 0, .int x, .int y, .int into]) ++ List.replicate (11 - (lg_sl ([.ref o, .int 0, .int x, .int y, .int into])).length) Slot.unset).toArray = ls at hl ⊢
  have hl : lv_has ls 11 [(0, .ref o), (1, .int 0), (2, .int x), (3, .int y), (4, .int into)] := hl
  rcases ixc 10 x with hi_x | ⟨j_x, hj_x, hi_x, ei_x⟩
  · rcases ixc 10 y with hi_y | ⟨j_y, hj_y, hi_y, ei_y⟩
    · rcases ixc 10 into with hi_into | ⟨j_into, hj_into, hi_into, ei_into⟩
      · refine lv_aload_n hx hb dX8_reckon_0 rfl (lv_at hl 0 rfl) ?_
        refine lv_iload_n hx hb dX8_reckon_1 rfl (lv_at hl 2 rfl) ?_
        refine va_csq (W.runV (As := [.int x]) (rest := []) ⟨hx, hb, hml, hown, hts⟩ (c_meterOf_no l G cy L F o qa Mm Dd Sl Pp Kr Bk Xx hR x hi_x) (cwV 1 hts gX8_reckon_X8_meterOf rfl rfl rfl (by decide +kernel) ⟨Nat.le_of_ble_eq_true rfl, Nat.le_of_ble_eq_true rfl⟩) (preV_of okP (⟨hP, hK, hD.top⟩) (pl_recv hK hP (ci := 7) rfl hmo hFo)) rfl rfl hl.1 rfl (lv_room (Nat.le_of_ble_eq_true rfl)) dX8_reckon_2 ⟨Nat.le_of_ble_eq_true rfl, Nat.le_of_ble_eq_true rfl⟩) (fun r1 hr1 => ?_)
        subst hr1
        refine W.eq (g2 := F0 m 5 ls [.null]) rfl ?_
        refine lv_astoreN (lv' := [(5, .null), (0, .ref o), (1, .int 0), (2, .int x), (3, .int y), (4, .int into)]) hx hb dX8_reckon_5 hl (by decide) rfl (fun ls hl => ?_)
        refine lv_aload_n hx hb dX8_reckon_7 rfl (lv_at hl 1 rfl) ?_
        refine lv_iload_n hx hb dX8_reckon_8 rfl (lv_at hl 4 rfl) ?_
        refine va_csq (W.runV (As := [.int y]) (rest := []) ⟨hx, hb, hml, hown, hts⟩ (c_meterOf_no l G cy L F o qa Mm Dd Sl Pp Kr Bk Xx hR y hi_y) (cwV 1 hts gX8_reckon_X8_meterOf rfl rfl rfl (by decide +kernel) ⟨Nat.le_of_ble_eq_true rfl, Nat.le_of_ble_eq_true rfl⟩) (preV_of okP (⟨hP, hK, hD.top⟩) (pl_recv hK hP (ci := 7) rfl hmo hFo)) rfl rfl hl.1 rfl (lv_room (Nat.le_of_ble_eq_true rfl)) dX8_reckon_9 ⟨Nat.le_of_ble_eq_true rfl, Nat.le_of_ble_eq_true rfl⟩) (fun r2 hr2 => ?_)
        subst hr2
        refine W.eq (g2 := F0 m 12 ls [.null]) rfl ?_
        refine lv_astoreN (lv' := [(6, .null), (5, .null), (0, .ref o), (1, .int 0), (2, .int x), (3, .int y), (4, .int into)]) hx hb dX8_reckon_12 hl (by decide) rfl (fun ls hl => ?_)
        refine lv_aload_n hx hb dX8_reckon_14 rfl (lv_at hl 2 rfl) ?_
        refine lv_iload hx hb dX8_reckon_15 (lv_at hl 6 rfl) ?_
        refine va_csq (W.runV (As := [.int into]) (rest := []) ⟨hx, hb, hml, hown, hts⟩ (c_meterOf_no l G cy L F o qa Mm Dd Sl Pp Kr Bk Xx hR into hi_into) (cwV 1 hts gX8_reckon_X8_meterOf rfl rfl rfl (by decide +kernel) ⟨Nat.le_of_ble_eq_true rfl, Nat.le_of_ble_eq_true rfl⟩) (preV_of okP (⟨hP, hK, hD.top⟩) (pl_recv hK hP (ci := 7) rfl hmo hFo)) rfl rfl hl.1 rfl (lv_room (Nat.le_of_ble_eq_true rfl)) dX8_reckon_17 ⟨Nat.le_of_ble_eq_true rfl, Nat.le_of_ble_eq_true rfl⟩) (fun r3 hr3 => ?_)
        subst hr3
        refine W.eq (g2 := F0 m 20 ls [.null]) rfl ?_
        refine lv_astoreN (lv' := [(7, .null), (6, .null), (5, .null), (0, .ref o), (1, .int 0), (2, .int x), (3, .int y), (4, .int into)]) hx hb dX8_reckon_20 hl (by decide) rfl (fun ls hl => ?_)
        refine lv_aloadN hx hb dX8_reckon_22 (lv_at hl 2 rfl) ?_
        refine lv_ifnullN (tgt := 37) hx hb dX8_reckon_24 (by decide) ?_
        refine lv_sipush (v := -1001) hx hb dX8_reckon_37 (by decide) ?_
        exact W.iret (v := -1001) hx hb hr (fun t ht hW => ⟨⟨-1001, F, rfl, (by have hsp : sp_reckon Mm Xx 0 x y into = (-1001, Mm, Xx) := (by unfold sp_reckon; rw [hi_x]); rw [hsp]; exact ⟨rfl, hR⟩), (by show va_P _ _ _ t.heap; rw [ht]; exact hP)⟩, hS.F ht⟩) hS.2.2 dX8_reckon_40
      · subst ei_into
        obtain ⟨hmm_into, nm_into, rl_into, hFm_into, hok_into⟩ := hRM j_into hj_into
        refine lv_aload_n hx hb dX8_reckon_0 rfl (lv_at hl 0 rfl) ?_
        refine lv_iload_n hx hb dX8_reckon_1 rfl (lv_at hl 2 rfl) ?_
        refine va_csq (W.runV (As := [.int x]) (rest := []) ⟨hx, hb, hml, hown, hts⟩ (c_meterOf_no l G cy L F o qa Mm Dd Sl Pp Kr Bk Xx hR x hi_x) (cwV 1 hts gX8_reckon_X8_meterOf rfl rfl rfl (by decide +kernel) ⟨Nat.le_of_ble_eq_true rfl, Nat.le_of_ble_eq_true rfl⟩) (preV_of okP (⟨hP, hK, hD.top⟩) (pl_recv hK hP (ci := 7) rfl hmo hFo)) rfl rfl hl.1 rfl (lv_room (Nat.le_of_ble_eq_true rfl)) dX8_reckon_2 ⟨Nat.le_of_ble_eq_true rfl, Nat.le_of_ble_eq_true rfl⟩) (fun r4 hr4 => ?_)
        subst hr4
        refine W.eq (g2 := F0 m 5 ls [.null]) rfl ?_
        refine lv_astoreN (lv' := [(5, .null), (0, .ref o), (1, .int 0), (2, .int x), (3, .int y), (4, .int (nI j_into))]) hx hb dX8_reckon_5 hl (by decide) rfl (fun ls hl => ?_)
        refine lv_aload_n hx hb dX8_reckon_7 rfl (lv_at hl 1 rfl) ?_
        refine lv_iload_n hx hb dX8_reckon_8 rfl (lv_at hl 4 rfl) ?_
        refine va_csq (W.runV (As := [.int y]) (rest := []) ⟨hx, hb, hml, hown, hts⟩ (c_meterOf_no l G cy L F o qa Mm Dd Sl Pp Kr Bk Xx hR y hi_y) (cwV 1 hts gX8_reckon_X8_meterOf rfl rfl rfl (by decide +kernel) ⟨Nat.le_of_ble_eq_true rfl, Nat.le_of_ble_eq_true rfl⟩) (preV_of okP (⟨hP, hK, hD.top⟩) (pl_recv hK hP (ci := 7) rfl hmo hFo)) rfl rfl hl.1 rfl (lv_room (Nat.le_of_ble_eq_true rfl)) dX8_reckon_9 ⟨Nat.le_of_ble_eq_true rfl, Nat.le_of_ble_eq_true rfl⟩) (fun r5 hr5 => ?_)
        subst hr5
        refine W.eq (g2 := F0 m 12 ls [.null]) rfl ?_
        refine lv_astoreN (lv' := [(6, .null), (5, .null), (0, .ref o), (1, .int 0), (2, .int x), (3, .int y), (4, .int (nI j_into))]) hx hb dX8_reckon_12 hl (by decide) rfl (fun ls hl => ?_)
        refine lv_aload_n hx hb dX8_reckon_14 rfl (lv_at hl 2 rfl) ?_
        refine lv_iload hx hb dX8_reckon_15 (lv_at hl 6 rfl) ?_
        refine va_csq (W.runV (As := [.int (nI j_into)]) (rest := []) ⟨hx, hb, hml, hown, hts⟩ (c_meterOf l G cy L F o qa Mm Dd Sl Pp Kr Bk Xx hR j_into hj_into) (cwV 1 hts gX8_reckon_X8_meterOf rfl rfl rfl (by decide +kernel) ⟨Nat.le_of_ble_eq_true rfl, Nat.le_of_ble_eq_true rfl⟩) (preV_of okP (⟨hP, hK, hD.top⟩) (pl_recv hK hP (ci := 7) rfl hmo hFo)) rfl rfl hl.1 rfl (lv_room (Nat.le_of_ble_eq_true rfl)) dX8_reckon_17 ⟨Nat.le_of_ble_eq_true rfl, Nat.le_of_ble_eq_true rfl⟩) (fun r6 hr6 => ?_)
        subst hr6
        refine W.eq (g2 := F0 m 20 ls [.ref (qa 0 j_into)]) rfl ?_
        refine lv_astore (lv' := [(7, .ref (qa 0 j_into)), (6, .null), (5, .null), (0, .ref o), (1, .int 0), (2, .int x), (3, .int y), (4, .int (nI j_into))]) hx hb dX8_reckon_20 hl (by decide) rfl (fun ls hl => ?_)
        refine lv_aloadN hx hb dX8_reckon_22 (lv_at hl 2 rfl) ?_
        refine lv_ifnullN (tgt := 37) hx hb dX8_reckon_24 (by decide) ?_
        refine lv_sipush (v := -1001) hx hb dX8_reckon_37 (by decide) ?_
        exact W.iret (v := -1001) hx hb hr (fun t ht hW => ⟨⟨-1001, F, rfl, (by have hsp : sp_reckon Mm Xx 0 x y (nI j_into) = (-1001, Mm, Xx) := (by unfold sp_reckon; rw [hi_x]); rw [hsp]; exact ⟨rfl, hR⟩), (by show va_P _ _ _ t.heap; rw [ht]; exact hP)⟩, hS.F ht⟩) hS.2.2 dX8_reckon_40
    · subst ei_y
      obtain ⟨hmm_y, nm_y, rl_y, hFm_y, hok_y⟩ := hRM j_y hj_y
      rcases ixc 10 into with hi_into | ⟨j_into, hj_into, hi_into, ei_into⟩
      · refine lv_aload_n hx hb dX8_reckon_0 rfl (lv_at hl 0 rfl) ?_
        refine lv_iload_n hx hb dX8_reckon_1 rfl (lv_at hl 2 rfl) ?_
        refine va_csq (W.runV (As := [.int x]) (rest := []) ⟨hx, hb, hml, hown, hts⟩ (c_meterOf_no l G cy L F o qa Mm Dd Sl Pp Kr Bk Xx hR x hi_x) (cwV 1 hts gX8_reckon_X8_meterOf rfl rfl rfl (by decide +kernel) ⟨Nat.le_of_ble_eq_true rfl, Nat.le_of_ble_eq_true rfl⟩) (preV_of okP (⟨hP, hK, hD.top⟩) (pl_recv hK hP (ci := 7) rfl hmo hFo)) rfl rfl hl.1 rfl (lv_room (Nat.le_of_ble_eq_true rfl)) dX8_reckon_2 ⟨Nat.le_of_ble_eq_true rfl, Nat.le_of_ble_eq_true rfl⟩) (fun r7 hr7 => ?_)
        subst hr7
        refine W.eq (g2 := F0 m 5 ls [.null]) rfl ?_
        refine lv_astoreN (lv' := [(5, .null), (0, .ref o), (1, .int 0), (2, .int x), (3, .int (nI j_y)), (4, .int into)]) hx hb dX8_reckon_5 hl (by decide) rfl (fun ls hl => ?_)
        refine lv_aload_n hx hb dX8_reckon_7 rfl (lv_at hl 1 rfl) ?_
        refine lv_iload_n hx hb dX8_reckon_8 rfl (lv_at hl 4 rfl) ?_
        refine va_csq (W.runV (As := [.int (nI j_y)]) (rest := []) ⟨hx, hb, hml, hown, hts⟩ (c_meterOf l G cy L F o qa Mm Dd Sl Pp Kr Bk Xx hR j_y hj_y) (cwV 1 hts gX8_reckon_X8_meterOf rfl rfl rfl (by decide +kernel) ⟨Nat.le_of_ble_eq_true rfl, Nat.le_of_ble_eq_true rfl⟩) (preV_of okP (⟨hP, hK, hD.top⟩) (pl_recv hK hP (ci := 7) rfl hmo hFo)) rfl rfl hl.1 rfl (lv_room (Nat.le_of_ble_eq_true rfl)) dX8_reckon_9 ⟨Nat.le_of_ble_eq_true rfl, Nat.le_of_ble_eq_true rfl⟩) (fun r8 hr8 => ?_)
        subst hr8
        refine W.eq (g2 := F0 m 12 ls [.ref (qa 0 j_y)]) rfl ?_
        refine lv_astore (lv' := [(6, .ref (qa 0 j_y)), (5, .null), (0, .ref o), (1, .int 0), (2, .int x), (3, .int (nI j_y)), (4, .int into)]) hx hb dX8_reckon_12 hl (by decide) rfl (fun ls hl => ?_)
        refine lv_aload_n hx hb dX8_reckon_14 rfl (lv_at hl 2 rfl) ?_
        refine lv_iload hx hb dX8_reckon_15 (lv_at hl 6 rfl) ?_
        refine va_csq (W.runV (As := [.int into]) (rest := []) ⟨hx, hb, hml, hown, hts⟩ (c_meterOf_no l G cy L F o qa Mm Dd Sl Pp Kr Bk Xx hR into hi_into) (cwV 1 hts gX8_reckon_X8_meterOf rfl rfl rfl (by decide +kernel) ⟨Nat.le_of_ble_eq_true rfl, Nat.le_of_ble_eq_true rfl⟩) (preV_of okP (⟨hP, hK, hD.top⟩) (pl_recv hK hP (ci := 7) rfl hmo hFo)) rfl rfl hl.1 rfl (lv_room (Nat.le_of_ble_eq_true rfl)) dX8_reckon_17 ⟨Nat.le_of_ble_eq_true rfl, Nat.le_of_ble_eq_true rfl⟩) (fun r9 hr9 => ?_)
        subst hr9
        refine W.eq (g2 := F0 m 20 ls [.null]) rfl ?_
        refine lv_astoreN (lv' := [(7, .null), (6, .ref (qa 0 j_y)), (5, .null), (0, .ref o), (1, .int 0), (2, .int x), (3, .int (nI j_y)), (4, .int into)]) hx hb dX8_reckon_20 hl (by decide) rfl (fun ls hl => ?_)
        refine lv_aloadN hx hb dX8_reckon_22 (lv_at hl 2 rfl) ?_
        refine lv_ifnullN (tgt := 37) hx hb dX8_reckon_24 (by decide) ?_
        refine lv_sipush (v := -1001) hx hb dX8_reckon_37 (by decide) ?_
        exact W.iret (v := -1001) hx hb hr (fun t ht hW => ⟨⟨-1001, F, rfl, (by have hsp : sp_reckon Mm Xx 0 x (nI j_y) into = (-1001, Mm, Xx) := (by unfold sp_reckon; rw [hi_x]); rw [hsp]; exact ⟨rfl, hR⟩), (by show va_P _ _ _ t.heap; rw [ht]; exact hP)⟩, hS.F ht⟩) hS.2.2 dX8_reckon_40
      · subst ei_into
        obtain ⟨hmm_into, nm_into, rl_into, hFm_into, hok_into⟩ := hRM j_into hj_into
        refine lv_aload_n hx hb dX8_reckon_0 rfl (lv_at hl 0 rfl) ?_
        refine lv_iload_n hx hb dX8_reckon_1 rfl (lv_at hl 2 rfl) ?_
        refine va_csq (W.runV (As := [.int x]) (rest := []) ⟨hx, hb, hml, hown, hts⟩ (c_meterOf_no l G cy L F o qa Mm Dd Sl Pp Kr Bk Xx hR x hi_x) (cwV 1 hts gX8_reckon_X8_meterOf rfl rfl rfl (by decide +kernel) ⟨Nat.le_of_ble_eq_true rfl, Nat.le_of_ble_eq_true rfl⟩) (preV_of okP (⟨hP, hK, hD.top⟩) (pl_recv hK hP (ci := 7) rfl hmo hFo)) rfl rfl hl.1 rfl (lv_room (Nat.le_of_ble_eq_true rfl)) dX8_reckon_2 ⟨Nat.le_of_ble_eq_true rfl, Nat.le_of_ble_eq_true rfl⟩) (fun r10 hr10 => ?_)
        subst hr10
        refine W.eq (g2 := F0 m 5 ls [.null]) rfl ?_
        refine lv_astoreN (lv' := [(5, .null), (0, .ref o), (1, .int 0), (2, .int x), (3, .int (nI j_y)), (4, .int (nI j_into))]) hx hb dX8_reckon_5 hl (by decide) rfl (fun ls hl => ?_)
        refine lv_aload_n hx hb dX8_reckon_7 rfl (lv_at hl 1 rfl) ?_
        refine lv_iload_n hx hb dX8_reckon_8 rfl (lv_at hl 4 rfl) ?_
        refine va_csq (W.runV (As := [.int (nI j_y)]) (rest := []) ⟨hx, hb, hml, hown, hts⟩ (c_meterOf l G cy L F o qa Mm Dd Sl Pp Kr Bk Xx hR j_y hj_y) (cwV 1 hts gX8_reckon_X8_meterOf rfl rfl rfl (by decide +kernel) ⟨Nat.le_of_ble_eq_true rfl, Nat.le_of_ble_eq_true rfl⟩) (preV_of okP (⟨hP, hK, hD.top⟩) (pl_recv hK hP (ci := 7) rfl hmo hFo)) rfl rfl hl.1 rfl (lv_room (Nat.le_of_ble_eq_true rfl)) dX8_reckon_9 ⟨Nat.le_of_ble_eq_true rfl, Nat.le_of_ble_eq_true rfl⟩) (fun r11 hr11 => ?_)
        subst hr11
        refine W.eq (g2 := F0 m 12 ls [.ref (qa 0 j_y)]) rfl ?_
        refine lv_astore (lv' := [(6, .ref (qa 0 j_y)), (5, .null), (0, .ref o), (1, .int 0), (2, .int x), (3, .int (nI j_y)), (4, .int (nI j_into))]) hx hb dX8_reckon_12 hl (by decide) rfl (fun ls hl => ?_)
        refine lv_aload_n hx hb dX8_reckon_14 rfl (lv_at hl 2 rfl) ?_
        refine lv_iload hx hb dX8_reckon_15 (lv_at hl 6 rfl) ?_
        refine va_csq (W.runV (As := [.int (nI j_into)]) (rest := []) ⟨hx, hb, hml, hown, hts⟩ (c_meterOf l G cy L F o qa Mm Dd Sl Pp Kr Bk Xx hR j_into hj_into) (cwV 1 hts gX8_reckon_X8_meterOf rfl rfl rfl (by decide +kernel) ⟨Nat.le_of_ble_eq_true rfl, Nat.le_of_ble_eq_true rfl⟩) (preV_of okP (⟨hP, hK, hD.top⟩) (pl_recv hK hP (ci := 7) rfl hmo hFo)) rfl rfl hl.1 rfl (lv_room (Nat.le_of_ble_eq_true rfl)) dX8_reckon_17 ⟨Nat.le_of_ble_eq_true rfl, Nat.le_of_ble_eq_true rfl⟩) (fun r12 hr12 => ?_)
        subst hr12
        refine W.eq (g2 := F0 m 20 ls [.ref (qa 0 j_into)]) rfl ?_
        refine lv_astore (lv' := [(7, .ref (qa 0 j_into)), (6, .ref (qa 0 j_y)), (5, .null), (0, .ref o), (1, .int 0), (2, .int x), (3, .int (nI j_y)), (4, .int (nI j_into))]) hx hb dX8_reckon_20 hl (by decide) rfl (fun ls hl => ?_)
        refine lv_aloadN hx hb dX8_reckon_22 (lv_at hl 2 rfl) ?_
        refine lv_ifnullN (tgt := 37) hx hb dX8_reckon_24 (by decide) ?_
        refine lv_sipush (v := -1001) hx hb dX8_reckon_37 (by decide) ?_
        exact W.iret (v := -1001) hx hb hr (fun t ht hW => ⟨⟨-1001, F, rfl, (by have hsp : sp_reckon Mm Xx 0 x (nI j_y) (nI j_into) = (-1001, Mm, Xx) := (by unfold sp_reckon; rw [hi_x]); rw [hsp]; exact ⟨rfl, hR⟩), (by show va_P _ _ _ t.heap; rw [ht]; exact hP)⟩, hS.F ht⟩) hS.2.2 dX8_reckon_40
  · subst ei_x
    obtain ⟨hmm_x, nm_x, rl_x, hFm_x, hok_x⟩ := hRM j_x hj_x
    rcases ixc 10 y with hi_y | ⟨j_y, hj_y, hi_y, ei_y⟩
    · rcases ixc 10 into with hi_into | ⟨j_into, hj_into, hi_into, ei_into⟩
      · refine lv_aload_n hx hb dX8_reckon_0 rfl (lv_at hl 0 rfl) ?_
        refine lv_iload_n hx hb dX8_reckon_1 rfl (lv_at hl 2 rfl) ?_
        refine va_csq (W.runV (As := [.int (nI j_x)]) (rest := []) ⟨hx, hb, hml, hown, hts⟩ (c_meterOf l G cy L F o qa Mm Dd Sl Pp Kr Bk Xx hR j_x hj_x) (cwV 1 hts gX8_reckon_X8_meterOf rfl rfl rfl (by decide +kernel) ⟨Nat.le_of_ble_eq_true rfl, Nat.le_of_ble_eq_true rfl⟩) (preV_of okP (⟨hP, hK, hD.top⟩) (pl_recv hK hP (ci := 7) rfl hmo hFo)) rfl rfl hl.1 rfl (lv_room (Nat.le_of_ble_eq_true rfl)) dX8_reckon_2 ⟨Nat.le_of_ble_eq_true rfl, Nat.le_of_ble_eq_true rfl⟩) (fun r13 hr13 => ?_)
        subst hr13
        refine W.eq (g2 := F0 m 5 ls [.ref (qa 0 j_x)]) rfl ?_
        refine lv_astore (lv' := [(5, .ref (qa 0 j_x)), (0, .ref o), (1, .int 0), (2, .int (nI j_x)), (3, .int y), (4, .int into)]) hx hb dX8_reckon_5 hl (by decide) rfl (fun ls hl => ?_)
        refine lv_aload_n hx hb dX8_reckon_7 rfl (lv_at hl 1 rfl) ?_
        refine lv_iload_n hx hb dX8_reckon_8 rfl (lv_at hl 4 rfl) ?_
        refine va_csq (W.runV (As := [.int y]) (rest := []) ⟨hx, hb, hml, hown, hts⟩ (c_meterOf_no l G cy L F o qa Mm Dd Sl Pp Kr Bk Xx hR y hi_y) (cwV 1 hts gX8_reckon_X8_meterOf rfl rfl rfl (by decide +kernel) ⟨Nat.le_of_ble_eq_true rfl, Nat.le_of_ble_eq_true rfl⟩) (preV_of okP (⟨hP, hK, hD.top⟩) (pl_recv hK hP (ci := 7) rfl hmo hFo)) rfl rfl hl.1 rfl (lv_room (Nat.le_of_ble_eq_true rfl)) dX8_reckon_9 ⟨Nat.le_of_ble_eq_true rfl, Nat.le_of_ble_eq_true rfl⟩) (fun r14 hr14 => ?_)
        subst hr14
        refine W.eq (g2 := F0 m 12 ls [.null]) rfl ?_
        refine lv_astoreN (lv' := [(6, .null), (5, .ref (qa 0 j_x)), (0, .ref o), (1, .int 0), (2, .int (nI j_x)), (3, .int y), (4, .int into)]) hx hb dX8_reckon_12 hl (by decide) rfl (fun ls hl => ?_)
        refine lv_aload_n hx hb dX8_reckon_14 rfl (lv_at hl 2 rfl) ?_
        refine lv_iload hx hb dX8_reckon_15 (lv_at hl 6 rfl) ?_
        refine va_csq (W.runV (As := [.int into]) (rest := []) ⟨hx, hb, hml, hown, hts⟩ (c_meterOf_no l G cy L F o qa Mm Dd Sl Pp Kr Bk Xx hR into hi_into) (cwV 1 hts gX8_reckon_X8_meterOf rfl rfl rfl (by decide +kernel) ⟨Nat.le_of_ble_eq_true rfl, Nat.le_of_ble_eq_true rfl⟩) (preV_of okP (⟨hP, hK, hD.top⟩) (pl_recv hK hP (ci := 7) rfl hmo hFo)) rfl rfl hl.1 rfl (lv_room (Nat.le_of_ble_eq_true rfl)) dX8_reckon_17 ⟨Nat.le_of_ble_eq_true rfl, Nat.le_of_ble_eq_true rfl⟩) (fun r15 hr15 => ?_)
        subst hr15
        refine W.eq (g2 := F0 m 20 ls [.null]) rfl ?_
        refine lv_astoreN (lv' := [(7, .null), (6, .null), (5, .ref (qa 0 j_x)), (0, .ref o), (1, .int 0), (2, .int (nI j_x)), (3, .int y), (4, .int into)]) hx hb dX8_reckon_20 hl (by decide) rfl (fun ls hl => ?_)
        refine lv_aload hx hb dX8_reckon_22 (lv_at hl 2 rfl) ?_
        refine lv_ifnull hx hb dX8_reckon_24 ?_
        refine lv_aloadN hx hb dX8_reckon_27 (lv_at hl 1 rfl) ?_
        refine lv_ifnullN (tgt := 37) hx hb dX8_reckon_29 (by decide) ?_
        refine lv_sipush (v := -1001) hx hb dX8_reckon_37 (by decide) ?_
        exact W.iret (v := -1001) hx hb hr (fun t ht hW => ⟨⟨-1001, F, rfl, (by have hsp : sp_reckon Mm Xx 0 (nI j_x) y into = (-1001, Mm, Xx) := (by unfold sp_reckon; rw [hi_x, hi_y]); rw [hsp]; exact ⟨rfl, hR⟩), (by show va_P _ _ _ t.heap; rw [ht]; exact hP)⟩, hS.F ht⟩) hS.2.2 dX8_reckon_40
      · subst ei_into
        obtain ⟨hmm_into, nm_into, rl_into, hFm_into, hok_into⟩ := hRM j_into hj_into
        refine lv_aload_n hx hb dX8_reckon_0 rfl (lv_at hl 0 rfl) ?_
        refine lv_iload_n hx hb dX8_reckon_1 rfl (lv_at hl 2 rfl) ?_
        refine va_csq (W.runV (As := [.int (nI j_x)]) (rest := []) ⟨hx, hb, hml, hown, hts⟩ (c_meterOf l G cy L F o qa Mm Dd Sl Pp Kr Bk Xx hR j_x hj_x) (cwV 1 hts gX8_reckon_X8_meterOf rfl rfl rfl (by decide +kernel) ⟨Nat.le_of_ble_eq_true rfl, Nat.le_of_ble_eq_true rfl⟩) (preV_of okP (⟨hP, hK, hD.top⟩) (pl_recv hK hP (ci := 7) rfl hmo hFo)) rfl rfl hl.1 rfl (lv_room (Nat.le_of_ble_eq_true rfl)) dX8_reckon_2 ⟨Nat.le_of_ble_eq_true rfl, Nat.le_of_ble_eq_true rfl⟩) (fun r16 hr16 => ?_)
        subst hr16
        refine W.eq (g2 := F0 m 5 ls [.ref (qa 0 j_x)]) rfl ?_
        refine lv_astore (lv' := [(5, .ref (qa 0 j_x)), (0, .ref o), (1, .int 0), (2, .int (nI j_x)), (3, .int y), (4, .int (nI j_into))]) hx hb dX8_reckon_5 hl (by decide) rfl (fun ls hl => ?_)
        refine lv_aload_n hx hb dX8_reckon_7 rfl (lv_at hl 1 rfl) ?_
        refine lv_iload_n hx hb dX8_reckon_8 rfl (lv_at hl 4 rfl) ?_
        refine va_csq (W.runV (As := [.int y]) (rest := []) ⟨hx, hb, hml, hown, hts⟩ (c_meterOf_no l G cy L F o qa Mm Dd Sl Pp Kr Bk Xx hR y hi_y) (cwV 1 hts gX8_reckon_X8_meterOf rfl rfl rfl (by decide +kernel) ⟨Nat.le_of_ble_eq_true rfl, Nat.le_of_ble_eq_true rfl⟩) (preV_of okP (⟨hP, hK, hD.top⟩) (pl_recv hK hP (ci := 7) rfl hmo hFo)) rfl rfl hl.1 rfl (lv_room (Nat.le_of_ble_eq_true rfl)) dX8_reckon_9 ⟨Nat.le_of_ble_eq_true rfl, Nat.le_of_ble_eq_true rfl⟩) (fun r17 hr17 => ?_)
        subst hr17
        refine W.eq (g2 := F0 m 12 ls [.null]) rfl ?_
        refine lv_astoreN (lv' := [(6, .null), (5, .ref (qa 0 j_x)), (0, .ref o), (1, .int 0), (2, .int (nI j_x)), (3, .int y), (4, .int (nI j_into))]) hx hb dX8_reckon_12 hl (by decide) rfl (fun ls hl => ?_)
        refine lv_aload_n hx hb dX8_reckon_14 rfl (lv_at hl 2 rfl) ?_
        refine lv_iload hx hb dX8_reckon_15 (lv_at hl 6 rfl) ?_
        refine va_csq (W.runV (As := [.int (nI j_into)]) (rest := []) ⟨hx, hb, hml, hown, hts⟩ (c_meterOf l G cy L F o qa Mm Dd Sl Pp Kr Bk Xx hR j_into hj_into) (cwV 1 hts gX8_reckon_X8_meterOf rfl rfl rfl (by decide +kernel) ⟨Nat.le_of_ble_eq_true rfl, Nat.le_of_ble_eq_true rfl⟩) (preV_of okP (⟨hP, hK, hD.top⟩) (pl_recv hK hP (ci := 7) rfl hmo hFo)) rfl rfl hl.1 rfl (lv_room (Nat.le_of_ble_eq_true rfl)) dX8_reckon_17 ⟨Nat.le_of_ble_eq_true rfl, Nat.le_of_ble_eq_true rfl⟩) (fun r18 hr18 => ?_)
        subst hr18
        refine W.eq (g2 := F0 m 20 ls [.ref (qa 0 j_into)]) rfl ?_
        refine lv_astore (lv' := [(7, .ref (qa 0 j_into)), (6, .null), (5, .ref (qa 0 j_x)), (0, .ref o), (1, .int 0), (2, .int (nI j_x)), (3, .int y), (4, .int (nI j_into))]) hx hb dX8_reckon_20 hl (by decide) rfl (fun ls hl => ?_)
        refine lv_aload hx hb dX8_reckon_22 (lv_at hl 2 rfl) ?_
        refine lv_ifnull hx hb dX8_reckon_24 ?_
        refine lv_aloadN hx hb dX8_reckon_27 (lv_at hl 1 rfl) ?_
        refine lv_ifnullN (tgt := 37) hx hb dX8_reckon_29 (by decide) ?_
        refine lv_sipush (v := -1001) hx hb dX8_reckon_37 (by decide) ?_
        exact W.iret (v := -1001) hx hb hr (fun t ht hW => ⟨⟨-1001, F, rfl, (by have hsp : sp_reckon Mm Xx 0 (nI j_x) y (nI j_into) = (-1001, Mm, Xx) := (by unfold sp_reckon; rw [hi_x, hi_y]); rw [hsp]; exact ⟨rfl, hR⟩), (by show va_P _ _ _ t.heap; rw [ht]; exact hP)⟩, hS.F ht⟩) hS.2.2 dX8_reckon_40
    · subst ei_y
      obtain ⟨hmm_y, nm_y, rl_y, hFm_y, hok_y⟩ := hRM j_y hj_y
      rcases ixc 10 into with hi_into | ⟨j_into, hj_into, hi_into, ei_into⟩
      · refine lv_aload_n hx hb dX8_reckon_0 rfl (lv_at hl 0 rfl) ?_
        refine lv_iload_n hx hb dX8_reckon_1 rfl (lv_at hl 2 rfl) ?_
        refine va_csq (W.runV (As := [.int (nI j_x)]) (rest := []) ⟨hx, hb, hml, hown, hts⟩ (c_meterOf l G cy L F o qa Mm Dd Sl Pp Kr Bk Xx hR j_x hj_x) (cwV 1 hts gX8_reckon_X8_meterOf rfl rfl rfl (by decide +kernel) ⟨Nat.le_of_ble_eq_true rfl, Nat.le_of_ble_eq_true rfl⟩) (preV_of okP (⟨hP, hK, hD.top⟩) (pl_recv hK hP (ci := 7) rfl hmo hFo)) rfl rfl hl.1 rfl (lv_room (Nat.le_of_ble_eq_true rfl)) dX8_reckon_2 ⟨Nat.le_of_ble_eq_true rfl, Nat.le_of_ble_eq_true rfl⟩) (fun r19 hr19 => ?_)
        subst hr19
        refine W.eq (g2 := F0 m 5 ls [.ref (qa 0 j_x)]) rfl ?_
        refine lv_astore (lv' := [(5, .ref (qa 0 j_x)), (0, .ref o), (1, .int 0), (2, .int (nI j_x)), (3, .int (nI j_y)), (4, .int into)]) hx hb dX8_reckon_5 hl (by decide) rfl (fun ls hl => ?_)
        refine lv_aload_n hx hb dX8_reckon_7 rfl (lv_at hl 1 rfl) ?_
        refine lv_iload_n hx hb dX8_reckon_8 rfl (lv_at hl 4 rfl) ?_
        refine va_csq (W.runV (As := [.int (nI j_y)]) (rest := []) ⟨hx, hb, hml, hown, hts⟩ (c_meterOf l G cy L F o qa Mm Dd Sl Pp Kr Bk Xx hR j_y hj_y) (cwV 1 hts gX8_reckon_X8_meterOf rfl rfl rfl (by decide +kernel) ⟨Nat.le_of_ble_eq_true rfl, Nat.le_of_ble_eq_true rfl⟩) (preV_of okP (⟨hP, hK, hD.top⟩) (pl_recv hK hP (ci := 7) rfl hmo hFo)) rfl rfl hl.1 rfl (lv_room (Nat.le_of_ble_eq_true rfl)) dX8_reckon_9 ⟨Nat.le_of_ble_eq_true rfl, Nat.le_of_ble_eq_true rfl⟩) (fun r20 hr20 => ?_)
        subst hr20
        refine W.eq (g2 := F0 m 12 ls [.ref (qa 0 j_y)]) rfl ?_
        refine lv_astore (lv' := [(6, .ref (qa 0 j_y)), (5, .ref (qa 0 j_x)), (0, .ref o), (1, .int 0), (2, .int (nI j_x)), (3, .int (nI j_y)), (4, .int into)]) hx hb dX8_reckon_12 hl (by decide) rfl (fun ls hl => ?_)
        refine lv_aload_n hx hb dX8_reckon_14 rfl (lv_at hl 2 rfl) ?_
        refine lv_iload hx hb dX8_reckon_15 (lv_at hl 6 rfl) ?_
        refine va_csq (W.runV (As := [.int into]) (rest := []) ⟨hx, hb, hml, hown, hts⟩ (c_meterOf_no l G cy L F o qa Mm Dd Sl Pp Kr Bk Xx hR into hi_into) (cwV 1 hts gX8_reckon_X8_meterOf rfl rfl rfl (by decide +kernel) ⟨Nat.le_of_ble_eq_true rfl, Nat.le_of_ble_eq_true rfl⟩) (preV_of okP (⟨hP, hK, hD.top⟩) (pl_recv hK hP (ci := 7) rfl hmo hFo)) rfl rfl hl.1 rfl (lv_room (Nat.le_of_ble_eq_true rfl)) dX8_reckon_17 ⟨Nat.le_of_ble_eq_true rfl, Nat.le_of_ble_eq_true rfl⟩) (fun r21 hr21 => ?_)
        subst hr21
        refine W.eq (g2 := F0 m 20 ls [.null]) rfl ?_
        refine lv_astoreN (lv' := [(7, .null), (6, .ref (qa 0 j_y)), (5, .ref (qa 0 j_x)), (0, .ref o), (1, .int 0), (2, .int (nI j_x)), (3, .int (nI j_y)), (4, .int into)]) hx hb dX8_reckon_20 hl (by decide) rfl (fun ls hl => ?_)
        refine lv_aload hx hb dX8_reckon_22 (lv_at hl 2 rfl) ?_
        refine lv_ifnull hx hb dX8_reckon_24 ?_
        refine lv_aload hx hb dX8_reckon_27 (lv_at hl 1 rfl) ?_
        refine lv_ifnull hx hb dX8_reckon_29 ?_
        refine lv_aloadN hx hb dX8_reckon_32 (lv_at hl 0 rfl) ?_
        refine lv_ifnonnullN hx hb dX8_reckon_34 ?_
        refine lv_sipush (v := -1001) hx hb dX8_reckon_37 (by decide) ?_
        exact W.iret (v := -1001) hx hb hr (fun t ht hW => ⟨⟨-1001, F, rfl, (by have hsp : sp_reckon Mm Xx 0 (nI j_x) (nI j_y) into = (-1001, Mm, Xx) := (by unfold sp_reckon; rw [hi_x, hi_y, hi_into]); rw [hsp]; exact ⟨rfl, hR⟩), (by show va_P _ _ _ t.heap; rw [ht]; exact hP)⟩, hS.F ht⟩) hS.2.2 dX8_reckon_40
      · subst ei_into
        obtain ⟨hmm_into, nm_into, rl_into, hFm_into, hok_into⟩ := hRM j_into hj_into
        refine lv_aload_n hx hb dX8_reckon_0 rfl (lv_at hl 0 rfl) ?_
        refine lv_iload_n hx hb dX8_reckon_1 rfl (lv_at hl 2 rfl) ?_
        refine va_csq (W.runV (As := [.int (nI j_x)]) (rest := []) ⟨hx, hb, hml, hown, hts⟩ (c_meterOf l G cy L F o qa Mm Dd Sl Pp Kr Bk Xx hR j_x hj_x) (cwV 1 hts gX8_reckon_X8_meterOf rfl rfl rfl (by decide +kernel) ⟨Nat.le_of_ble_eq_true rfl, Nat.le_of_ble_eq_true rfl⟩) (preV_of okP (⟨hP, hK, hD.top⟩) (pl_recv hK hP (ci := 7) rfl hmo hFo)) rfl rfl hl.1 rfl (lv_room (Nat.le_of_ble_eq_true rfl)) dX8_reckon_2 ⟨Nat.le_of_ble_eq_true rfl, Nat.le_of_ble_eq_true rfl⟩) (fun r22 hr22 => ?_)
        subst hr22
        refine W.eq (g2 := F0 m 5 ls [.ref (qa 0 j_x)]) rfl ?_
        refine lv_astore (lv' := [(5, .ref (qa 0 j_x)), (0, .ref o), (1, .int 0), (2, .int (nI j_x)), (3, .int (nI j_y)), (4, .int (nI j_into))]) hx hb dX8_reckon_5 hl (by decide) rfl (fun ls hl => ?_)
        refine lv_aload_n hx hb dX8_reckon_7 rfl (lv_at hl 1 rfl) ?_
        refine lv_iload_n hx hb dX8_reckon_8 rfl (lv_at hl 4 rfl) ?_
        refine va_csq (W.runV (As := [.int (nI j_y)]) (rest := []) ⟨hx, hb, hml, hown, hts⟩ (c_meterOf l G cy L F o qa Mm Dd Sl Pp Kr Bk Xx hR j_y hj_y) (cwV 1 hts gX8_reckon_X8_meterOf rfl rfl rfl (by decide +kernel) ⟨Nat.le_of_ble_eq_true rfl, Nat.le_of_ble_eq_true rfl⟩) (preV_of okP (⟨hP, hK, hD.top⟩) (pl_recv hK hP (ci := 7) rfl hmo hFo)) rfl rfl hl.1 rfl (lv_room (Nat.le_of_ble_eq_true rfl)) dX8_reckon_9 ⟨Nat.le_of_ble_eq_true rfl, Nat.le_of_ble_eq_true rfl⟩) (fun r23 hr23 => ?_)
        subst hr23
        refine W.eq (g2 := F0 m 12 ls [.ref (qa 0 j_y)]) rfl ?_
        refine lv_astore (lv' := [(6, .ref (qa 0 j_y)), (5, .ref (qa 0 j_x)), (0, .ref o), (1, .int 0), (2, .int (nI j_x)), (3, .int (nI j_y)), (4, .int (nI j_into))]) hx hb dX8_reckon_12 hl (by decide) rfl (fun ls hl => ?_)
        refine lv_aload_n hx hb dX8_reckon_14 rfl (lv_at hl 2 rfl) ?_
        refine lv_iload hx hb dX8_reckon_15 (lv_at hl 6 rfl) ?_
        refine va_csq (W.runV (As := [.int (nI j_into)]) (rest := []) ⟨hx, hb, hml, hown, hts⟩ (c_meterOf l G cy L F o qa Mm Dd Sl Pp Kr Bk Xx hR j_into hj_into) (cwV 1 hts gX8_reckon_X8_meterOf rfl rfl rfl (by decide +kernel) ⟨Nat.le_of_ble_eq_true rfl, Nat.le_of_ble_eq_true rfl⟩) (preV_of okP (⟨hP, hK, hD.top⟩) (pl_recv hK hP (ci := 7) rfl hmo hFo)) rfl rfl hl.1 rfl (lv_room (Nat.le_of_ble_eq_true rfl)) dX8_reckon_17 ⟨Nat.le_of_ble_eq_true rfl, Nat.le_of_ble_eq_true rfl⟩) (fun r24 hr24 => ?_)
        subst hr24
        refine W.eq (g2 := F0 m 20 ls [.ref (qa 0 j_into)]) rfl ?_
        refine lv_astore (lv' := [(7, .ref (qa 0 j_into)), (6, .ref (qa 0 j_y)), (5, .ref (qa 0 j_x)), (0, .ref o), (1, .int 0), (2, .int (nI j_x)), (3, .int (nI j_y)), (4, .int (nI j_into))]) hx hb dX8_reckon_20 hl (by decide) rfl (fun ls hl => ?_)
        refine lv_aload hx hb dX8_reckon_22 (lv_at hl 2 rfl) ?_
        refine lv_ifnull hx hb dX8_reckon_24 ?_
        refine lv_aload hx hb dX8_reckon_27 (lv_at hl 1 rfl) ?_
        refine lv_ifnull hx hb dX8_reckon_29 ?_
        refine lv_aload hx hb dX8_reckon_32 (lv_at hl 0 rfl) ?_
        refine lv_ifnonnull (tgt := 41) hx hb dX8_reckon_34 (by decide) ?_
        refine lv_iload_n hx hb dX8_reckon_41 rfl (lv_at hl 4 rfl) ?_
        refine lv_if_lt (tgt := 50) hx hb dX8_reckon_42 (by decide) (fun c25 => absurd c25 (by decide)) (fun c25 => ?_)
        refine lv_iload_n hx hb dX8_reckon_45 rfl (lv_at hl 4 rfl) ?_
        refine lv_iconst (v := 4) hx hb dX8_reckon_46 (by decide) ?_
        refine lv_icmp_le (tgt := 54) hx hb dX8_reckon_47 (by decide) (fun c26 => ?_) (fun c26 => absurd (by decide) c26)
        refine lv_aload hx hb dX8_reckon_54 (lv_at hl 2 rfl) ?_
        refine pg_get (ci := 4) (C := RX4) (T := TX4) (N := 3) hx hb hts hinX4 hown hK hP hmm_x hFm_x rfl 0 (by decide) (hts (.fieldLink RX8 103 "RopeDrums$Meter" "lane" "I") (by decide +kernel)) (fun _ h9 => h9) rfl dX8_reckon_56 ?_
        refine lv_aload hx hb dX8_reckon_59 (lv_at hl 1 rfl) ?_
        refine pg_get (ci := 4) (C := RX4) (T := TX4) (N := 3) hx hb hts hinX4 hown hK hP hmm_y hFm_y rfl 0 (by decide) (hts (.fieldLink RX8 103 "RopeDrums$Meter" "lane" "I") (by decide +kernel)) (fun _ h9 => h9) rfl dX8_reckon_61 ?_
        refine va_mmax hx hb (by rw [hml]; exact hl.1.symm) hown (hts (.methodLink RX8 117 Lib.Math.max.name) (by decide +kernel)) (hts (.static Lib.Math.max.name) (by decide +kernel)) (hts (.initialized "java/lang/Math") (by decide +kernel)) (hts (.code Lib.Math.max.name Lib.Math.max.code 2 (some .int)) (by decide +kernel)) (Nat.le_of_ble_eq_true rfl) (Nat.le_of_ble_eq_true rfl) (Nat.zero_le _) (Nat.zero_le _) dX8_reckon_64 ?_
        refine lv_topi (fun v27 ev27 => ?_)
        rw [mx_eq] at ev27
        subst ev27
        have hmx := mx_v hok_x.lane hok_y.lane
        refine lv_istore (lv' := [(8, .int (mx (Mm.1 j_x) (Mm.1 j_y))), (7, .ref (qa 0 j_into)), (6, .ref (qa 0 j_y)), (5, .ref (qa 0 j_x)), (0, .ref o), (1, .int 0), (2, .int (nI j_x)), (3, .int (nI j_y)), (4, .int (nI j_into))]) hx hb dX8_reckon_67 hl (by decide) rfl (fun ls hl => ?_)
        refine lv_iload hx hb dX8_reckon_69 (lv_at hl 0 rfl) ?_
        refine lv_iconst (v := 1) hx hb dX8_reckon_71 (by decide) ?_
        refine lv_icmp_gt (tgt := 95) hx hb dX8_reckon_72 (by decide) (fun c28 => ?_) (fun c28 => ?_)
        · rcases (hmx.2 c28).1 with hmxl | hmxl
          · refine lv_iload_n hx hb dX8_reckon_95 rfl (lv_at hl 5 rfl) ?_
            refine lv_aload hx hb dX8_reckon_96 (lv_at hl 3 rfl) ?_
            refine lv_iload hx hb dX8_reckon_98 (lv_at hl 0 rfl) ?_
            refine vp_callSd (W.runV (As := [.int (mx (Mm.1 j_x) (Mm.1 j_y))]) (rest := [.int 0]) ⟨hx, hb, hml, hown, hts⟩ (c_asReal l G cy L F (qa 0 j_x) (Mm.1 j_x) nm_x rl_x hmm_x hFm_x (mx (Mm.1 j_x) (Mm.1 j_y)) hok_x.ne) (cwV 1 hts gX8_reckon_X4_asReal rfl rfl rfl (by decide +kernel) ⟨Nat.le_of_ble_eq_true rfl, Nat.le_of_ble_eq_true rfl⟩) (preV_of okP (⟨hP, hK, hD.top⟩) (pl_recv hK hP (ci := 4) rfl hmm_x hFm_x)) rfl rfl hl.1 rfl (lv_room (Nat.le_of_ble_eq_true rfl)) dX8_reckon_100 ⟨Nat.le_of_ble_eq_true rfl, Nat.le_of_ble_eq_true rfl⟩) (fun r29 hr29 => ?_)
            refine lv_aload hx hb dX8_reckon_103 (lv_at hl 2 rfl) ?_
            refine lv_iload hx hb dX8_reckon_105 (lv_at hl 0 rfl) ?_
            refine vp_callSd (W.runV (As := [.int (mx (Mm.1 j_x) (Mm.1 j_y))]) (rest := [.double r29, .int 0]) ⟨hx, hb, hml, hown, hts⟩ (c_asReal l G cy L F (qa 0 j_y) (Mm.1 j_y) nm_y rl_y hmm_y hFm_y (mx (Mm.1 j_x) (Mm.1 j_y)) hok_y.ne) (cwV 1 hts gX8_reckon_X4_asReal rfl rfl rfl (by decide +kernel) ⟨Nat.le_of_ble_eq_true rfl, Nat.le_of_ble_eq_true rfl⟩) (preV_of okP (⟨hP, hK, hD.top⟩) (pl_recv hK hP (ci := 4) rfl hmm_y hFm_y)) rfl rfl hl.1 rfl (lv_room (Nat.le_of_ble_eq_true rfl)) dX8_reckon_107 ⟨Nat.le_of_ble_eq_true rfl, Nat.le_of_ble_eq_true rfl⟩) (fun r30 hr30 => ?_)
            refine vp_callSi (W.runS (As := [.int 0, .double r29, .double r30]) (rest := []) ⟨hx, hb, hml, hown, hts⟩ (c_isVoid_0 l r29 r30) (va_cwS 3 hts gX8_reckon_X8_isVoid rfl rfl rfl (by decide +kernel) ⟨Nat.le_of_ble_eq_true rfl, Nat.le_of_ble_eq_true rfl⟩) (preS_of okT (trivial)) rfl rfl hl.1 rfl (lv_room (Nat.le_of_ble_eq_true rfl)) dX8_reckon_110 ⟨Nat.le_of_ble_eq_true rfl, Nat.le_of_ble_eq_true rfl⟩) (fun r31 hr31 => ?_)
            rw [hr29, hr30, hmxl, (real_2 hok_x).1, (real_2 hok_y).1, vf0 (real_2 hok_x).2.1 (real_2 hok_y).2.1] at hr31
            refine lv_if_eq (tgt := 122) hx hb dX8_reckon_113 (by decide) (fun c32 => ?_) (fun c32 => ?_)
            · have hnan : FP.Core.fIsNaN (rkF 0 (fl (tn (Mm.1 j_x) (Mm.2 j_x) 2)) (fl (tn (Mm.1 j_y) (Mm.2 j_y) 2))) = false := by have hc := c32; rw [hr31] at hc; exact Bool.eq_false_iff.mpr (fun q => absurd ((if_pos (t := (1 : Int32)) (e := 0) q).symm.trans hc) (by decide))
              refine lv_iload hx hb dX8_reckon_122 (lv_at hl 0 rfl) ?_
              refine lv_iconst (v := 2) hx hb dX8_reckon_124 (by decide) ?_
              refine lv_icmp_ne (tgt := 146) hx hb dX8_reckon_125 (by decide) (fun c33 => absurd (hmxl) c33) (fun c33 => ?_)
              refine lv_iload_n hx hb dX8_reckon_128 rfl (lv_at hl 5 rfl) ?_
              refine lv_aload hx hb dX8_reckon_129 (lv_at hl 3 rfl) ?_
              refine vp_callSf (W.runV (As := []) (rest := [.int 0]) ⟨hx, hb, hml, hown, hts⟩ (c_asFloat l G cy L F (qa 0 j_x) (Mm.1 j_x) nm_x rl_x hmm_x hFm_x  hok_x.ne) (cwV 0 hts gX8_reckon_X4_asFloat rfl rfl rfl (by decide +kernel) ⟨Nat.le_of_ble_eq_true rfl, Nat.le_of_ble_eq_true rfl⟩) (preV_of okP (⟨hP, hK, hD.top⟩) (pl_recv hK hP (ci := 4) rfl hmm_x hFm_x)) rfl rfl hl.1 rfl (lv_room (Nat.le_of_ble_eq_true rfl)) dX8_reckon_131 ⟨Nat.le_of_ble_eq_true rfl, Nat.le_of_ble_eq_true rfl⟩) (fun r34 hr34 => ?_)
              refine lv_aload hx hb dX8_reckon_134 (lv_at hl 2 rfl) ?_
              refine vp_callSf (W.runV (As := []) (rest := [.float r34, .int 0]) ⟨hx, hb, hml, hown, hts⟩ (c_asFloat l G cy L F (qa 0 j_y) (Mm.1 j_y) nm_y rl_y hmm_y hFm_y  hok_y.ne) (cwV 0 hts gX8_reckon_X4_asFloat rfl rfl rfl (by decide +kernel) ⟨Nat.le_of_ble_eq_true rfl, Nat.le_of_ble_eq_true rfl⟩) (preV_of okP (⟨hP, hK, hD.top⟩) (pl_recv hK hP (ci := 4) rfl hmm_y hFm_y)) rfl rfl hl.1 rfl (lv_room (Nat.le_of_ble_eq_true rfl)) dX8_reckon_136 ⟨Nat.le_of_ble_eq_true rfl, Nat.le_of_ble_eq_true rfl⟩) (fun r35 hr35 => ?_)
              refine vp_callSf (W.runS (As := [.int 0, .float r34, .float r35]) (rest := []) ⟨hx, hb, hml, hown, hts⟩ (c_makeFloat_0 l ad r34 r35 (by rw [hr34]; exact asFloat_ok hok_x.ne) (by rw [hr35]; exact asFloat_ok hok_y.ne) (by rw [hr34, hr35, (real_2 hok_x).2.2, (real_2 hok_y).2.2]; exact hnan)) (va_cwS 3 hts gX8_reckon_X8_makeFloat rfl rfl rfl (by decide +kernel) ⟨Nat.le_of_ble_eq_true rfl, Nat.le_of_ble_eq_true rfl⟩) (preS_of okE (pE.low hE hN hS)) rfl rfl hl.1 rfl (lv_room (Nat.le_of_ble_eq_true rfl)) dX8_reckon_139 ⟨Nat.le_of_ble_eq_true rfl, Nat.le_of_ble_eq_true rfl⟩) (fun r36 hr36 => ?_)
              rw [hr34, hr35, (real_2 hok_x).2.2, (real_2 hok_y).2.2] at hr36
              refine lv_f2d hx hb dX8_reckon_142 (n64.mpr (f2d_ok (by rw [hr36]; exact (FP.Core.notNaN_iff32 _).mp hnan)).2) ?_
              refine lv_topd (fun v37 ev37 => ?_)
              refine lv_goto (tgt := 160) hx hb dX8_reckon_143 (by decide) ?_
              refine lv_dstore (lv' := [(9, .double v37), (8, .int (mx (Mm.1 j_x) (Mm.1 j_y))), (7, .ref (qa 0 j_into)), (6, .ref (qa 0 j_y)), (5, .ref (qa 0 j_x)), (0, .ref o), (1, .int 0), (2, .int (nI j_x)), (3, .int (nI j_y)), (4, .int (nI j_into))]) hx hb dX8_reckon_160 hl (by decide) rfl (fun ls hl => ?_)
              refine lv_aload hx hb dX8_reckon_162 (lv_at hl 2 rfl) ?_
              refine lv_iload hx hb dX8_reckon_164 (lv_at hl 1 rfl) ?_
              refine lv_dload hx hb dX8_reckon_166 (lv_at hl 0 rfl) ?_
              refine va_callv (va_runV (As := [.int (mx (Mm.1 j_x) (Mm.1 j_y)), .double v37]) (rest := []) ⟨hx, hb, hml, hown, hts⟩ (c_holdReal l G cy L F s.heap.size (qa 0 j_into) (Mm.1 j_into) nm_into rl_into hmm_into hFm_into (mx (Mm.1 j_x) (Mm.1 j_y)) v37) (cwV 2 hts gX8_reckon_X4_holdReal rfl rfl rfl (by decide +kernel) ⟨Nat.le_of_ble_eq_true rfl, Nat.le_of_ble_eq_true rfl⟩) (preV_of okQ (⟨rfl, hP, hK, hD.top⟩) (pl_recv hK hP (ci := 4) rfl hmm_into hFm_into)) rfl rfl hl.1 rfl (lv_room (Nat.le_of_ble_eq_true rfl)) dX8_reckon_168 ⟨Nat.le_of_ble_eq_true rfl, Nat.le_of_ble_eq_true rfl⟩) hS (fun q _ h => pl_free hD hS hA q h) (pl_free hD hS hA) (fun F38 t H1 locs ht hvm hw hP1 hz1 hk1 hS => ?_)
              have hP1 : va_P G vwCl (va_pl L F38) t.heap := hP1
              rw [ht] at hP1
              have hP := hP1
              generalize H1 = H at hP hS ⊢
              have eF38 : F38 = va_up F (qa 0 j_into) (.inr (4, [.int (mx (Mm.1 j_x) (Mm.1 j_y)), .long nm_into, .double v37])) := hw
              have hFo_38 : F38 o = .inr (7, [.ref (qa 8 0), .ref (qa 8 1), .ref (qa 8 2), .ref (qa 8 3), .ref (qa 8 4), .ref (qa 8 5), .ref (qa 8 6), .int Pp.1, .int Xx.1]) := by rw [eF38, va_up_ne _ _ (pl_ne hFo hFm_into rfl)]; exact hFo
              have hFqa80_38 : F38 (qa 8 0) = cQ (cy 7) 10 (pR 10 (qa 0)) := by rw [eF38, va_up_ne _ _ (pl_ne hF0 hFm_into rfl)]; exact hF0
              have hFqa81_38 : F38 (qa 8 1) = cQ (cy 5) 6 (pR 6 (qa 1)) := by rw [eF38, va_up_ne _ _ (pl_ne hF1 hFm_into rfl)]; exact hF1
              have hFqa82_38 : F38 (qa 8 2) = cQ (cy 6) 8 (pR 8 (qa 2)) := by rw [eF38, va_up_ne _ _ (pl_ne hF2 hFm_into rfl)]; exact hF2
              have hFqa83_38 : F38 (qa 8 3) = cQ (cy 9) 30 (pR Pp.1.toInt.toNat (qa 7)) := by rw [eF38, va_up_ne _ _ (pl_ne hFs hFm_into rfl)]; exact hFs
              have hFqa84_38 : F38 (qa 8 4) = cQ (cy 8) 5 (pR 5 (qa 4)) := by rw [eF38, va_up_ne _ _ (pl_ne hF4 hFm_into rfl)]; exact hF4
              have hFqa85_38 : F38 (qa 8 5) = cQ (cy 4) 4 (pR 4 (qa 6)) := by rw [eF38, va_up_ne _ _ (pl_ne hF5 hFm_into rfl)]; exact hF5
              have hFqa86_38 : F38 (qa 8 6) = cI (cy 1) 6 Xx.2 := by rw [eF38, va_up_ne _ _ (pl_ne hFf hFm_into rfl)]; exact hFf
              have hFqa0j_into_38 : F38 (qa 0 j_into) = .inr (4, [.int (mx (Mm.1 j_x) (Mm.1 j_y)), .long nm_into, .double v37]) := by rw [eF38]; exact va_up_self _ _ _
              have hR39 : Rep cy L o qa (setM Mm j_into 2 (rkF 0 (fl (tn (Mm.1 j_x) (Mm.2 j_x) 2)) (fl (tn (Mm.1 j_y) (Mm.2 j_y) 2))).toInt32.toInt64) Dd Sl Pp Kr Bk Xx F38 := by rw [eF38, ev37, hr36, hmxl]; exact hR.meter hj_into (real_okM2 ((FP.Core.notNaN_iff32 _).mp hnan))
              refine lv_aload_n hx hb dX8_reckon_171 rfl (lv_at hl 5 rfl) ?_
              refine lv_iload hx hb dX8_reckon_172 (lv_at hl 1 rfl) ?_
              refine va_calli (va_runV (As := [.int (mx (Mm.1 j_x) (Mm.1 j_y))]) (rest := []) ⟨hx, hb, hml, hown, hts⟩ (c_succeed l G cy L F38 H.size o qa (setM Mm j_into 2 (rkF 0 (fl (tn (Mm.1 j_x) (Mm.2 j_x) 2)) (fl (tn (Mm.1 j_y) (Mm.2 j_y) 2))).toInt32.toInt64) Dd Sl Pp Kr Bk Xx hR39 (mx (Mm.1 j_x) (Mm.1 j_y))) (cwV 1 hts gX8_reckon_X8_succeed rfl rfl rfl (by decide +kernel) ⟨Nat.le_of_ble_eq_true rfl, Nat.le_of_ble_eq_true rfl⟩) (preV_of okQ (⟨rfl, hP, hK, hD.top⟩) (pl_recv hK hP (ci := 7) rfl hmo hFo_38)) rfl rfl hl.1 rfl (lv_room (Nat.le_of_ble_eq_true rfl)) dX8_reckon_174 ⟨Nat.le_of_ble_eq_true rfl, Nat.le_of_ble_eq_true rfl⟩) hS (fun q _ h => pl_free hD hS hA q h) (pl_free hD hS hA) (fun r41 F40 t H1 locs ht hvm hw hP1 hz1 hk1 hS => ?_)
              have hP1 : va_P G vwCl (va_pl L F40) t.heap := hP1
              rw [ht] at hP1
              have hP := hP1
              generalize H1 = H at hP hS ⊢
              obtain ⟨hqr41, hR42⟩ := hw
              exact W.iret (v := r41) hx hb hr (fun t ht hW => ⟨⟨r41, F40, rfl, (by have hsp : sp_reckon Mm Xx 0 (nI j_x) (nI j_y) (nI j_into) = (2, setM Mm j_into 2 (rkF 0 (fl (tn (Mm.1 j_x) (Mm.2 j_x) 2)) (fl (tn (Mm.1 j_y) (Mm.2 j_y) 2))).toInt32.toInt64, goodX Xx) := (by unfold sp_reckon; rw [hi_x, hi_y, hi_into, ixk.1]; show rk Mm Xx 0 j_x j_y j_into = _; unfold rk; rw [if_neg (hmx.2 c28).2, if_pos hmxl]; exact if_neg (by rw [hnan]; decide)); rw [hsp]; exact ⟨(by rw [hqr41]; exact hmxl), hR42⟩), (by show va_P _ _ _ t.heap; rw [ht]; exact hP)⟩, hS.F ht⟩) hS.2.2 dX8_reckon_177
            · have hnan : FP.Core.fIsNaN (rkF 0 (fl (tn (Mm.1 j_x) (Mm.2 j_x) 2)) (fl (tn (Mm.1 j_y) (Mm.2 j_y) 2))) = true := Decidable.byContradiction (fun q => c32 (by rw [hr31]; exact if_neg q))
              refine lv_aload_n hx hb dX8_reckon_116 rfl (lv_at hl 4 rfl) ?_
              refine lv_iconst (v := 5) hx hb dX8_reckon_117 (by decide) ?_
              refine va_calli (va_runV (As := [.int 5]) (rest := []) ⟨hx, hb, hml, hown, hts⟩ (c_fail_5 l G cy L F s.heap.size o qa Mm Dd Sl Pp Kr Bk Xx hR) (cwV 1 hts gX8_reckon_X8_fail rfl rfl rfl (by decide +kernel) ⟨Nat.le_of_ble_eq_true rfl, Nat.le_of_ble_eq_true rfl⟩) (preV_of okQ (⟨rfl, hP, hK, hD.top⟩) (pl_recv hK hP (ci := 7) rfl hmo hFo)) rfl rfl hl.1 rfl (lv_room (Nat.le_of_ble_eq_true rfl)) dX8_reckon_118 ⟨Nat.le_of_ble_eq_true rfl, Nat.le_of_ble_eq_true rfl⟩) hS (fun q _ h => pl_free hD hS hA q h) (pl_free hD hS hA) (fun r44 F43 t H1 locs ht hvm hw hP1 hz1 hk1 hS => ?_)
              have hP1 : va_P G vwCl (va_pl L F43) t.heap := hP1
              rw [ht] at hP1
              have hP := hP1
              generalize H1 = H at hP hS ⊢
              obtain ⟨hqr44, hR45⟩ := hw
              exact W.iret (v := r44) hx hb hr (fun t ht hW => ⟨⟨r44, F43, rfl, (by have hsp : sp_reckon Mm Xx 0 (nI j_x) (nI j_y) (nI j_into) = (-15, Mm, failX Xx 5) := (by unfold sp_reckon; rw [hi_x, hi_y, hi_into, ixk.1]; show rk Mm Xx 0 j_x j_y j_into = _; unfold rk; rw [if_neg (hmx.2 c28).2, if_pos hmxl]; exact if_pos hnan); rw [hsp]; exact ⟨hqr44, hR45⟩), (by show va_P _ _ _ t.heap; rw [ht]; exact hP)⟩, hS.F ht⟩) hS.2.2 dX8_reckon_121
          · refine lv_iload_n hx hb dX8_reckon_95 rfl (lv_at hl 5 rfl) ?_
            refine lv_aload hx hb dX8_reckon_96 (lv_at hl 3 rfl) ?_
            refine lv_iload hx hb dX8_reckon_98 (lv_at hl 0 rfl) ?_
            refine vp_callSd (W.runV (As := [.int (mx (Mm.1 j_x) (Mm.1 j_y))]) (rest := [.int 0]) ⟨hx, hb, hml, hown, hts⟩ (c_asReal l G cy L F (qa 0 j_x) (Mm.1 j_x) nm_x rl_x hmm_x hFm_x (mx (Mm.1 j_x) (Mm.1 j_y)) hok_x.ne) (cwV 1 hts gX8_reckon_X4_asReal rfl rfl rfl (by decide +kernel) ⟨Nat.le_of_ble_eq_true rfl, Nat.le_of_ble_eq_true rfl⟩) (preV_of okP (⟨hP, hK, hD.top⟩) (pl_recv hK hP (ci := 4) rfl hmm_x hFm_x)) rfl rfl hl.1 rfl (lv_room (Nat.le_of_ble_eq_true rfl)) dX8_reckon_100 ⟨Nat.le_of_ble_eq_true rfl, Nat.le_of_ble_eq_true rfl⟩) (fun r46 hr46 => ?_)
            refine lv_aload hx hb dX8_reckon_103 (lv_at hl 2 rfl) ?_
            refine lv_iload hx hb dX8_reckon_105 (lv_at hl 0 rfl) ?_
            refine vp_callSd (W.runV (As := [.int (mx (Mm.1 j_x) (Mm.1 j_y))]) (rest := [.double r46, .int 0]) ⟨hx, hb, hml, hown, hts⟩ (c_asReal l G cy L F (qa 0 j_y) (Mm.1 j_y) nm_y rl_y hmm_y hFm_y (mx (Mm.1 j_x) (Mm.1 j_y)) hok_y.ne) (cwV 1 hts gX8_reckon_X4_asReal rfl rfl rfl (by decide +kernel) ⟨Nat.le_of_ble_eq_true rfl, Nat.le_of_ble_eq_true rfl⟩) (preV_of okP (⟨hP, hK, hD.top⟩) (pl_recv hK hP (ci := 4) rfl hmm_y hFm_y)) rfl rfl hl.1 rfl (lv_room (Nat.le_of_ble_eq_true rfl)) dX8_reckon_107 ⟨Nat.le_of_ble_eq_true rfl, Nat.le_of_ble_eq_true rfl⟩) (fun r47 hr47 => ?_)
            refine vp_callSi (W.runS (As := [.int 0, .double r46, .double r47]) (rest := []) ⟨hx, hb, hml, hown, hts⟩ (c_isVoid_0 l r46 r47) (va_cwS 3 hts gX8_reckon_X8_isVoid rfl rfl rfl (by decide +kernel) ⟨Nat.le_of_ble_eq_true rfl, Nat.le_of_ble_eq_true rfl⟩) (preS_of okT (trivial)) rfl rfl hl.1 rfl (lv_room (Nat.le_of_ble_eq_true rfl)) dX8_reckon_110 ⟨Nat.le_of_ble_eq_true rfl, Nat.le_of_ble_eq_true rfl⟩) (fun r48 hr48 => ?_)
            rw [hr46, hr47, hmxl, (real_3 hok_x).1, (real_3 hok_y).1, void0 (real_3 hok_x).2.1 (real_3 hok_y).2.1] at hr48
            refine lv_if_eq (tgt := 122) hx hb dX8_reckon_113 (by decide) (fun c49 => ?_) (fun c49 => ?_)
            · have hnan : FP.Core.dIsNaN (rkD 0 (db (tn (Mm.1 j_x) (Mm.2 j_x) 3)) (db (tn (Mm.1 j_y) (Mm.2 j_y) 3))) = false := by have hc := c49; rw [hr48] at hc; exact Bool.eq_false_iff.mpr (fun q => absurd ((if_pos (t := (1 : Int32)) (e := 0) q).symm.trans hc) (by decide))
              refine lv_iload hx hb dX8_reckon_122 (lv_at hl 0 rfl) ?_
              refine lv_iconst (v := 2) hx hb dX8_reckon_124 (by decide) ?_
              refine lv_icmp_ne (tgt := 146) hx hb dX8_reckon_125 (by decide) (fun c50 => ?_) (fun c50 => absurd c50 (by rw [hmxl]; decide))
              refine lv_iload_n hx hb dX8_reckon_146 rfl (lv_at hl 5 rfl) ?_
              refine lv_aload hx hb dX8_reckon_147 (lv_at hl 3 rfl) ?_
              refine vp_callSd (W.runV (As := []) (rest := [.int 0]) ⟨hx, hb, hml, hown, hts⟩ (c_asDouble l G cy L F (qa 0 j_x) (Mm.1 j_x) nm_x rl_x hmm_x hFm_x ) (cwV 0 hts gX8_reckon_X4_asDouble rfl rfl rfl (by decide +kernel) ⟨Nat.le_of_ble_eq_true rfl, Nat.le_of_ble_eq_true rfl⟩) (preV_of okP (⟨hP, hK, hD.top⟩) (pl_recv hK hP (ci := 4) rfl hmm_x hFm_x)) rfl rfl hl.1 rfl (lv_room (Nat.le_of_ble_eq_true rfl)) dX8_reckon_149 ⟨Nat.le_of_ble_eq_true rfl, Nat.le_of_ble_eq_true rfl⟩) (fun r51 hr51 => ?_)
              refine lv_aload hx hb dX8_reckon_152 (lv_at hl 2 rfl) ?_
              refine vp_callSd (W.runV (As := []) (rest := [.double r51, .int 0]) ⟨hx, hb, hml, hown, hts⟩ (c_asDouble l G cy L F (qa 0 j_y) (Mm.1 j_y) nm_y rl_y hmm_y hFm_y ) (cwV 0 hts gX8_reckon_X4_asDouble rfl rfl rfl (by decide +kernel) ⟨Nat.le_of_ble_eq_true rfl, Nat.le_of_ble_eq_true rfl⟩) (preV_of okP (⟨hP, hK, hD.top⟩) (pl_recv hK hP (ci := 4) rfl hmm_y hFm_y)) rfl rfl hl.1 rfl (lv_room (Nat.le_of_ble_eq_true rfl)) dX8_reckon_154 ⟨Nat.le_of_ble_eq_true rfl, Nat.le_of_ble_eq_true rfl⟩) (fun r52 hr52 => ?_)
              refine vp_callSd (W.runS (As := [.int 0, .double r51, .double r52]) (rest := []) ⟨hx, hb, hml, hown, hts⟩ (c_makeDouble_0 l ad r51 r52 (by rw [hr51]; exact asDouble_ok hok_x.ne) (by rw [hr52]; exact asDouble_ok hok_y.ne) (by rw [hr51, hr52, (real_3 hok_x).2.2, (real_3 hok_y).2.2]; exact hnan)) (va_cwS 3 hts gX8_reckon_X8_makeDouble rfl rfl rfl (by decide +kernel) ⟨Nat.le_of_ble_eq_true rfl, Nat.le_of_ble_eq_true rfl⟩) (preS_of okE (pE.low hE hN hS)) rfl rfl hl.1 rfl (lv_room (Nat.le_of_ble_eq_true rfl)) dX8_reckon_157 ⟨Nat.le_of_ble_eq_true rfl, Nat.le_of_ble_eq_true rfl⟩) (fun r53 hr53 => ?_)
              rw [hr51, hr52, (real_3 hok_x).2.2, (real_3 hok_y).2.2] at hr53
              refine lv_dstore (lv' := [(9, .double r53), (8, .int (mx (Mm.1 j_x) (Mm.1 j_y))), (7, .ref (qa 0 j_into)), (6, .ref (qa 0 j_y)), (5, .ref (qa 0 j_x)), (0, .ref o), (1, .int 0), (2, .int (nI j_x)), (3, .int (nI j_y)), (4, .int (nI j_into))]) hx hb dX8_reckon_160 hl (by decide) rfl (fun ls hl => ?_)
              refine lv_aload hx hb dX8_reckon_162 (lv_at hl 2 rfl) ?_
              refine lv_iload hx hb dX8_reckon_164 (lv_at hl 1 rfl) ?_
              refine lv_dload hx hb dX8_reckon_166 (lv_at hl 0 rfl) ?_
              refine va_callv (va_runV (As := [.int (mx (Mm.1 j_x) (Mm.1 j_y)), .double r53]) (rest := []) ⟨hx, hb, hml, hown, hts⟩ (c_holdReal l G cy L F s.heap.size (qa 0 j_into) (Mm.1 j_into) nm_into rl_into hmm_into hFm_into (mx (Mm.1 j_x) (Mm.1 j_y)) r53) (cwV 2 hts gX8_reckon_X4_holdReal rfl rfl rfl (by decide +kernel) ⟨Nat.le_of_ble_eq_true rfl, Nat.le_of_ble_eq_true rfl⟩) (preV_of okQ (⟨rfl, hP, hK, hD.top⟩) (pl_recv hK hP (ci := 4) rfl hmm_into hFm_into)) rfl rfl hl.1 rfl (lv_room (Nat.le_of_ble_eq_true rfl)) dX8_reckon_168 ⟨Nat.le_of_ble_eq_true rfl, Nat.le_of_ble_eq_true rfl⟩) hS (fun q _ h => pl_free hD hS hA q h) (pl_free hD hS hA) (fun F54 t H1 locs ht hvm hw hP1 hz1 hk1 hS => ?_)
              have hP1 : va_P G vwCl (va_pl L F54) t.heap := hP1
              rw [ht] at hP1
              have hP := hP1
              generalize H1 = H at hP hS ⊢
              have eF54 : F54 = va_up F (qa 0 j_into) (.inr (4, [.int (mx (Mm.1 j_x) (Mm.1 j_y)), .long nm_into, .double r53])) := hw
              have hFo_54 : F54 o = .inr (7, [.ref (qa 8 0), .ref (qa 8 1), .ref (qa 8 2), .ref (qa 8 3), .ref (qa 8 4), .ref (qa 8 5), .ref (qa 8 6), .int Pp.1, .int Xx.1]) := by rw [eF54, va_up_ne _ _ (pl_ne hFo hFm_into rfl)]; exact hFo
              have hFqa80_54 : F54 (qa 8 0) = cQ (cy 7) 10 (pR 10 (qa 0)) := by rw [eF54, va_up_ne _ _ (pl_ne hF0 hFm_into rfl)]; exact hF0
              have hFqa81_54 : F54 (qa 8 1) = cQ (cy 5) 6 (pR 6 (qa 1)) := by rw [eF54, va_up_ne _ _ (pl_ne hF1 hFm_into rfl)]; exact hF1
              have hFqa82_54 : F54 (qa 8 2) = cQ (cy 6) 8 (pR 8 (qa 2)) := by rw [eF54, va_up_ne _ _ (pl_ne hF2 hFm_into rfl)]; exact hF2
              have hFqa83_54 : F54 (qa 8 3) = cQ (cy 9) 30 (pR Pp.1.toInt.toNat (qa 7)) := by rw [eF54, va_up_ne _ _ (pl_ne hFs hFm_into rfl)]; exact hFs
              have hFqa84_54 : F54 (qa 8 4) = cQ (cy 8) 5 (pR 5 (qa 4)) := by rw [eF54, va_up_ne _ _ (pl_ne hF4 hFm_into rfl)]; exact hF4
              have hFqa85_54 : F54 (qa 8 5) = cQ (cy 4) 4 (pR 4 (qa 6)) := by rw [eF54, va_up_ne _ _ (pl_ne hF5 hFm_into rfl)]; exact hF5
              have hFqa86_54 : F54 (qa 8 6) = cI (cy 1) 6 Xx.2 := by rw [eF54, va_up_ne _ _ (pl_ne hFf hFm_into rfl)]; exact hFf
              have hFqa0j_into_54 : F54 (qa 0 j_into) = .inr (4, [.int (mx (Mm.1 j_x) (Mm.1 j_y)), .long nm_into, .double r53]) := by rw [eF54]; exact va_up_self _ _ _
              have hR55 : Rep cy L o qa (setM Mm j_into 3 (rkD 0 (db (tn (Mm.1 j_x) (Mm.2 j_x) 3)) (db (tn (Mm.1 j_y) (Mm.2 j_y) 3))).toInt64) Dd Sl Pp Kr Bk Xx F54 := by rw [eF54, hr53, hmxl]; exact hR.meter hj_into (real_okM3 ((FP.Core.notNaN_iff _).mp hnan))
              refine lv_aload_n hx hb dX8_reckon_171 rfl (lv_at hl 5 rfl) ?_
              refine lv_iload hx hb dX8_reckon_172 (lv_at hl 1 rfl) ?_
              refine va_calli (va_runV (As := [.int (mx (Mm.1 j_x) (Mm.1 j_y))]) (rest := []) ⟨hx, hb, hml, hown, hts⟩ (c_succeed l G cy L F54 H.size o qa (setM Mm j_into 3 (rkD 0 (db (tn (Mm.1 j_x) (Mm.2 j_x) 3)) (db (tn (Mm.1 j_y) (Mm.2 j_y) 3))).toInt64) Dd Sl Pp Kr Bk Xx hR55 (mx (Mm.1 j_x) (Mm.1 j_y))) (cwV 1 hts gX8_reckon_X8_succeed rfl rfl rfl (by decide +kernel) ⟨Nat.le_of_ble_eq_true rfl, Nat.le_of_ble_eq_true rfl⟩) (preV_of okQ (⟨rfl, hP, hK, hD.top⟩) (pl_recv hK hP (ci := 7) rfl hmo hFo_54)) rfl rfl hl.1 rfl (lv_room (Nat.le_of_ble_eq_true rfl)) dX8_reckon_174 ⟨Nat.le_of_ble_eq_true rfl, Nat.le_of_ble_eq_true rfl⟩) hS (fun q _ h => pl_free hD hS hA q h) (pl_free hD hS hA) (fun r57 F56 t H1 locs ht hvm hw hP1 hz1 hk1 hS => ?_)
              have hP1 : va_P G vwCl (va_pl L F56) t.heap := hP1
              rw [ht] at hP1
              have hP := hP1
              generalize H1 = H at hP hS ⊢
              obtain ⟨hqr57, hR58⟩ := hw
              exact W.iret (v := r57) hx hb hr (fun t ht hW => ⟨⟨r57, F56, rfl, (by have hsp : sp_reckon Mm Xx 0 (nI j_x) (nI j_y) (nI j_into) = (3, setM Mm j_into 3 (rkD 0 (db (tn (Mm.1 j_x) (Mm.2 j_x) 3)) (db (tn (Mm.1 j_y) (Mm.2 j_y) 3))).toInt64, goodX Xx) := (by unfold sp_reckon; rw [hi_x, hi_y, hi_into, ixk.1]; show rk Mm Xx 0 j_x j_y j_into = _; unfold rk; rw [if_neg (hmx.2 c28).2, if_neg (by rw [hmxl]; decide)]; exact if_neg (by rw [hnan]; decide)); rw [hsp]; exact ⟨(by rw [hqr57]; exact hmxl), hR58⟩), (by show va_P _ _ _ t.heap; rw [ht]; exact hP)⟩, hS.F ht⟩) hS.2.2 dX8_reckon_177
            · have hnan : FP.Core.dIsNaN (rkD 0 (db (tn (Mm.1 j_x) (Mm.2 j_x) 3)) (db (tn (Mm.1 j_y) (Mm.2 j_y) 3))) = true := Decidable.byContradiction (fun q => c49 (by rw [hr48]; exact if_neg q))
              refine lv_aload_n hx hb dX8_reckon_116 rfl (lv_at hl 4 rfl) ?_
              refine lv_iconst (v := 5) hx hb dX8_reckon_117 (by decide) ?_
              refine va_calli (va_runV (As := [.int 5]) (rest := []) ⟨hx, hb, hml, hown, hts⟩ (c_fail_5 l G cy L F s.heap.size o qa Mm Dd Sl Pp Kr Bk Xx hR) (cwV 1 hts gX8_reckon_X8_fail rfl rfl rfl (by decide +kernel) ⟨Nat.le_of_ble_eq_true rfl, Nat.le_of_ble_eq_true rfl⟩) (preV_of okQ (⟨rfl, hP, hK, hD.top⟩) (pl_recv hK hP (ci := 7) rfl hmo hFo)) rfl rfl hl.1 rfl (lv_room (Nat.le_of_ble_eq_true rfl)) dX8_reckon_118 ⟨Nat.le_of_ble_eq_true rfl, Nat.le_of_ble_eq_true rfl⟩) hS (fun q _ h => pl_free hD hS hA q h) (pl_free hD hS hA) (fun r60 F59 t H1 locs ht hvm hw hP1 hz1 hk1 hS => ?_)
              have hP1 : va_P G vwCl (va_pl L F59) t.heap := hP1
              rw [ht] at hP1
              have hP := hP1
              generalize H1 = H at hP hS ⊢
              obtain ⟨hqr60, hR61⟩ := hw
              exact W.iret (v := r60) hx hb hr (fun t ht hW => ⟨⟨r60, F59, rfl, (by have hsp : sp_reckon Mm Xx 0 (nI j_x) (nI j_y) (nI j_into) = (-15, Mm, failX Xx 5) := (by unfold sp_reckon; rw [hi_x, hi_y, hi_into, ixk.1]; show rk Mm Xx 0 j_x j_y j_into = _; unfold rk; rw [if_neg (hmx.2 c28).2, if_neg (by rw [hmxl]; decide)]; exact if_pos hnan); rw [hsp]; exact ⟨hqr60, hR61⟩), (by show va_P _ _ _ t.heap; rw [ht]; exact hP)⟩, hS.F ht⟩) hS.2.2 dX8_reckon_121
        · refine lv_aload_n hx hb dX8_reckon_75 rfl (lv_at hl 4 rfl) ?_
          refine lv_iload_n hx hb dX8_reckon_76 rfl (lv_at hl 5 rfl) ?_
          refine lv_iload hx hb dX8_reckon_77 (lv_at hl 0 rfl) ?_
          refine lv_aload hx hb dX8_reckon_79 (lv_at hl 3 rfl) ?_
          refine vp_callSl (W.runV (As := []) (rest := [.int (mx (Mm.1 j_x) (Mm.1 j_y)), .int 0, .ref o]) ⟨hx, hb, hml, hown, hts⟩ (c_asLong l G cy L F (qa 0 j_x) (Mm.1 j_x) nm_x rl_x hmm_x hFm_x ) (cwV 0 hts gX8_reckon_X4_asLong rfl rfl rfl (by decide +kernel) ⟨Nat.le_of_ble_eq_true rfl, Nat.le_of_ble_eq_true rfl⟩) (preV_of okP (⟨hP, hK, hD.top⟩) (pl_recv hK hP (ci := 4) rfl hmm_x hFm_x)) rfl rfl hl.1 rfl (lv_room (Nat.le_of_ble_eq_true rfl)) dX8_reckon_81 ⟨Nat.le_of_ble_eq_true rfl, Nat.le_of_ble_eq_true rfl⟩) (fun r62 hr62 => ?_)
          refine lv_aload hx hb dX8_reckon_84 (lv_at hl 2 rfl) ?_
          refine vp_callSl (W.runV (As := []) (rest := [.long r62, .int (mx (Mm.1 j_x) (Mm.1 j_y)), .int 0, .ref o]) ⟨hx, hb, hml, hown, hts⟩ (c_asLong l G cy L F (qa 0 j_y) (Mm.1 j_y) nm_y rl_y hmm_y hFm_y ) (cwV 0 hts gX8_reckon_X4_asLong rfl rfl rfl (by decide +kernel) ⟨Nat.le_of_ble_eq_true rfl, Nat.le_of_ble_eq_true rfl⟩) (preV_of okP (⟨hP, hK, hD.top⟩) (pl_recv hK hP (ci := 4) rfl hmm_y hFm_y)) rfl rfl hl.1 rfl (lv_room (Nat.le_of_ble_eq_true rfl)) dX8_reckon_86 ⟨Nat.le_of_ble_eq_true rfl, Nat.le_of_ble_eq_true rfl⟩) (fun r63 hr63 => ?_)
          refine lv_aload hx hb dX8_reckon_89 (lv_at hl 1 rfl) ?_
          refine va_calli (va_runV (As := [.int 0, .int (mx (Mm.1 j_x) (Mm.1 j_y)), .long r62, .long r63, .ref (qa 0 j_into)]) (rest := []) ⟨hx, hb, hml, hown, hts⟩ (c_rkW_0 l G cy L F s.heap.size o qa Mm Dd Sl Pp Kr Bk Xx hR (mx (Mm.1 j_x) (Mm.1 j_y)) r62 r63 j_into hj_into (hmx.1 c28).1) (cwV 5 hts gX8_reckon_X8_reckonWholes rfl rfl rfl (by decide +kernel) ⟨Nat.le_of_ble_eq_true rfl, Nat.le_of_ble_eq_true rfl⟩) (preV_of okQ (⟨rfl, hP, hK, hD.top⟩) (pl_recv hK hP (ci := 7) rfl hmo hFo)) rfl rfl hl.1 rfl (lv_room (Nat.le_of_ble_eq_true rfl)) dX8_reckon_91 ⟨Nat.le_of_ble_eq_true rfl, Nat.le_of_ble_eq_true rfl⟩) hS (fun q _ h => pl_free hD hS hA q h) (pl_free hD hS hA) (fun r65 F64 t H1 locs ht hvm hw hP1 hz1 hk1 hS => ?_)
          have hP1 : va_P G vwCl (va_pl L F64) t.heap := hP1
          rw [ht] at hP1
          have hP := hP1
          generalize H1 = H at hP hS ⊢
          obtain ⟨hqr65, hR66⟩ := hw
          exact W.iret (v := r65) hx hb hr (fun t ht hW => ⟨⟨r65, F64, rfl, (by have hsp : sp_reckon Mm Xx 0 (nI j_x) (nI j_y) (nI j_into) = rkW 0 Mm Xx (mx (Mm.1 j_x) (Mm.1 j_y)) r62 r63 j_into := (by unfold sp_reckon; rw [hi_x, hi_y, hi_into, ixk.1]; show rk Mm Xx 0 j_x j_y j_into = _; exact rk_eq (hmx.1 c28).2.1 (by rw [hr62]; exact (long_tn hok_x (hmx.1 c28).2.2.1 (hmx.1 c28).2.2.2).1) (by rw [hr63]; exact (long_tn hok_y (hmx.1 c28).2.2.2 (hmx.1 c28).2.2.1).2)); rw [hsp]; exact ⟨hqr65, hR66⟩), (by show va_P _ _ _ t.heap; rw [ht]; exact hP)⟩, hS.F ht⟩) hS.2.2 dX8_reckon_94

set_option maxHeartbeats 8000000 in
set_option maxRecDepth 100000 in
theorem m_reckon_1 (l : Launch) (G : va_G) (cy : Nat → ClassId) (L : List Nat) (F : Nat → va_E) (ad : Nat → Nat) (sz : Nat) (o : Nat) (qa : Nat → Nat → Nat) (Mm : SM) (Dd : SD) (Sl : SL) (Pp : SP) (Kr : SR) (Bk : SB) (Xx : SX) (hR : Rep cy L o qa Mm Dd Sl Pp Kr Bk Xx F) (x y into : Int32)  : Met l yX8_reckon wsX8_reckon ({ frames := 5, cells := 0, slots := 0, locals := 133 }) (va_Pc [.ref o, .int 1, .int x, .int y, .int into] (fun U => bQE G cy L F ad sz U U.heap)) (va_Qi (fun (r : Int32) (F' : Nat → va_E) => r = (sp_reckon Mm Xx 1 x y into).1 ∧ Rep cy L o qa (sp_reckon Mm Xx 1 x y into).2.1 Dd Sl Pp Kr Bk (sp_reckon Mm Xx 1 x y into).2.2 F') (fun F' t => va_P G vwCl (va_pl L F') t.heap) (va_A (va_pl L F) sz)) 0 0 (va_A (va_pl L F) sz) := by
  refine Met.ofW (cc := cX8_reckon) (maxL := 11) (ret := (some .int)) (by decide) rfl ?_
  intro p e s m args below meth c s₁ B hml hv
  obtain ⟨rfl, ⟨hsz, hP, hK, hD0⟩, hE, hN⟩ := hv
  have hx := B.exec
  have hb := B.bytes
  have hr := B.returns
  have hts := atoms_spec (ws := wsX8_reckon) B.pre
  have hown : s.vm.findClass RX8 = some m.cls := findClass_of_methodNamed B.named
  have hlocks := B.notSynchronized
  have hinX8 : ∀ w ∈ wsX80, w ∈ wsX8_reckon := by decide +kernel
  have hinX4 : ∀ w ∈ wsX40, w ∈ wsX8_reckon := by decide +kernel
  subst hsz
  have hD := hD0.self F s.heap.size
  generalize hAe : va_A (va_pl L F) s.heap.size = A at hD hE ⊢
  have hA : ∀ q : Nat, s.heap.size ≤ q → A q := fun q h => by rw [← hAe]; exact Or.inr h
  have hS : va_S A s.heap s.heap [] := va_S.rf
  obtain ⟨⟨⟨hmo, hFo⟩, ⟨hmf, hFf⟩, hms, hFs⟩, ⟨⟨hm0, hF0⟩, ⟨hm1, hF1⟩, ⟨hm2, hF2⟩, ⟨hm4, hF4⟩, hm5, hF5⟩, hRM, hRD, hRG, hRP, hRR, hRB, hRI⟩ := id hR
  have hl := lv_entry ([.ref o, .int 1, .int x, .int y, .int into]) (n := 11) (Nat.le_of_ble_eq_true rfl)
  rw [lg_entry_eq]
  generalize (lg_sl ([.ref o, .int 1, .int x, .int y, .int into]) ++ List.replicate (11 - (lg_sl ([.ref o, .int 1, .int x, .int y, .int into])).length) Slot.unset).toArray = ls at hl ⊢
  have hl : lv_has ls 11 [(0, .ref o), (1, .int 1), (2, .int x), (3, .int y), (4, .int into)] := hl
  rcases ixc 10 x with hi_x | ⟨j_x, hj_x, hi_x, ei_x⟩
  · rcases ixc 10 y with hi_y | ⟨j_y, hj_y, hi_y, ei_y⟩
    · rcases ixc 10 into with hi_into | ⟨j_into, hj_into, hi_into, ei_into⟩
      · refine lv_aload_n hx hb dX8_reckon_0 rfl (lv_at hl 0 rfl) ?_
        refine lv_iload_n hx hb dX8_reckon_1 rfl (lv_at hl 2 rfl) ?_
        refine va_csq (W.runV (As := [.int x]) (rest := []) ⟨hx, hb, hml, hown, hts⟩ (c_meterOf_no l G cy L F o qa Mm Dd Sl Pp Kr Bk Xx hR x hi_x) (cwV 1 hts gX8_reckon_X8_meterOf rfl rfl rfl (by decide +kernel) ⟨Nat.le_of_ble_eq_true rfl, Nat.le_of_ble_eq_true rfl⟩) (preV_of okP (⟨hP, hK, hD.top⟩) (pl_recv hK hP (ci := 7) rfl hmo hFo)) rfl rfl hl.1 rfl (lv_room (Nat.le_of_ble_eq_true rfl)) dX8_reckon_2 ⟨Nat.le_of_ble_eq_true rfl, Nat.le_of_ble_eq_true rfl⟩) (fun r1 hr1 => ?_)
        subst hr1
        refine W.eq (g2 := F0 m 5 ls [.null]) rfl ?_
        refine lv_astoreN (lv' := [(5, .null), (0, .ref o), (1, .int 1), (2, .int x), (3, .int y), (4, .int into)]) hx hb dX8_reckon_5 hl (by decide) rfl (fun ls hl => ?_)
        refine lv_aload_n hx hb dX8_reckon_7 rfl (lv_at hl 1 rfl) ?_
        refine lv_iload_n hx hb dX8_reckon_8 rfl (lv_at hl 4 rfl) ?_
        refine va_csq (W.runV (As := [.int y]) (rest := []) ⟨hx, hb, hml, hown, hts⟩ (c_meterOf_no l G cy L F o qa Mm Dd Sl Pp Kr Bk Xx hR y hi_y) (cwV 1 hts gX8_reckon_X8_meterOf rfl rfl rfl (by decide +kernel) ⟨Nat.le_of_ble_eq_true rfl, Nat.le_of_ble_eq_true rfl⟩) (preV_of okP (⟨hP, hK, hD.top⟩) (pl_recv hK hP (ci := 7) rfl hmo hFo)) rfl rfl hl.1 rfl (lv_room (Nat.le_of_ble_eq_true rfl)) dX8_reckon_9 ⟨Nat.le_of_ble_eq_true rfl, Nat.le_of_ble_eq_true rfl⟩) (fun r2 hr2 => ?_)
        subst hr2
        refine W.eq (g2 := F0 m 12 ls [.null]) rfl ?_
        refine lv_astoreN (lv' := [(6, .null), (5, .null), (0, .ref o), (1, .int 1), (2, .int x), (3, .int y), (4, .int into)]) hx hb dX8_reckon_12 hl (by decide) rfl (fun ls hl => ?_)
        refine lv_aload_n hx hb dX8_reckon_14 rfl (lv_at hl 2 rfl) ?_
        refine lv_iload hx hb dX8_reckon_15 (lv_at hl 6 rfl) ?_
        refine va_csq (W.runV (As := [.int into]) (rest := []) ⟨hx, hb, hml, hown, hts⟩ (c_meterOf_no l G cy L F o qa Mm Dd Sl Pp Kr Bk Xx hR into hi_into) (cwV 1 hts gX8_reckon_X8_meterOf rfl rfl rfl (by decide +kernel) ⟨Nat.le_of_ble_eq_true rfl, Nat.le_of_ble_eq_true rfl⟩) (preV_of okP (⟨hP, hK, hD.top⟩) (pl_recv hK hP (ci := 7) rfl hmo hFo)) rfl rfl hl.1 rfl (lv_room (Nat.le_of_ble_eq_true rfl)) dX8_reckon_17 ⟨Nat.le_of_ble_eq_true rfl, Nat.le_of_ble_eq_true rfl⟩) (fun r3 hr3 => ?_)
        subst hr3
        refine W.eq (g2 := F0 m 20 ls [.null]) rfl ?_
        refine lv_astoreN (lv' := [(7, .null), (6, .null), (5, .null), (0, .ref o), (1, .int 1), (2, .int x), (3, .int y), (4, .int into)]) hx hb dX8_reckon_20 hl (by decide) rfl (fun ls hl => ?_)
        refine lv_aloadN hx hb dX8_reckon_22 (lv_at hl 2 rfl) ?_
        refine lv_ifnullN (tgt := 37) hx hb dX8_reckon_24 (by decide) ?_
        refine lv_sipush (v := -1001) hx hb dX8_reckon_37 (by decide) ?_
        exact W.iret (v := -1001) hx hb hr (fun t ht hW => ⟨⟨-1001, F, rfl, (by have hsp : sp_reckon Mm Xx 1 x y into = (-1001, Mm, Xx) := (by unfold sp_reckon; rw [hi_x]); rw [hsp]; exact ⟨rfl, hR⟩), (by show va_P _ _ _ t.heap; rw [ht]; exact hP)⟩, hS.F ht⟩) hS.2.2 dX8_reckon_40
      · subst ei_into
        obtain ⟨hmm_into, nm_into, rl_into, hFm_into, hok_into⟩ := hRM j_into hj_into
        refine lv_aload_n hx hb dX8_reckon_0 rfl (lv_at hl 0 rfl) ?_
        refine lv_iload_n hx hb dX8_reckon_1 rfl (lv_at hl 2 rfl) ?_
        refine va_csq (W.runV (As := [.int x]) (rest := []) ⟨hx, hb, hml, hown, hts⟩ (c_meterOf_no l G cy L F o qa Mm Dd Sl Pp Kr Bk Xx hR x hi_x) (cwV 1 hts gX8_reckon_X8_meterOf rfl rfl rfl (by decide +kernel) ⟨Nat.le_of_ble_eq_true rfl, Nat.le_of_ble_eq_true rfl⟩) (preV_of okP (⟨hP, hK, hD.top⟩) (pl_recv hK hP (ci := 7) rfl hmo hFo)) rfl rfl hl.1 rfl (lv_room (Nat.le_of_ble_eq_true rfl)) dX8_reckon_2 ⟨Nat.le_of_ble_eq_true rfl, Nat.le_of_ble_eq_true rfl⟩) (fun r4 hr4 => ?_)
        subst hr4
        refine W.eq (g2 := F0 m 5 ls [.null]) rfl ?_
        refine lv_astoreN (lv' := [(5, .null), (0, .ref o), (1, .int 1), (2, .int x), (3, .int y), (4, .int (nI j_into))]) hx hb dX8_reckon_5 hl (by decide) rfl (fun ls hl => ?_)
        refine lv_aload_n hx hb dX8_reckon_7 rfl (lv_at hl 1 rfl) ?_
        refine lv_iload_n hx hb dX8_reckon_8 rfl (lv_at hl 4 rfl) ?_
        refine va_csq (W.runV (As := [.int y]) (rest := []) ⟨hx, hb, hml, hown, hts⟩ (c_meterOf_no l G cy L F o qa Mm Dd Sl Pp Kr Bk Xx hR y hi_y) (cwV 1 hts gX8_reckon_X8_meterOf rfl rfl rfl (by decide +kernel) ⟨Nat.le_of_ble_eq_true rfl, Nat.le_of_ble_eq_true rfl⟩) (preV_of okP (⟨hP, hK, hD.top⟩) (pl_recv hK hP (ci := 7) rfl hmo hFo)) rfl rfl hl.1 rfl (lv_room (Nat.le_of_ble_eq_true rfl)) dX8_reckon_9 ⟨Nat.le_of_ble_eq_true rfl, Nat.le_of_ble_eq_true rfl⟩) (fun r5 hr5 => ?_)
        subst hr5
        refine W.eq (g2 := F0 m 12 ls [.null]) rfl ?_
        refine lv_astoreN (lv' := [(6, .null), (5, .null), (0, .ref o), (1, .int 1), (2, .int x), (3, .int y), (4, .int (nI j_into))]) hx hb dX8_reckon_12 hl (by decide) rfl (fun ls hl => ?_)
        refine lv_aload_n hx hb dX8_reckon_14 rfl (lv_at hl 2 rfl) ?_
        refine lv_iload hx hb dX8_reckon_15 (lv_at hl 6 rfl) ?_
        refine va_csq (W.runV (As := [.int (nI j_into)]) (rest := []) ⟨hx, hb, hml, hown, hts⟩ (c_meterOf l G cy L F o qa Mm Dd Sl Pp Kr Bk Xx hR j_into hj_into) (cwV 1 hts gX8_reckon_X8_meterOf rfl rfl rfl (by decide +kernel) ⟨Nat.le_of_ble_eq_true rfl, Nat.le_of_ble_eq_true rfl⟩) (preV_of okP (⟨hP, hK, hD.top⟩) (pl_recv hK hP (ci := 7) rfl hmo hFo)) rfl rfl hl.1 rfl (lv_room (Nat.le_of_ble_eq_true rfl)) dX8_reckon_17 ⟨Nat.le_of_ble_eq_true rfl, Nat.le_of_ble_eq_true rfl⟩) (fun r6 hr6 => ?_)
        subst hr6
        refine W.eq (g2 := F0 m 20 ls [.ref (qa 0 j_into)]) rfl ?_
        refine lv_astore (lv' := [(7, .ref (qa 0 j_into)), (6, .null), (5, .null), (0, .ref o), (1, .int 1), (2, .int x), (3, .int y), (4, .int (nI j_into))]) hx hb dX8_reckon_20 hl (by decide) rfl (fun ls hl => ?_)
        refine lv_aloadN hx hb dX8_reckon_22 (lv_at hl 2 rfl) ?_
        refine lv_ifnullN (tgt := 37) hx hb dX8_reckon_24 (by decide) ?_
        refine lv_sipush (v := -1001) hx hb dX8_reckon_37 (by decide) ?_
        exact W.iret (v := -1001) hx hb hr (fun t ht hW => ⟨⟨-1001, F, rfl, (by have hsp : sp_reckon Mm Xx 1 x y (nI j_into) = (-1001, Mm, Xx) := (by unfold sp_reckon; rw [hi_x]); rw [hsp]; exact ⟨rfl, hR⟩), (by show va_P _ _ _ t.heap; rw [ht]; exact hP)⟩, hS.F ht⟩) hS.2.2 dX8_reckon_40
    · subst ei_y
      obtain ⟨hmm_y, nm_y, rl_y, hFm_y, hok_y⟩ := hRM j_y hj_y
      rcases ixc 10 into with hi_into | ⟨j_into, hj_into, hi_into, ei_into⟩
      · refine lv_aload_n hx hb dX8_reckon_0 rfl (lv_at hl 0 rfl) ?_
        refine lv_iload_n hx hb dX8_reckon_1 rfl (lv_at hl 2 rfl) ?_
        refine va_csq (W.runV (As := [.int x]) (rest := []) ⟨hx, hb, hml, hown, hts⟩ (c_meterOf_no l G cy L F o qa Mm Dd Sl Pp Kr Bk Xx hR x hi_x) (cwV 1 hts gX8_reckon_X8_meterOf rfl rfl rfl (by decide +kernel) ⟨Nat.le_of_ble_eq_true rfl, Nat.le_of_ble_eq_true rfl⟩) (preV_of okP (⟨hP, hK, hD.top⟩) (pl_recv hK hP (ci := 7) rfl hmo hFo)) rfl rfl hl.1 rfl (lv_room (Nat.le_of_ble_eq_true rfl)) dX8_reckon_2 ⟨Nat.le_of_ble_eq_true rfl, Nat.le_of_ble_eq_true rfl⟩) (fun r7 hr7 => ?_)
        subst hr7
        refine W.eq (g2 := F0 m 5 ls [.null]) rfl ?_
        refine lv_astoreN (lv' := [(5, .null), (0, .ref o), (1, .int 1), (2, .int x), (3, .int (nI j_y)), (4, .int into)]) hx hb dX8_reckon_5 hl (by decide) rfl (fun ls hl => ?_)
        refine lv_aload_n hx hb dX8_reckon_7 rfl (lv_at hl 1 rfl) ?_
        refine lv_iload_n hx hb dX8_reckon_8 rfl (lv_at hl 4 rfl) ?_
        refine va_csq (W.runV (As := [.int (nI j_y)]) (rest := []) ⟨hx, hb, hml, hown, hts⟩ (c_meterOf l G cy L F o qa Mm Dd Sl Pp Kr Bk Xx hR j_y hj_y) (cwV 1 hts gX8_reckon_X8_meterOf rfl rfl rfl (by decide +kernel) ⟨Nat.le_of_ble_eq_true rfl, Nat.le_of_ble_eq_true rfl⟩) (preV_of okP (⟨hP, hK, hD.top⟩) (pl_recv hK hP (ci := 7) rfl hmo hFo)) rfl rfl hl.1 rfl (lv_room (Nat.le_of_ble_eq_true rfl)) dX8_reckon_9 ⟨Nat.le_of_ble_eq_true rfl, Nat.le_of_ble_eq_true rfl⟩) (fun r8 hr8 => ?_)
        subst hr8
        refine W.eq (g2 := F0 m 12 ls [.ref (qa 0 j_y)]) rfl ?_
        refine lv_astore (lv' := [(6, .ref (qa 0 j_y)), (5, .null), (0, .ref o), (1, .int 1), (2, .int x), (3, .int (nI j_y)), (4, .int into)]) hx hb dX8_reckon_12 hl (by decide) rfl (fun ls hl => ?_)
        refine lv_aload_n hx hb dX8_reckon_14 rfl (lv_at hl 2 rfl) ?_
        refine lv_iload hx hb dX8_reckon_15 (lv_at hl 6 rfl) ?_
        refine va_csq (W.runV (As := [.int into]) (rest := []) ⟨hx, hb, hml, hown, hts⟩ (c_meterOf_no l G cy L F o qa Mm Dd Sl Pp Kr Bk Xx hR into hi_into) (cwV 1 hts gX8_reckon_X8_meterOf rfl rfl rfl (by decide +kernel) ⟨Nat.le_of_ble_eq_true rfl, Nat.le_of_ble_eq_true rfl⟩) (preV_of okP (⟨hP, hK, hD.top⟩) (pl_recv hK hP (ci := 7) rfl hmo hFo)) rfl rfl hl.1 rfl (lv_room (Nat.le_of_ble_eq_true rfl)) dX8_reckon_17 ⟨Nat.le_of_ble_eq_true rfl, Nat.le_of_ble_eq_true rfl⟩) (fun r9 hr9 => ?_)
        subst hr9
        refine W.eq (g2 := F0 m 20 ls [.null]) rfl ?_
        refine lv_astoreN (lv' := [(7, .null), (6, .ref (qa 0 j_y)), (5, .null), (0, .ref o), (1, .int 1), (2, .int x), (3, .int (nI j_y)), (4, .int into)]) hx hb dX8_reckon_20 hl (by decide) rfl (fun ls hl => ?_)
        refine lv_aloadN hx hb dX8_reckon_22 (lv_at hl 2 rfl) ?_
        refine lv_ifnullN (tgt := 37) hx hb dX8_reckon_24 (by decide) ?_
        refine lv_sipush (v := -1001) hx hb dX8_reckon_37 (by decide) ?_
        exact W.iret (v := -1001) hx hb hr (fun t ht hW => ⟨⟨-1001, F, rfl, (by have hsp : sp_reckon Mm Xx 1 x (nI j_y) into = (-1001, Mm, Xx) := (by unfold sp_reckon; rw [hi_x]); rw [hsp]; exact ⟨rfl, hR⟩), (by show va_P _ _ _ t.heap; rw [ht]; exact hP)⟩, hS.F ht⟩) hS.2.2 dX8_reckon_40
      · subst ei_into
        obtain ⟨hmm_into, nm_into, rl_into, hFm_into, hok_into⟩ := hRM j_into hj_into
        refine lv_aload_n hx hb dX8_reckon_0 rfl (lv_at hl 0 rfl) ?_
        refine lv_iload_n hx hb dX8_reckon_1 rfl (lv_at hl 2 rfl) ?_
        refine va_csq (W.runV (As := [.int x]) (rest := []) ⟨hx, hb, hml, hown, hts⟩ (c_meterOf_no l G cy L F o qa Mm Dd Sl Pp Kr Bk Xx hR x hi_x) (cwV 1 hts gX8_reckon_X8_meterOf rfl rfl rfl (by decide +kernel) ⟨Nat.le_of_ble_eq_true rfl, Nat.le_of_ble_eq_true rfl⟩) (preV_of okP (⟨hP, hK, hD.top⟩) (pl_recv hK hP (ci := 7) rfl hmo hFo)) rfl rfl hl.1 rfl (lv_room (Nat.le_of_ble_eq_true rfl)) dX8_reckon_2 ⟨Nat.le_of_ble_eq_true rfl, Nat.le_of_ble_eq_true rfl⟩) (fun r10 hr10 => ?_)
        subst hr10
        refine W.eq (g2 := F0 m 5 ls [.null]) rfl ?_
        refine lv_astoreN (lv' := [(5, .null), (0, .ref o), (1, .int 1), (2, .int x), (3, .int (nI j_y)), (4, .int (nI j_into))]) hx hb dX8_reckon_5 hl (by decide) rfl (fun ls hl => ?_)
        refine lv_aload_n hx hb dX8_reckon_7 rfl (lv_at hl 1 rfl) ?_
        refine lv_iload_n hx hb dX8_reckon_8 rfl (lv_at hl 4 rfl) ?_
        refine va_csq (W.runV (As := [.int (nI j_y)]) (rest := []) ⟨hx, hb, hml, hown, hts⟩ (c_meterOf l G cy L F o qa Mm Dd Sl Pp Kr Bk Xx hR j_y hj_y) (cwV 1 hts gX8_reckon_X8_meterOf rfl rfl rfl (by decide +kernel) ⟨Nat.le_of_ble_eq_true rfl, Nat.le_of_ble_eq_true rfl⟩) (preV_of okP (⟨hP, hK, hD.top⟩) (pl_recv hK hP (ci := 7) rfl hmo hFo)) rfl rfl hl.1 rfl (lv_room (Nat.le_of_ble_eq_true rfl)) dX8_reckon_9 ⟨Nat.le_of_ble_eq_true rfl, Nat.le_of_ble_eq_true rfl⟩) (fun r11 hr11 => ?_)
        subst hr11
        refine W.eq (g2 := F0 m 12 ls [.ref (qa 0 j_y)]) rfl ?_
        refine lv_astore (lv' := [(6, .ref (qa 0 j_y)), (5, .null), (0, .ref o), (1, .int 1), (2, .int x), (3, .int (nI j_y)), (4, .int (nI j_into))]) hx hb dX8_reckon_12 hl (by decide) rfl (fun ls hl => ?_)
        refine lv_aload_n hx hb dX8_reckon_14 rfl (lv_at hl 2 rfl) ?_
        refine lv_iload hx hb dX8_reckon_15 (lv_at hl 6 rfl) ?_
        refine va_csq (W.runV (As := [.int (nI j_into)]) (rest := []) ⟨hx, hb, hml, hown, hts⟩ (c_meterOf l G cy L F o qa Mm Dd Sl Pp Kr Bk Xx hR j_into hj_into) (cwV 1 hts gX8_reckon_X8_meterOf rfl rfl rfl (by decide +kernel) ⟨Nat.le_of_ble_eq_true rfl, Nat.le_of_ble_eq_true rfl⟩) (preV_of okP (⟨hP, hK, hD.top⟩) (pl_recv hK hP (ci := 7) rfl hmo hFo)) rfl rfl hl.1 rfl (lv_room (Nat.le_of_ble_eq_true rfl)) dX8_reckon_17 ⟨Nat.le_of_ble_eq_true rfl, Nat.le_of_ble_eq_true rfl⟩) (fun r12 hr12 => ?_)
        subst hr12
        refine W.eq (g2 := F0 m 20 ls [.ref (qa 0 j_into)]) rfl ?_
        refine lv_astore (lv' := [(7, .ref (qa 0 j_into)), (6, .ref (qa 0 j_y)), (5, .null), (0, .ref o), (1, .int 1), (2, .int x), (3, .int (nI j_y)), (4, .int (nI j_into))]) hx hb dX8_reckon_20 hl (by decide) rfl (fun ls hl => ?_)
        refine lv_aloadN hx hb dX8_reckon_22 (lv_at hl 2 rfl) ?_
        refine lv_ifnullN (tgt := 37) hx hb dX8_reckon_24 (by decide) ?_
        refine lv_sipush (v := -1001) hx hb dX8_reckon_37 (by decide) ?_
        exact W.iret (v := -1001) hx hb hr (fun t ht hW => ⟨⟨-1001, F, rfl, (by have hsp : sp_reckon Mm Xx 1 x (nI j_y) (nI j_into) = (-1001, Mm, Xx) := (by unfold sp_reckon; rw [hi_x]); rw [hsp]; exact ⟨rfl, hR⟩), (by show va_P _ _ _ t.heap; rw [ht]; exact hP)⟩, hS.F ht⟩) hS.2.2 dX8_reckon_40
  · subst ei_x
    obtain ⟨hmm_x, nm_x, rl_x, hFm_x, hok_x⟩ := hRM j_x hj_x
    rcases ixc 10 y with hi_y | ⟨j_y, hj_y, hi_y, ei_y⟩
    · rcases ixc 10 into with hi_into | ⟨j_into, hj_into, hi_into, ei_into⟩
      · refine lv_aload_n hx hb dX8_reckon_0 rfl (lv_at hl 0 rfl) ?_
        refine lv_iload_n hx hb dX8_reckon_1 rfl (lv_at hl 2 rfl) ?_
        refine va_csq (W.runV (As := [.int (nI j_x)]) (rest := []) ⟨hx, hb, hml, hown, hts⟩ (c_meterOf l G cy L F o qa Mm Dd Sl Pp Kr Bk Xx hR j_x hj_x) (cwV 1 hts gX8_reckon_X8_meterOf rfl rfl rfl (by decide +kernel) ⟨Nat.le_of_ble_eq_true rfl, Nat.le_of_ble_eq_true rfl⟩) (preV_of okP (⟨hP, hK, hD.top⟩) (pl_recv hK hP (ci := 7) rfl hmo hFo)) rfl rfl hl.1 rfl (lv_room (Nat.le_of_ble_eq_true rfl)) dX8_reckon_2 ⟨Nat.le_of_ble_eq_true rfl, Nat.le_of_ble_eq_true rfl⟩) (fun r13 hr13 => ?_)
        subst hr13
        refine W.eq (g2 := F0 m 5 ls [.ref (qa 0 j_x)]) rfl ?_
        refine lv_astore (lv' := [(5, .ref (qa 0 j_x)), (0, .ref o), (1, .int 1), (2, .int (nI j_x)), (3, .int y), (4, .int into)]) hx hb dX8_reckon_5 hl (by decide) rfl (fun ls hl => ?_)
        refine lv_aload_n hx hb dX8_reckon_7 rfl (lv_at hl 1 rfl) ?_
        refine lv_iload_n hx hb dX8_reckon_8 rfl (lv_at hl 4 rfl) ?_
        refine va_csq (W.runV (As := [.int y]) (rest := []) ⟨hx, hb, hml, hown, hts⟩ (c_meterOf_no l G cy L F o qa Mm Dd Sl Pp Kr Bk Xx hR y hi_y) (cwV 1 hts gX8_reckon_X8_meterOf rfl rfl rfl (by decide +kernel) ⟨Nat.le_of_ble_eq_true rfl, Nat.le_of_ble_eq_true rfl⟩) (preV_of okP (⟨hP, hK, hD.top⟩) (pl_recv hK hP (ci := 7) rfl hmo hFo)) rfl rfl hl.1 rfl (lv_room (Nat.le_of_ble_eq_true rfl)) dX8_reckon_9 ⟨Nat.le_of_ble_eq_true rfl, Nat.le_of_ble_eq_true rfl⟩) (fun r14 hr14 => ?_)
        subst hr14
        refine W.eq (g2 := F0 m 12 ls [.null]) rfl ?_
        refine lv_astoreN (lv' := [(6, .null), (5, .ref (qa 0 j_x)), (0, .ref o), (1, .int 1), (2, .int (nI j_x)), (3, .int y), (4, .int into)]) hx hb dX8_reckon_12 hl (by decide) rfl (fun ls hl => ?_)
        refine lv_aload_n hx hb dX8_reckon_14 rfl (lv_at hl 2 rfl) ?_
        refine lv_iload hx hb dX8_reckon_15 (lv_at hl 6 rfl) ?_
        refine va_csq (W.runV (As := [.int into]) (rest := []) ⟨hx, hb, hml, hown, hts⟩ (c_meterOf_no l G cy L F o qa Mm Dd Sl Pp Kr Bk Xx hR into hi_into) (cwV 1 hts gX8_reckon_X8_meterOf rfl rfl rfl (by decide +kernel) ⟨Nat.le_of_ble_eq_true rfl, Nat.le_of_ble_eq_true rfl⟩) (preV_of okP (⟨hP, hK, hD.top⟩) (pl_recv hK hP (ci := 7) rfl hmo hFo)) rfl rfl hl.1 rfl (lv_room (Nat.le_of_ble_eq_true rfl)) dX8_reckon_17 ⟨Nat.le_of_ble_eq_true rfl, Nat.le_of_ble_eq_true rfl⟩) (fun r15 hr15 => ?_)
        subst hr15
        refine W.eq (g2 := F0 m 20 ls [.null]) rfl ?_
        refine lv_astoreN (lv' := [(7, .null), (6, .null), (5, .ref (qa 0 j_x)), (0, .ref o), (1, .int 1), (2, .int (nI j_x)), (3, .int y), (4, .int into)]) hx hb dX8_reckon_20 hl (by decide) rfl (fun ls hl => ?_)
        refine lv_aload hx hb dX8_reckon_22 (lv_at hl 2 rfl) ?_
        refine lv_ifnull hx hb dX8_reckon_24 ?_
        refine lv_aloadN hx hb dX8_reckon_27 (lv_at hl 1 rfl) ?_
        refine lv_ifnullN (tgt := 37) hx hb dX8_reckon_29 (by decide) ?_
        refine lv_sipush (v := -1001) hx hb dX8_reckon_37 (by decide) ?_
        exact W.iret (v := -1001) hx hb hr (fun t ht hW => ⟨⟨-1001, F, rfl, (by have hsp : sp_reckon Mm Xx 1 (nI j_x) y into = (-1001, Mm, Xx) := (by unfold sp_reckon; rw [hi_x, hi_y]); rw [hsp]; exact ⟨rfl, hR⟩), (by show va_P _ _ _ t.heap; rw [ht]; exact hP)⟩, hS.F ht⟩) hS.2.2 dX8_reckon_40
      · subst ei_into
        obtain ⟨hmm_into, nm_into, rl_into, hFm_into, hok_into⟩ := hRM j_into hj_into
        refine lv_aload_n hx hb dX8_reckon_0 rfl (lv_at hl 0 rfl) ?_
        refine lv_iload_n hx hb dX8_reckon_1 rfl (lv_at hl 2 rfl) ?_
        refine va_csq (W.runV (As := [.int (nI j_x)]) (rest := []) ⟨hx, hb, hml, hown, hts⟩ (c_meterOf l G cy L F o qa Mm Dd Sl Pp Kr Bk Xx hR j_x hj_x) (cwV 1 hts gX8_reckon_X8_meterOf rfl rfl rfl (by decide +kernel) ⟨Nat.le_of_ble_eq_true rfl, Nat.le_of_ble_eq_true rfl⟩) (preV_of okP (⟨hP, hK, hD.top⟩) (pl_recv hK hP (ci := 7) rfl hmo hFo)) rfl rfl hl.1 rfl (lv_room (Nat.le_of_ble_eq_true rfl)) dX8_reckon_2 ⟨Nat.le_of_ble_eq_true rfl, Nat.le_of_ble_eq_true rfl⟩) (fun r16 hr16 => ?_)
        subst hr16
        refine W.eq (g2 := F0 m 5 ls [.ref (qa 0 j_x)]) rfl ?_
        refine lv_astore (lv' := [(5, .ref (qa 0 j_x)), (0, .ref o), (1, .int 1), (2, .int (nI j_x)), (3, .int y), (4, .int (nI j_into))]) hx hb dX8_reckon_5 hl (by decide) rfl (fun ls hl => ?_)
        refine lv_aload_n hx hb dX8_reckon_7 rfl (lv_at hl 1 rfl) ?_
        refine lv_iload_n hx hb dX8_reckon_8 rfl (lv_at hl 4 rfl) ?_
        refine va_csq (W.runV (As := [.int y]) (rest := []) ⟨hx, hb, hml, hown, hts⟩ (c_meterOf_no l G cy L F o qa Mm Dd Sl Pp Kr Bk Xx hR y hi_y) (cwV 1 hts gX8_reckon_X8_meterOf rfl rfl rfl (by decide +kernel) ⟨Nat.le_of_ble_eq_true rfl, Nat.le_of_ble_eq_true rfl⟩) (preV_of okP (⟨hP, hK, hD.top⟩) (pl_recv hK hP (ci := 7) rfl hmo hFo)) rfl rfl hl.1 rfl (lv_room (Nat.le_of_ble_eq_true rfl)) dX8_reckon_9 ⟨Nat.le_of_ble_eq_true rfl, Nat.le_of_ble_eq_true rfl⟩) (fun r17 hr17 => ?_)
        subst hr17
        refine W.eq (g2 := F0 m 12 ls [.null]) rfl ?_
        refine lv_astoreN (lv' := [(6, .null), (5, .ref (qa 0 j_x)), (0, .ref o), (1, .int 1), (2, .int (nI j_x)), (3, .int y), (4, .int (nI j_into))]) hx hb dX8_reckon_12 hl (by decide) rfl (fun ls hl => ?_)
        refine lv_aload_n hx hb dX8_reckon_14 rfl (lv_at hl 2 rfl) ?_
        refine lv_iload hx hb dX8_reckon_15 (lv_at hl 6 rfl) ?_
        refine va_csq (W.runV (As := [.int (nI j_into)]) (rest := []) ⟨hx, hb, hml, hown, hts⟩ (c_meterOf l G cy L F o qa Mm Dd Sl Pp Kr Bk Xx hR j_into hj_into) (cwV 1 hts gX8_reckon_X8_meterOf rfl rfl rfl (by decide +kernel) ⟨Nat.le_of_ble_eq_true rfl, Nat.le_of_ble_eq_true rfl⟩) (preV_of okP (⟨hP, hK, hD.top⟩) (pl_recv hK hP (ci := 7) rfl hmo hFo)) rfl rfl hl.1 rfl (lv_room (Nat.le_of_ble_eq_true rfl)) dX8_reckon_17 ⟨Nat.le_of_ble_eq_true rfl, Nat.le_of_ble_eq_true rfl⟩) (fun r18 hr18 => ?_)
        subst hr18
        refine W.eq (g2 := F0 m 20 ls [.ref (qa 0 j_into)]) rfl ?_
        refine lv_astore (lv' := [(7, .ref (qa 0 j_into)), (6, .null), (5, .ref (qa 0 j_x)), (0, .ref o), (1, .int 1), (2, .int (nI j_x)), (3, .int y), (4, .int (nI j_into))]) hx hb dX8_reckon_20 hl (by decide) rfl (fun ls hl => ?_)
        refine lv_aload hx hb dX8_reckon_22 (lv_at hl 2 rfl) ?_
        refine lv_ifnull hx hb dX8_reckon_24 ?_
        refine lv_aloadN hx hb dX8_reckon_27 (lv_at hl 1 rfl) ?_
        refine lv_ifnullN (tgt := 37) hx hb dX8_reckon_29 (by decide) ?_
        refine lv_sipush (v := -1001) hx hb dX8_reckon_37 (by decide) ?_
        exact W.iret (v := -1001) hx hb hr (fun t ht hW => ⟨⟨-1001, F, rfl, (by have hsp : sp_reckon Mm Xx 1 (nI j_x) y (nI j_into) = (-1001, Mm, Xx) := (by unfold sp_reckon; rw [hi_x, hi_y]); rw [hsp]; exact ⟨rfl, hR⟩), (by show va_P _ _ _ t.heap; rw [ht]; exact hP)⟩, hS.F ht⟩) hS.2.2 dX8_reckon_40
    · subst ei_y
      obtain ⟨hmm_y, nm_y, rl_y, hFm_y, hok_y⟩ := hRM j_y hj_y
      rcases ixc 10 into with hi_into | ⟨j_into, hj_into, hi_into, ei_into⟩
      · refine lv_aload_n hx hb dX8_reckon_0 rfl (lv_at hl 0 rfl) ?_
        refine lv_iload_n hx hb dX8_reckon_1 rfl (lv_at hl 2 rfl) ?_
        refine va_csq (W.runV (As := [.int (nI j_x)]) (rest := []) ⟨hx, hb, hml, hown, hts⟩ (c_meterOf l G cy L F o qa Mm Dd Sl Pp Kr Bk Xx hR j_x hj_x) (cwV 1 hts gX8_reckon_X8_meterOf rfl rfl rfl (by decide +kernel) ⟨Nat.le_of_ble_eq_true rfl, Nat.le_of_ble_eq_true rfl⟩) (preV_of okP (⟨hP, hK, hD.top⟩) (pl_recv hK hP (ci := 7) rfl hmo hFo)) rfl rfl hl.1 rfl (lv_room (Nat.le_of_ble_eq_true rfl)) dX8_reckon_2 ⟨Nat.le_of_ble_eq_true rfl, Nat.le_of_ble_eq_true rfl⟩) (fun r19 hr19 => ?_)
        subst hr19
        refine W.eq (g2 := F0 m 5 ls [.ref (qa 0 j_x)]) rfl ?_
        refine lv_astore (lv' := [(5, .ref (qa 0 j_x)), (0, .ref o), (1, .int 1), (2, .int (nI j_x)), (3, .int (nI j_y)), (4, .int into)]) hx hb dX8_reckon_5 hl (by decide) rfl (fun ls hl => ?_)
        refine lv_aload_n hx hb dX8_reckon_7 rfl (lv_at hl 1 rfl) ?_
        refine lv_iload_n hx hb dX8_reckon_8 rfl (lv_at hl 4 rfl) ?_
        refine va_csq (W.runV (As := [.int (nI j_y)]) (rest := []) ⟨hx, hb, hml, hown, hts⟩ (c_meterOf l G cy L F o qa Mm Dd Sl Pp Kr Bk Xx hR j_y hj_y) (cwV 1 hts gX8_reckon_X8_meterOf rfl rfl rfl (by decide +kernel) ⟨Nat.le_of_ble_eq_true rfl, Nat.le_of_ble_eq_true rfl⟩) (preV_of okP (⟨hP, hK, hD.top⟩) (pl_recv hK hP (ci := 7) rfl hmo hFo)) rfl rfl hl.1 rfl (lv_room (Nat.le_of_ble_eq_true rfl)) dX8_reckon_9 ⟨Nat.le_of_ble_eq_true rfl, Nat.le_of_ble_eq_true rfl⟩) (fun r20 hr20 => ?_)
        subst hr20
        refine W.eq (g2 := F0 m 12 ls [.ref (qa 0 j_y)]) rfl ?_
        refine lv_astore (lv' := [(6, .ref (qa 0 j_y)), (5, .ref (qa 0 j_x)), (0, .ref o), (1, .int 1), (2, .int (nI j_x)), (3, .int (nI j_y)), (4, .int into)]) hx hb dX8_reckon_12 hl (by decide) rfl (fun ls hl => ?_)
        refine lv_aload_n hx hb dX8_reckon_14 rfl (lv_at hl 2 rfl) ?_
        refine lv_iload hx hb dX8_reckon_15 (lv_at hl 6 rfl) ?_
        refine va_csq (W.runV (As := [.int into]) (rest := []) ⟨hx, hb, hml, hown, hts⟩ (c_meterOf_no l G cy L F o qa Mm Dd Sl Pp Kr Bk Xx hR into hi_into) (cwV 1 hts gX8_reckon_X8_meterOf rfl rfl rfl (by decide +kernel) ⟨Nat.le_of_ble_eq_true rfl, Nat.le_of_ble_eq_true rfl⟩) (preV_of okP (⟨hP, hK, hD.top⟩) (pl_recv hK hP (ci := 7) rfl hmo hFo)) rfl rfl hl.1 rfl (lv_room (Nat.le_of_ble_eq_true rfl)) dX8_reckon_17 ⟨Nat.le_of_ble_eq_true rfl, Nat.le_of_ble_eq_true rfl⟩) (fun r21 hr21 => ?_)
        subst hr21
        refine W.eq (g2 := F0 m 20 ls [.null]) rfl ?_
        refine lv_astoreN (lv' := [(7, .null), (6, .ref (qa 0 j_y)), (5, .ref (qa 0 j_x)), (0, .ref o), (1, .int 1), (2, .int (nI j_x)), (3, .int (nI j_y)), (4, .int into)]) hx hb dX8_reckon_20 hl (by decide) rfl (fun ls hl => ?_)
        refine lv_aload hx hb dX8_reckon_22 (lv_at hl 2 rfl) ?_
        refine lv_ifnull hx hb dX8_reckon_24 ?_
        refine lv_aload hx hb dX8_reckon_27 (lv_at hl 1 rfl) ?_
        refine lv_ifnull hx hb dX8_reckon_29 ?_
        refine lv_aloadN hx hb dX8_reckon_32 (lv_at hl 0 rfl) ?_
        refine lv_ifnonnullN hx hb dX8_reckon_34 ?_
        refine lv_sipush (v := -1001) hx hb dX8_reckon_37 (by decide) ?_
        exact W.iret (v := -1001) hx hb hr (fun t ht hW => ⟨⟨-1001, F, rfl, (by have hsp : sp_reckon Mm Xx 1 (nI j_x) (nI j_y) into = (-1001, Mm, Xx) := (by unfold sp_reckon; rw [hi_x, hi_y, hi_into]); rw [hsp]; exact ⟨rfl, hR⟩), (by show va_P _ _ _ t.heap; rw [ht]; exact hP)⟩, hS.F ht⟩) hS.2.2 dX8_reckon_40
      · subst ei_into
        obtain ⟨hmm_into, nm_into, rl_into, hFm_into, hok_into⟩ := hRM j_into hj_into
        refine lv_aload_n hx hb dX8_reckon_0 rfl (lv_at hl 0 rfl) ?_
        refine lv_iload_n hx hb dX8_reckon_1 rfl (lv_at hl 2 rfl) ?_
        refine va_csq (W.runV (As := [.int (nI j_x)]) (rest := []) ⟨hx, hb, hml, hown, hts⟩ (c_meterOf l G cy L F o qa Mm Dd Sl Pp Kr Bk Xx hR j_x hj_x) (cwV 1 hts gX8_reckon_X8_meterOf rfl rfl rfl (by decide +kernel) ⟨Nat.le_of_ble_eq_true rfl, Nat.le_of_ble_eq_true rfl⟩) (preV_of okP (⟨hP, hK, hD.top⟩) (pl_recv hK hP (ci := 7) rfl hmo hFo)) rfl rfl hl.1 rfl (lv_room (Nat.le_of_ble_eq_true rfl)) dX8_reckon_2 ⟨Nat.le_of_ble_eq_true rfl, Nat.le_of_ble_eq_true rfl⟩) (fun r22 hr22 => ?_)
        subst hr22
        refine W.eq (g2 := F0 m 5 ls [.ref (qa 0 j_x)]) rfl ?_
        refine lv_astore (lv' := [(5, .ref (qa 0 j_x)), (0, .ref o), (1, .int 1), (2, .int (nI j_x)), (3, .int (nI j_y)), (4, .int (nI j_into))]) hx hb dX8_reckon_5 hl (by decide) rfl (fun ls hl => ?_)
        refine lv_aload_n hx hb dX8_reckon_7 rfl (lv_at hl 1 rfl) ?_
        refine lv_iload_n hx hb dX8_reckon_8 rfl (lv_at hl 4 rfl) ?_
        refine va_csq (W.runV (As := [.int (nI j_y)]) (rest := []) ⟨hx, hb, hml, hown, hts⟩ (c_meterOf l G cy L F o qa Mm Dd Sl Pp Kr Bk Xx hR j_y hj_y) (cwV 1 hts gX8_reckon_X8_meterOf rfl rfl rfl (by decide +kernel) ⟨Nat.le_of_ble_eq_true rfl, Nat.le_of_ble_eq_true rfl⟩) (preV_of okP (⟨hP, hK, hD.top⟩) (pl_recv hK hP (ci := 7) rfl hmo hFo)) rfl rfl hl.1 rfl (lv_room (Nat.le_of_ble_eq_true rfl)) dX8_reckon_9 ⟨Nat.le_of_ble_eq_true rfl, Nat.le_of_ble_eq_true rfl⟩) (fun r23 hr23 => ?_)
        subst hr23
        refine W.eq (g2 := F0 m 12 ls [.ref (qa 0 j_y)]) rfl ?_
        refine lv_astore (lv' := [(6, .ref (qa 0 j_y)), (5, .ref (qa 0 j_x)), (0, .ref o), (1, .int 1), (2, .int (nI j_x)), (3, .int (nI j_y)), (4, .int (nI j_into))]) hx hb dX8_reckon_12 hl (by decide) rfl (fun ls hl => ?_)
        refine lv_aload_n hx hb dX8_reckon_14 rfl (lv_at hl 2 rfl) ?_
        refine lv_iload hx hb dX8_reckon_15 (lv_at hl 6 rfl) ?_
        refine va_csq (W.runV (As := [.int (nI j_into)]) (rest := []) ⟨hx, hb, hml, hown, hts⟩ (c_meterOf l G cy L F o qa Mm Dd Sl Pp Kr Bk Xx hR j_into hj_into) (cwV 1 hts gX8_reckon_X8_meterOf rfl rfl rfl (by decide +kernel) ⟨Nat.le_of_ble_eq_true rfl, Nat.le_of_ble_eq_true rfl⟩) (preV_of okP (⟨hP, hK, hD.top⟩) (pl_recv hK hP (ci := 7) rfl hmo hFo)) rfl rfl hl.1 rfl (lv_room (Nat.le_of_ble_eq_true rfl)) dX8_reckon_17 ⟨Nat.le_of_ble_eq_true rfl, Nat.le_of_ble_eq_true rfl⟩) (fun r24 hr24 => ?_)
        subst hr24
        refine W.eq (g2 := F0 m 20 ls [.ref (qa 0 j_into)]) rfl ?_
        refine lv_astore (lv' := [(7, .ref (qa 0 j_into)), (6, .ref (qa 0 j_y)), (5, .ref (qa 0 j_x)), (0, .ref o), (1, .int 1), (2, .int (nI j_x)), (3, .int (nI j_y)), (4, .int (nI j_into))]) hx hb dX8_reckon_20 hl (by decide) rfl (fun ls hl => ?_)
        refine lv_aload hx hb dX8_reckon_22 (lv_at hl 2 rfl) ?_
        refine lv_ifnull hx hb dX8_reckon_24 ?_
        refine lv_aload hx hb dX8_reckon_27 (lv_at hl 1 rfl) ?_
        refine lv_ifnull hx hb dX8_reckon_29 ?_
        refine lv_aload hx hb dX8_reckon_32 (lv_at hl 0 rfl) ?_
        refine lv_ifnonnull (tgt := 41) hx hb dX8_reckon_34 (by decide) ?_
        refine lv_iload_n hx hb dX8_reckon_41 rfl (lv_at hl 4 rfl) ?_
        refine lv_if_lt (tgt := 50) hx hb dX8_reckon_42 (by decide) (fun c25 => absurd c25 (by decide)) (fun c25 => ?_)
        refine lv_iload_n hx hb dX8_reckon_45 rfl (lv_at hl 4 rfl) ?_
        refine lv_iconst (v := 4) hx hb dX8_reckon_46 (by decide) ?_
        refine lv_icmp_le (tgt := 54) hx hb dX8_reckon_47 (by decide) (fun c26 => ?_) (fun c26 => absurd (by decide) c26)
        refine lv_aload hx hb dX8_reckon_54 (lv_at hl 2 rfl) ?_
        refine pg_get (ci := 4) (C := RX4) (T := TX4) (N := 3) hx hb hts hinX4 hown hK hP hmm_x hFm_x rfl 0 (by decide) (hts (.fieldLink RX8 103 "RopeDrums$Meter" "lane" "I") (by decide +kernel)) (fun _ h9 => h9) rfl dX8_reckon_56 ?_
        refine lv_aload hx hb dX8_reckon_59 (lv_at hl 1 rfl) ?_
        refine pg_get (ci := 4) (C := RX4) (T := TX4) (N := 3) hx hb hts hinX4 hown hK hP hmm_y hFm_y rfl 0 (by decide) (hts (.fieldLink RX8 103 "RopeDrums$Meter" "lane" "I") (by decide +kernel)) (fun _ h9 => h9) rfl dX8_reckon_61 ?_
        refine va_mmax hx hb (by rw [hml]; exact hl.1.symm) hown (hts (.methodLink RX8 117 Lib.Math.max.name) (by decide +kernel)) (hts (.static Lib.Math.max.name) (by decide +kernel)) (hts (.initialized "java/lang/Math") (by decide +kernel)) (hts (.code Lib.Math.max.name Lib.Math.max.code 2 (some .int)) (by decide +kernel)) (Nat.le_of_ble_eq_true rfl) (Nat.le_of_ble_eq_true rfl) (Nat.zero_le _) (Nat.zero_le _) dX8_reckon_64 ?_
        refine lv_topi (fun v27 ev27 => ?_)
        rw [mx_eq] at ev27
        subst ev27
        have hmx := mx_v hok_x.lane hok_y.lane
        refine lv_istore (lv' := [(8, .int (mx (Mm.1 j_x) (Mm.1 j_y))), (7, .ref (qa 0 j_into)), (6, .ref (qa 0 j_y)), (5, .ref (qa 0 j_x)), (0, .ref o), (1, .int 1), (2, .int (nI j_x)), (3, .int (nI j_y)), (4, .int (nI j_into))]) hx hb dX8_reckon_67 hl (by decide) rfl (fun ls hl => ?_)
        refine lv_iload hx hb dX8_reckon_69 (lv_at hl 0 rfl) ?_
        refine lv_iconst (v := 1) hx hb dX8_reckon_71 (by decide) ?_
        refine lv_icmp_gt (tgt := 95) hx hb dX8_reckon_72 (by decide) (fun c28 => ?_) (fun c28 => ?_)
        · rcases (hmx.2 c28).1 with hmxl | hmxl
          · refine lv_iload_n hx hb dX8_reckon_95 rfl (lv_at hl 5 rfl) ?_
            refine lv_aload hx hb dX8_reckon_96 (lv_at hl 3 rfl) ?_
            refine lv_iload hx hb dX8_reckon_98 (lv_at hl 0 rfl) ?_
            refine vp_callSd (W.runV (As := [.int (mx (Mm.1 j_x) (Mm.1 j_y))]) (rest := [.int 1]) ⟨hx, hb, hml, hown, hts⟩ (c_asReal l G cy L F (qa 0 j_x) (Mm.1 j_x) nm_x rl_x hmm_x hFm_x (mx (Mm.1 j_x) (Mm.1 j_y)) hok_x.ne) (cwV 1 hts gX8_reckon_X4_asReal rfl rfl rfl (by decide +kernel) ⟨Nat.le_of_ble_eq_true rfl, Nat.le_of_ble_eq_true rfl⟩) (preV_of okP (⟨hP, hK, hD.top⟩) (pl_recv hK hP (ci := 4) rfl hmm_x hFm_x)) rfl rfl hl.1 rfl (lv_room (Nat.le_of_ble_eq_true rfl)) dX8_reckon_100 ⟨Nat.le_of_ble_eq_true rfl, Nat.le_of_ble_eq_true rfl⟩) (fun r29 hr29 => ?_)
            refine lv_aload hx hb dX8_reckon_103 (lv_at hl 2 rfl) ?_
            refine lv_iload hx hb dX8_reckon_105 (lv_at hl 0 rfl) ?_
            refine vp_callSd (W.runV (As := [.int (mx (Mm.1 j_x) (Mm.1 j_y))]) (rest := [.double r29, .int 1]) ⟨hx, hb, hml, hown, hts⟩ (c_asReal l G cy L F (qa 0 j_y) (Mm.1 j_y) nm_y rl_y hmm_y hFm_y (mx (Mm.1 j_x) (Mm.1 j_y)) hok_y.ne) (cwV 1 hts gX8_reckon_X4_asReal rfl rfl rfl (by decide +kernel) ⟨Nat.le_of_ble_eq_true rfl, Nat.le_of_ble_eq_true rfl⟩) (preV_of okP (⟨hP, hK, hD.top⟩) (pl_recv hK hP (ci := 4) rfl hmm_y hFm_y)) rfl rfl hl.1 rfl (lv_room (Nat.le_of_ble_eq_true rfl)) dX8_reckon_107 ⟨Nat.le_of_ble_eq_true rfl, Nat.le_of_ble_eq_true rfl⟩) (fun r30 hr30 => ?_)
            refine vp_callSi (W.runS (As := [.int 1, .double r29, .double r30]) (rest := []) ⟨hx, hb, hml, hown, hts⟩ (c_isVoid_1 l r29 r30) (va_cwS 3 hts gX8_reckon_X8_isVoid rfl rfl rfl (by decide +kernel) ⟨Nat.le_of_ble_eq_true rfl, Nat.le_of_ble_eq_true rfl⟩) (preS_of okT (trivial)) rfl rfl hl.1 rfl (lv_room (Nat.le_of_ble_eq_true rfl)) dX8_reckon_110 ⟨Nat.le_of_ble_eq_true rfl, Nat.le_of_ble_eq_true rfl⟩) (fun r31 hr31 => ?_)
            rw [hr29, hr30, hmxl, (real_2 hok_x).1, (real_2 hok_y).1, vf1 (real_2 hok_x).2.1 (real_2 hok_y).2.1] at hr31
            refine lv_if_eq (tgt := 122) hx hb dX8_reckon_113 (by decide) (fun c32 => ?_) (fun c32 => ?_)
            · have hnan : FP.Core.fIsNaN (rkF 1 (fl (tn (Mm.1 j_x) (Mm.2 j_x) 2)) (fl (tn (Mm.1 j_y) (Mm.2 j_y) 2))) = false := by have hc := c32; rw [hr31] at hc; exact Bool.eq_false_iff.mpr (fun q => absurd ((if_pos (t := (1 : Int32)) (e := 0) q).symm.trans hc) (by decide))
              refine lv_iload hx hb dX8_reckon_122 (lv_at hl 0 rfl) ?_
              refine lv_iconst (v := 2) hx hb dX8_reckon_124 (by decide) ?_
              refine lv_icmp_ne (tgt := 146) hx hb dX8_reckon_125 (by decide) (fun c33 => absurd (hmxl) c33) (fun c33 => ?_)
              refine lv_iload_n hx hb dX8_reckon_128 rfl (lv_at hl 5 rfl) ?_
              refine lv_aload hx hb dX8_reckon_129 (lv_at hl 3 rfl) ?_
              refine vp_callSf (W.runV (As := []) (rest := [.int 1]) ⟨hx, hb, hml, hown, hts⟩ (c_asFloat l G cy L F (qa 0 j_x) (Mm.1 j_x) nm_x rl_x hmm_x hFm_x  hok_x.ne) (cwV 0 hts gX8_reckon_X4_asFloat rfl rfl rfl (by decide +kernel) ⟨Nat.le_of_ble_eq_true rfl, Nat.le_of_ble_eq_true rfl⟩) (preV_of okP (⟨hP, hK, hD.top⟩) (pl_recv hK hP (ci := 4) rfl hmm_x hFm_x)) rfl rfl hl.1 rfl (lv_room (Nat.le_of_ble_eq_true rfl)) dX8_reckon_131 ⟨Nat.le_of_ble_eq_true rfl, Nat.le_of_ble_eq_true rfl⟩) (fun r34 hr34 => ?_)
              refine lv_aload hx hb dX8_reckon_134 (lv_at hl 2 rfl) ?_
              refine vp_callSf (W.runV (As := []) (rest := [.float r34, .int 1]) ⟨hx, hb, hml, hown, hts⟩ (c_asFloat l G cy L F (qa 0 j_y) (Mm.1 j_y) nm_y rl_y hmm_y hFm_y  hok_y.ne) (cwV 0 hts gX8_reckon_X4_asFloat rfl rfl rfl (by decide +kernel) ⟨Nat.le_of_ble_eq_true rfl, Nat.le_of_ble_eq_true rfl⟩) (preV_of okP (⟨hP, hK, hD.top⟩) (pl_recv hK hP (ci := 4) rfl hmm_y hFm_y)) rfl rfl hl.1 rfl (lv_room (Nat.le_of_ble_eq_true rfl)) dX8_reckon_136 ⟨Nat.le_of_ble_eq_true rfl, Nat.le_of_ble_eq_true rfl⟩) (fun r35 hr35 => ?_)
              refine vp_callSf (W.runS (As := [.int 1, .float r34, .float r35]) (rest := []) ⟨hx, hb, hml, hown, hts⟩ (c_makeFloat_1 l ad r34 r35 (by rw [hr34]; exact asFloat_ok hok_x.ne) (by rw [hr35]; exact asFloat_ok hok_y.ne) (by rw [hr34, hr35, (real_2 hok_x).2.2, (real_2 hok_y).2.2]; exact hnan)) (va_cwS 3 hts gX8_reckon_X8_makeFloat rfl rfl rfl (by decide +kernel) ⟨Nat.le_of_ble_eq_true rfl, Nat.le_of_ble_eq_true rfl⟩) (preS_of okE (pE.low hE hN hS)) rfl rfl hl.1 rfl (lv_room (Nat.le_of_ble_eq_true rfl)) dX8_reckon_139 ⟨Nat.le_of_ble_eq_true rfl, Nat.le_of_ble_eq_true rfl⟩) (fun r36 hr36 => ?_)
              rw [hr34, hr35, (real_2 hok_x).2.2, (real_2 hok_y).2.2] at hr36
              refine lv_f2d hx hb dX8_reckon_142 (n64.mpr (f2d_ok (by rw [hr36]; exact (FP.Core.notNaN_iff32 _).mp hnan)).2) ?_
              refine lv_topd (fun v37 ev37 => ?_)
              refine lv_goto (tgt := 160) hx hb dX8_reckon_143 (by decide) ?_
              refine lv_dstore (lv' := [(9, .double v37), (8, .int (mx (Mm.1 j_x) (Mm.1 j_y))), (7, .ref (qa 0 j_into)), (6, .ref (qa 0 j_y)), (5, .ref (qa 0 j_x)), (0, .ref o), (1, .int 1), (2, .int (nI j_x)), (3, .int (nI j_y)), (4, .int (nI j_into))]) hx hb dX8_reckon_160 hl (by decide) rfl (fun ls hl => ?_)
              refine lv_aload hx hb dX8_reckon_162 (lv_at hl 2 rfl) ?_
              refine lv_iload hx hb dX8_reckon_164 (lv_at hl 1 rfl) ?_
              refine lv_dload hx hb dX8_reckon_166 (lv_at hl 0 rfl) ?_
              refine va_callv (va_runV (As := [.int (mx (Mm.1 j_x) (Mm.1 j_y)), .double v37]) (rest := []) ⟨hx, hb, hml, hown, hts⟩ (c_holdReal l G cy L F s.heap.size (qa 0 j_into) (Mm.1 j_into) nm_into rl_into hmm_into hFm_into (mx (Mm.1 j_x) (Mm.1 j_y)) v37) (cwV 2 hts gX8_reckon_X4_holdReal rfl rfl rfl (by decide +kernel) ⟨Nat.le_of_ble_eq_true rfl, Nat.le_of_ble_eq_true rfl⟩) (preV_of okQ (⟨rfl, hP, hK, hD.top⟩) (pl_recv hK hP (ci := 4) rfl hmm_into hFm_into)) rfl rfl hl.1 rfl (lv_room (Nat.le_of_ble_eq_true rfl)) dX8_reckon_168 ⟨Nat.le_of_ble_eq_true rfl, Nat.le_of_ble_eq_true rfl⟩) hS (fun q _ h => pl_free hD hS hA q h) (pl_free hD hS hA) (fun F38 t H1 locs ht hvm hw hP1 hz1 hk1 hS => ?_)
              have hP1 : va_P G vwCl (va_pl L F38) t.heap := hP1
              rw [ht] at hP1
              have hP := hP1
              generalize H1 = H at hP hS ⊢
              have eF38 : F38 = va_up F (qa 0 j_into) (.inr (4, [.int (mx (Mm.1 j_x) (Mm.1 j_y)), .long nm_into, .double v37])) := hw
              have hFo_38 : F38 o = .inr (7, [.ref (qa 8 0), .ref (qa 8 1), .ref (qa 8 2), .ref (qa 8 3), .ref (qa 8 4), .ref (qa 8 5), .ref (qa 8 6), .int Pp.1, .int Xx.1]) := by rw [eF38, va_up_ne _ _ (pl_ne hFo hFm_into rfl)]; exact hFo
              have hFqa80_38 : F38 (qa 8 0) = cQ (cy 7) 10 (pR 10 (qa 0)) := by rw [eF38, va_up_ne _ _ (pl_ne hF0 hFm_into rfl)]; exact hF0
              have hFqa81_38 : F38 (qa 8 1) = cQ (cy 5) 6 (pR 6 (qa 1)) := by rw [eF38, va_up_ne _ _ (pl_ne hF1 hFm_into rfl)]; exact hF1
              have hFqa82_38 : F38 (qa 8 2) = cQ (cy 6) 8 (pR 8 (qa 2)) := by rw [eF38, va_up_ne _ _ (pl_ne hF2 hFm_into rfl)]; exact hF2
              have hFqa83_38 : F38 (qa 8 3) = cQ (cy 9) 30 (pR Pp.1.toInt.toNat (qa 7)) := by rw [eF38, va_up_ne _ _ (pl_ne hFs hFm_into rfl)]; exact hFs
              have hFqa84_38 : F38 (qa 8 4) = cQ (cy 8) 5 (pR 5 (qa 4)) := by rw [eF38, va_up_ne _ _ (pl_ne hF4 hFm_into rfl)]; exact hF4
              have hFqa85_38 : F38 (qa 8 5) = cQ (cy 4) 4 (pR 4 (qa 6)) := by rw [eF38, va_up_ne _ _ (pl_ne hF5 hFm_into rfl)]; exact hF5
              have hFqa86_38 : F38 (qa 8 6) = cI (cy 1) 6 Xx.2 := by rw [eF38, va_up_ne _ _ (pl_ne hFf hFm_into rfl)]; exact hFf
              have hFqa0j_into_38 : F38 (qa 0 j_into) = .inr (4, [.int (mx (Mm.1 j_x) (Mm.1 j_y)), .long nm_into, .double v37]) := by rw [eF38]; exact va_up_self _ _ _
              have hR39 : Rep cy L o qa (setM Mm j_into 2 (rkF 1 (fl (tn (Mm.1 j_x) (Mm.2 j_x) 2)) (fl (tn (Mm.1 j_y) (Mm.2 j_y) 2))).toInt32.toInt64) Dd Sl Pp Kr Bk Xx F38 := by rw [eF38, ev37, hr36, hmxl]; exact hR.meter hj_into (real_okM2 ((FP.Core.notNaN_iff32 _).mp hnan))
              refine lv_aload_n hx hb dX8_reckon_171 rfl (lv_at hl 5 rfl) ?_
              refine lv_iload hx hb dX8_reckon_172 (lv_at hl 1 rfl) ?_
              refine va_calli (va_runV (As := [.int (mx (Mm.1 j_x) (Mm.1 j_y))]) (rest := []) ⟨hx, hb, hml, hown, hts⟩ (c_succeed l G cy L F38 H.size o qa (setM Mm j_into 2 (rkF 1 (fl (tn (Mm.1 j_x) (Mm.2 j_x) 2)) (fl (tn (Mm.1 j_y) (Mm.2 j_y) 2))).toInt32.toInt64) Dd Sl Pp Kr Bk Xx hR39 (mx (Mm.1 j_x) (Mm.1 j_y))) (cwV 1 hts gX8_reckon_X8_succeed rfl rfl rfl (by decide +kernel) ⟨Nat.le_of_ble_eq_true rfl, Nat.le_of_ble_eq_true rfl⟩) (preV_of okQ (⟨rfl, hP, hK, hD.top⟩) (pl_recv hK hP (ci := 7) rfl hmo hFo_38)) rfl rfl hl.1 rfl (lv_room (Nat.le_of_ble_eq_true rfl)) dX8_reckon_174 ⟨Nat.le_of_ble_eq_true rfl, Nat.le_of_ble_eq_true rfl⟩) hS (fun q _ h => pl_free hD hS hA q h) (pl_free hD hS hA) (fun r41 F40 t H1 locs ht hvm hw hP1 hz1 hk1 hS => ?_)
              have hP1 : va_P G vwCl (va_pl L F40) t.heap := hP1
              rw [ht] at hP1
              have hP := hP1
              generalize H1 = H at hP hS ⊢
              obtain ⟨hqr41, hR42⟩ := hw
              exact W.iret (v := r41) hx hb hr (fun t ht hW => ⟨⟨r41, F40, rfl, (by have hsp : sp_reckon Mm Xx 1 (nI j_x) (nI j_y) (nI j_into) = (2, setM Mm j_into 2 (rkF 1 (fl (tn (Mm.1 j_x) (Mm.2 j_x) 2)) (fl (tn (Mm.1 j_y) (Mm.2 j_y) 2))).toInt32.toInt64, goodX Xx) := (by unfold sp_reckon; rw [hi_x, hi_y, hi_into, ixk.2.1]; show rk Mm Xx 1 j_x j_y j_into = _; unfold rk; rw [if_neg (hmx.2 c28).2, if_pos hmxl]; exact if_neg (by rw [hnan]; decide)); rw [hsp]; exact ⟨(by rw [hqr41]; exact hmxl), hR42⟩), (by show va_P _ _ _ t.heap; rw [ht]; exact hP)⟩, hS.F ht⟩) hS.2.2 dX8_reckon_177
            · have hnan : FP.Core.fIsNaN (rkF 1 (fl (tn (Mm.1 j_x) (Mm.2 j_x) 2)) (fl (tn (Mm.1 j_y) (Mm.2 j_y) 2))) = true := Decidable.byContradiction (fun q => c32 (by rw [hr31]; exact if_neg q))
              refine lv_aload_n hx hb dX8_reckon_116 rfl (lv_at hl 4 rfl) ?_
              refine lv_iconst (v := 5) hx hb dX8_reckon_117 (by decide) ?_
              refine va_calli (va_runV (As := [.int 5]) (rest := []) ⟨hx, hb, hml, hown, hts⟩ (c_fail_5 l G cy L F s.heap.size o qa Mm Dd Sl Pp Kr Bk Xx hR) (cwV 1 hts gX8_reckon_X8_fail rfl rfl rfl (by decide +kernel) ⟨Nat.le_of_ble_eq_true rfl, Nat.le_of_ble_eq_true rfl⟩) (preV_of okQ (⟨rfl, hP, hK, hD.top⟩) (pl_recv hK hP (ci := 7) rfl hmo hFo)) rfl rfl hl.1 rfl (lv_room (Nat.le_of_ble_eq_true rfl)) dX8_reckon_118 ⟨Nat.le_of_ble_eq_true rfl, Nat.le_of_ble_eq_true rfl⟩) hS (fun q _ h => pl_free hD hS hA q h) (pl_free hD hS hA) (fun r44 F43 t H1 locs ht hvm hw hP1 hz1 hk1 hS => ?_)
              have hP1 : va_P G vwCl (va_pl L F43) t.heap := hP1
              rw [ht] at hP1
              have hP := hP1
              generalize H1 = H at hP hS ⊢
              obtain ⟨hqr44, hR45⟩ := hw
              exact W.iret (v := r44) hx hb hr (fun t ht hW => ⟨⟨r44, F43, rfl, (by have hsp : sp_reckon Mm Xx 1 (nI j_x) (nI j_y) (nI j_into) = (-15, Mm, failX Xx 5) := (by unfold sp_reckon; rw [hi_x, hi_y, hi_into, ixk.2.1]; show rk Mm Xx 1 j_x j_y j_into = _; unfold rk; rw [if_neg (hmx.2 c28).2, if_pos hmxl]; exact if_pos hnan); rw [hsp]; exact ⟨hqr44, hR45⟩), (by show va_P _ _ _ t.heap; rw [ht]; exact hP)⟩, hS.F ht⟩) hS.2.2 dX8_reckon_121
          · refine lv_iload_n hx hb dX8_reckon_95 rfl (lv_at hl 5 rfl) ?_
            refine lv_aload hx hb dX8_reckon_96 (lv_at hl 3 rfl) ?_
            refine lv_iload hx hb dX8_reckon_98 (lv_at hl 0 rfl) ?_
            refine vp_callSd (W.runV (As := [.int (mx (Mm.1 j_x) (Mm.1 j_y))]) (rest := [.int 1]) ⟨hx, hb, hml, hown, hts⟩ (c_asReal l G cy L F (qa 0 j_x) (Mm.1 j_x) nm_x rl_x hmm_x hFm_x (mx (Mm.1 j_x) (Mm.1 j_y)) hok_x.ne) (cwV 1 hts gX8_reckon_X4_asReal rfl rfl rfl (by decide +kernel) ⟨Nat.le_of_ble_eq_true rfl, Nat.le_of_ble_eq_true rfl⟩) (preV_of okP (⟨hP, hK, hD.top⟩) (pl_recv hK hP (ci := 4) rfl hmm_x hFm_x)) rfl rfl hl.1 rfl (lv_room (Nat.le_of_ble_eq_true rfl)) dX8_reckon_100 ⟨Nat.le_of_ble_eq_true rfl, Nat.le_of_ble_eq_true rfl⟩) (fun r46 hr46 => ?_)
            refine lv_aload hx hb dX8_reckon_103 (lv_at hl 2 rfl) ?_
            refine lv_iload hx hb dX8_reckon_105 (lv_at hl 0 rfl) ?_
            refine vp_callSd (W.runV (As := [.int (mx (Mm.1 j_x) (Mm.1 j_y))]) (rest := [.double r46, .int 1]) ⟨hx, hb, hml, hown, hts⟩ (c_asReal l G cy L F (qa 0 j_y) (Mm.1 j_y) nm_y rl_y hmm_y hFm_y (mx (Mm.1 j_x) (Mm.1 j_y)) hok_y.ne) (cwV 1 hts gX8_reckon_X4_asReal rfl rfl rfl (by decide +kernel) ⟨Nat.le_of_ble_eq_true rfl, Nat.le_of_ble_eq_true rfl⟩) (preV_of okP (⟨hP, hK, hD.top⟩) (pl_recv hK hP (ci := 4) rfl hmm_y hFm_y)) rfl rfl hl.1 rfl (lv_room (Nat.le_of_ble_eq_true rfl)) dX8_reckon_107 ⟨Nat.le_of_ble_eq_true rfl, Nat.le_of_ble_eq_true rfl⟩) (fun r47 hr47 => ?_)
            refine vp_callSi (W.runS (As := [.int 1, .double r46, .double r47]) (rest := []) ⟨hx, hb, hml, hown, hts⟩ (c_isVoid_1 l r46 r47) (va_cwS 3 hts gX8_reckon_X8_isVoid rfl rfl rfl (by decide +kernel) ⟨Nat.le_of_ble_eq_true rfl, Nat.le_of_ble_eq_true rfl⟩) (preS_of okT (trivial)) rfl rfl hl.1 rfl (lv_room (Nat.le_of_ble_eq_true rfl)) dX8_reckon_110 ⟨Nat.le_of_ble_eq_true rfl, Nat.le_of_ble_eq_true rfl⟩) (fun r48 hr48 => ?_)
            rw [hr46, hr47, hmxl, (real_3 hok_x).1, (real_3 hok_y).1, void1 (real_3 hok_x).2.1 (real_3 hok_y).2.1] at hr48
            refine lv_if_eq (tgt := 122) hx hb dX8_reckon_113 (by decide) (fun c49 => ?_) (fun c49 => ?_)
            · have hnan : FP.Core.dIsNaN (rkD 1 (db (tn (Mm.1 j_x) (Mm.2 j_x) 3)) (db (tn (Mm.1 j_y) (Mm.2 j_y) 3))) = false := by have hc := c49; rw [hr48] at hc; exact Bool.eq_false_iff.mpr (fun q => absurd ((if_pos (t := (1 : Int32)) (e := 0) q).symm.trans hc) (by decide))
              refine lv_iload hx hb dX8_reckon_122 (lv_at hl 0 rfl) ?_
              refine lv_iconst (v := 2) hx hb dX8_reckon_124 (by decide) ?_
              refine lv_icmp_ne (tgt := 146) hx hb dX8_reckon_125 (by decide) (fun c50 => ?_) (fun c50 => absurd c50 (by rw [hmxl]; decide))
              refine lv_iload_n hx hb dX8_reckon_146 rfl (lv_at hl 5 rfl) ?_
              refine lv_aload hx hb dX8_reckon_147 (lv_at hl 3 rfl) ?_
              refine vp_callSd (W.runV (As := []) (rest := [.int 1]) ⟨hx, hb, hml, hown, hts⟩ (c_asDouble l G cy L F (qa 0 j_x) (Mm.1 j_x) nm_x rl_x hmm_x hFm_x ) (cwV 0 hts gX8_reckon_X4_asDouble rfl rfl rfl (by decide +kernel) ⟨Nat.le_of_ble_eq_true rfl, Nat.le_of_ble_eq_true rfl⟩) (preV_of okP (⟨hP, hK, hD.top⟩) (pl_recv hK hP (ci := 4) rfl hmm_x hFm_x)) rfl rfl hl.1 rfl (lv_room (Nat.le_of_ble_eq_true rfl)) dX8_reckon_149 ⟨Nat.le_of_ble_eq_true rfl, Nat.le_of_ble_eq_true rfl⟩) (fun r51 hr51 => ?_)
              refine lv_aload hx hb dX8_reckon_152 (lv_at hl 2 rfl) ?_
              refine vp_callSd (W.runV (As := []) (rest := [.double r51, .int 1]) ⟨hx, hb, hml, hown, hts⟩ (c_asDouble l G cy L F (qa 0 j_y) (Mm.1 j_y) nm_y rl_y hmm_y hFm_y ) (cwV 0 hts gX8_reckon_X4_asDouble rfl rfl rfl (by decide +kernel) ⟨Nat.le_of_ble_eq_true rfl, Nat.le_of_ble_eq_true rfl⟩) (preV_of okP (⟨hP, hK, hD.top⟩) (pl_recv hK hP (ci := 4) rfl hmm_y hFm_y)) rfl rfl hl.1 rfl (lv_room (Nat.le_of_ble_eq_true rfl)) dX8_reckon_154 ⟨Nat.le_of_ble_eq_true rfl, Nat.le_of_ble_eq_true rfl⟩) (fun r52 hr52 => ?_)
              refine vp_callSd (W.runS (As := [.int 1, .double r51, .double r52]) (rest := []) ⟨hx, hb, hml, hown, hts⟩ (c_makeDouble_1 l ad r51 r52 (by rw [hr51]; exact asDouble_ok hok_x.ne) (by rw [hr52]; exact asDouble_ok hok_y.ne) (by rw [hr51, hr52, (real_3 hok_x).2.2, (real_3 hok_y).2.2]; exact hnan)) (va_cwS 3 hts gX8_reckon_X8_makeDouble rfl rfl rfl (by decide +kernel) ⟨Nat.le_of_ble_eq_true rfl, Nat.le_of_ble_eq_true rfl⟩) (preS_of okE (pE.low hE hN hS)) rfl rfl hl.1 rfl (lv_room (Nat.le_of_ble_eq_true rfl)) dX8_reckon_157 ⟨Nat.le_of_ble_eq_true rfl, Nat.le_of_ble_eq_true rfl⟩) (fun r53 hr53 => ?_)
              rw [hr51, hr52, (real_3 hok_x).2.2, (real_3 hok_y).2.2] at hr53
              refine lv_dstore (lv' := [(9, .double r53), (8, .int (mx (Mm.1 j_x) (Mm.1 j_y))), (7, .ref (qa 0 j_into)), (6, .ref (qa 0 j_y)), (5, .ref (qa 0 j_x)), (0, .ref o), (1, .int 1), (2, .int (nI j_x)), (3, .int (nI j_y)), (4, .int (nI j_into))]) hx hb dX8_reckon_160 hl (by decide) rfl (fun ls hl => ?_)
              refine lv_aload hx hb dX8_reckon_162 (lv_at hl 2 rfl) ?_
              refine lv_iload hx hb dX8_reckon_164 (lv_at hl 1 rfl) ?_
              refine lv_dload hx hb dX8_reckon_166 (lv_at hl 0 rfl) ?_
              refine va_callv (va_runV (As := [.int (mx (Mm.1 j_x) (Mm.1 j_y)), .double r53]) (rest := []) ⟨hx, hb, hml, hown, hts⟩ (c_holdReal l G cy L F s.heap.size (qa 0 j_into) (Mm.1 j_into) nm_into rl_into hmm_into hFm_into (mx (Mm.1 j_x) (Mm.1 j_y)) r53) (cwV 2 hts gX8_reckon_X4_holdReal rfl rfl rfl (by decide +kernel) ⟨Nat.le_of_ble_eq_true rfl, Nat.le_of_ble_eq_true rfl⟩) (preV_of okQ (⟨rfl, hP, hK, hD.top⟩) (pl_recv hK hP (ci := 4) rfl hmm_into hFm_into)) rfl rfl hl.1 rfl (lv_room (Nat.le_of_ble_eq_true rfl)) dX8_reckon_168 ⟨Nat.le_of_ble_eq_true rfl, Nat.le_of_ble_eq_true rfl⟩) hS (fun q _ h => pl_free hD hS hA q h) (pl_free hD hS hA) (fun F54 t H1 locs ht hvm hw hP1 hz1 hk1 hS => ?_)
              have hP1 : va_P G vwCl (va_pl L F54) t.heap := hP1
              rw [ht] at hP1
              have hP := hP1
              generalize H1 = H at hP hS ⊢
              have eF54 : F54 = va_up F (qa 0 j_into) (.inr (4, [.int (mx (Mm.1 j_x) (Mm.1 j_y)), .long nm_into, .double r53])) := hw
              have hFo_54 : F54 o = .inr (7, [.ref (qa 8 0), .ref (qa 8 1), .ref (qa 8 2), .ref (qa 8 3), .ref (qa 8 4), .ref (qa 8 5), .ref (qa 8 6), .int Pp.1, .int Xx.1]) := by rw [eF54, va_up_ne _ _ (pl_ne hFo hFm_into rfl)]; exact hFo
              have hFqa80_54 : F54 (qa 8 0) = cQ (cy 7) 10 (pR 10 (qa 0)) := by rw [eF54, va_up_ne _ _ (pl_ne hF0 hFm_into rfl)]; exact hF0
              have hFqa81_54 : F54 (qa 8 1) = cQ (cy 5) 6 (pR 6 (qa 1)) := by rw [eF54, va_up_ne _ _ (pl_ne hF1 hFm_into rfl)]; exact hF1
              have hFqa82_54 : F54 (qa 8 2) = cQ (cy 6) 8 (pR 8 (qa 2)) := by rw [eF54, va_up_ne _ _ (pl_ne hF2 hFm_into rfl)]; exact hF2
              have hFqa83_54 : F54 (qa 8 3) = cQ (cy 9) 30 (pR Pp.1.toInt.toNat (qa 7)) := by rw [eF54, va_up_ne _ _ (pl_ne hFs hFm_into rfl)]; exact hFs
              have hFqa84_54 : F54 (qa 8 4) = cQ (cy 8) 5 (pR 5 (qa 4)) := by rw [eF54, va_up_ne _ _ (pl_ne hF4 hFm_into rfl)]; exact hF4
              have hFqa85_54 : F54 (qa 8 5) = cQ (cy 4) 4 (pR 4 (qa 6)) := by rw [eF54, va_up_ne _ _ (pl_ne hF5 hFm_into rfl)]; exact hF5
              have hFqa86_54 : F54 (qa 8 6) = cI (cy 1) 6 Xx.2 := by rw [eF54, va_up_ne _ _ (pl_ne hFf hFm_into rfl)]; exact hFf
              have hFqa0j_into_54 : F54 (qa 0 j_into) = .inr (4, [.int (mx (Mm.1 j_x) (Mm.1 j_y)), .long nm_into, .double r53]) := by rw [eF54]; exact va_up_self _ _ _
              have hR55 : Rep cy L o qa (setM Mm j_into 3 (rkD 1 (db (tn (Mm.1 j_x) (Mm.2 j_x) 3)) (db (tn (Mm.1 j_y) (Mm.2 j_y) 3))).toInt64) Dd Sl Pp Kr Bk Xx F54 := by rw [eF54, hr53, hmxl]; exact hR.meter hj_into (real_okM3 ((FP.Core.notNaN_iff _).mp hnan))
              refine lv_aload_n hx hb dX8_reckon_171 rfl (lv_at hl 5 rfl) ?_
              refine lv_iload hx hb dX8_reckon_172 (lv_at hl 1 rfl) ?_
              refine va_calli (va_runV (As := [.int (mx (Mm.1 j_x) (Mm.1 j_y))]) (rest := []) ⟨hx, hb, hml, hown, hts⟩ (c_succeed l G cy L F54 H.size o qa (setM Mm j_into 3 (rkD 1 (db (tn (Mm.1 j_x) (Mm.2 j_x) 3)) (db (tn (Mm.1 j_y) (Mm.2 j_y) 3))).toInt64) Dd Sl Pp Kr Bk Xx hR55 (mx (Mm.1 j_x) (Mm.1 j_y))) (cwV 1 hts gX8_reckon_X8_succeed rfl rfl rfl (by decide +kernel) ⟨Nat.le_of_ble_eq_true rfl, Nat.le_of_ble_eq_true rfl⟩) (preV_of okQ (⟨rfl, hP, hK, hD.top⟩) (pl_recv hK hP (ci := 7) rfl hmo hFo_54)) rfl rfl hl.1 rfl (lv_room (Nat.le_of_ble_eq_true rfl)) dX8_reckon_174 ⟨Nat.le_of_ble_eq_true rfl, Nat.le_of_ble_eq_true rfl⟩) hS (fun q _ h => pl_free hD hS hA q h) (pl_free hD hS hA) (fun r57 F56 t H1 locs ht hvm hw hP1 hz1 hk1 hS => ?_)
              have hP1 : va_P G vwCl (va_pl L F56) t.heap := hP1
              rw [ht] at hP1
              have hP := hP1
              generalize H1 = H at hP hS ⊢
              obtain ⟨hqr57, hR58⟩ := hw
              exact W.iret (v := r57) hx hb hr (fun t ht hW => ⟨⟨r57, F56, rfl, (by have hsp : sp_reckon Mm Xx 1 (nI j_x) (nI j_y) (nI j_into) = (3, setM Mm j_into 3 (rkD 1 (db (tn (Mm.1 j_x) (Mm.2 j_x) 3)) (db (tn (Mm.1 j_y) (Mm.2 j_y) 3))).toInt64, goodX Xx) := (by unfold sp_reckon; rw [hi_x, hi_y, hi_into, ixk.2.1]; show rk Mm Xx 1 j_x j_y j_into = _; unfold rk; rw [if_neg (hmx.2 c28).2, if_neg (by rw [hmxl]; decide)]; exact if_neg (by rw [hnan]; decide)); rw [hsp]; exact ⟨(by rw [hqr57]; exact hmxl), hR58⟩), (by show va_P _ _ _ t.heap; rw [ht]; exact hP)⟩, hS.F ht⟩) hS.2.2 dX8_reckon_177
            · have hnan : FP.Core.dIsNaN (rkD 1 (db (tn (Mm.1 j_x) (Mm.2 j_x) 3)) (db (tn (Mm.1 j_y) (Mm.2 j_y) 3))) = true := Decidable.byContradiction (fun q => c49 (by rw [hr48]; exact if_neg q))
              refine lv_aload_n hx hb dX8_reckon_116 rfl (lv_at hl 4 rfl) ?_
              refine lv_iconst (v := 5) hx hb dX8_reckon_117 (by decide) ?_
              refine va_calli (va_runV (As := [.int 5]) (rest := []) ⟨hx, hb, hml, hown, hts⟩ (c_fail_5 l G cy L F s.heap.size o qa Mm Dd Sl Pp Kr Bk Xx hR) (cwV 1 hts gX8_reckon_X8_fail rfl rfl rfl (by decide +kernel) ⟨Nat.le_of_ble_eq_true rfl, Nat.le_of_ble_eq_true rfl⟩) (preV_of okQ (⟨rfl, hP, hK, hD.top⟩) (pl_recv hK hP (ci := 7) rfl hmo hFo)) rfl rfl hl.1 rfl (lv_room (Nat.le_of_ble_eq_true rfl)) dX8_reckon_118 ⟨Nat.le_of_ble_eq_true rfl, Nat.le_of_ble_eq_true rfl⟩) hS (fun q _ h => pl_free hD hS hA q h) (pl_free hD hS hA) (fun r60 F59 t H1 locs ht hvm hw hP1 hz1 hk1 hS => ?_)
              have hP1 : va_P G vwCl (va_pl L F59) t.heap := hP1
              rw [ht] at hP1
              have hP := hP1
              generalize H1 = H at hP hS ⊢
              obtain ⟨hqr60, hR61⟩ := hw
              exact W.iret (v := r60) hx hb hr (fun t ht hW => ⟨⟨r60, F59, rfl, (by have hsp : sp_reckon Mm Xx 1 (nI j_x) (nI j_y) (nI j_into) = (-15, Mm, failX Xx 5) := (by unfold sp_reckon; rw [hi_x, hi_y, hi_into, ixk.2.1]; show rk Mm Xx 1 j_x j_y j_into = _; unfold rk; rw [if_neg (hmx.2 c28).2, if_neg (by rw [hmxl]; decide)]; exact if_pos hnan); rw [hsp]; exact ⟨hqr60, hR61⟩), (by show va_P _ _ _ t.heap; rw [ht]; exact hP)⟩, hS.F ht⟩) hS.2.2 dX8_reckon_121
        · refine lv_aload_n hx hb dX8_reckon_75 rfl (lv_at hl 4 rfl) ?_
          refine lv_iload_n hx hb dX8_reckon_76 rfl (lv_at hl 5 rfl) ?_
          refine lv_iload hx hb dX8_reckon_77 (lv_at hl 0 rfl) ?_
          refine lv_aload hx hb dX8_reckon_79 (lv_at hl 3 rfl) ?_
          refine vp_callSl (W.runV (As := []) (rest := [.int (mx (Mm.1 j_x) (Mm.1 j_y)), .int 1, .ref o]) ⟨hx, hb, hml, hown, hts⟩ (c_asLong l G cy L F (qa 0 j_x) (Mm.1 j_x) nm_x rl_x hmm_x hFm_x ) (cwV 0 hts gX8_reckon_X4_asLong rfl rfl rfl (by decide +kernel) ⟨Nat.le_of_ble_eq_true rfl, Nat.le_of_ble_eq_true rfl⟩) (preV_of okP (⟨hP, hK, hD.top⟩) (pl_recv hK hP (ci := 4) rfl hmm_x hFm_x)) rfl rfl hl.1 rfl (lv_room (Nat.le_of_ble_eq_true rfl)) dX8_reckon_81 ⟨Nat.le_of_ble_eq_true rfl, Nat.le_of_ble_eq_true rfl⟩) (fun r62 hr62 => ?_)
          refine lv_aload hx hb dX8_reckon_84 (lv_at hl 2 rfl) ?_
          refine vp_callSl (W.runV (As := []) (rest := [.long r62, .int (mx (Mm.1 j_x) (Mm.1 j_y)), .int 1, .ref o]) ⟨hx, hb, hml, hown, hts⟩ (c_asLong l G cy L F (qa 0 j_y) (Mm.1 j_y) nm_y rl_y hmm_y hFm_y ) (cwV 0 hts gX8_reckon_X4_asLong rfl rfl rfl (by decide +kernel) ⟨Nat.le_of_ble_eq_true rfl, Nat.le_of_ble_eq_true rfl⟩) (preV_of okP (⟨hP, hK, hD.top⟩) (pl_recv hK hP (ci := 4) rfl hmm_y hFm_y)) rfl rfl hl.1 rfl (lv_room (Nat.le_of_ble_eq_true rfl)) dX8_reckon_86 ⟨Nat.le_of_ble_eq_true rfl, Nat.le_of_ble_eq_true rfl⟩) (fun r63 hr63 => ?_)
          refine lv_aload hx hb dX8_reckon_89 (lv_at hl 1 rfl) ?_
          refine va_calli (va_runV (As := [.int 1, .int (mx (Mm.1 j_x) (Mm.1 j_y)), .long r62, .long r63, .ref (qa 0 j_into)]) (rest := []) ⟨hx, hb, hml, hown, hts⟩ (c_rkW_1 l G cy L F s.heap.size o qa Mm Dd Sl Pp Kr Bk Xx hR (mx (Mm.1 j_x) (Mm.1 j_y)) r62 r63 j_into hj_into (hmx.1 c28).1) (cwV 5 hts gX8_reckon_X8_reckonWholes rfl rfl rfl (by decide +kernel) ⟨Nat.le_of_ble_eq_true rfl, Nat.le_of_ble_eq_true rfl⟩) (preV_of okQ (⟨rfl, hP, hK, hD.top⟩) (pl_recv hK hP (ci := 7) rfl hmo hFo)) rfl rfl hl.1 rfl (lv_room (Nat.le_of_ble_eq_true rfl)) dX8_reckon_91 ⟨Nat.le_of_ble_eq_true rfl, Nat.le_of_ble_eq_true rfl⟩) hS (fun q _ h => pl_free hD hS hA q h) (pl_free hD hS hA) (fun r65 F64 t H1 locs ht hvm hw hP1 hz1 hk1 hS => ?_)
          have hP1 : va_P G vwCl (va_pl L F64) t.heap := hP1
          rw [ht] at hP1
          have hP := hP1
          generalize H1 = H at hP hS ⊢
          obtain ⟨hqr65, hR66⟩ := hw
          exact W.iret (v := r65) hx hb hr (fun t ht hW => ⟨⟨r65, F64, rfl, (by have hsp : sp_reckon Mm Xx 1 (nI j_x) (nI j_y) (nI j_into) = rkW 1 Mm Xx (mx (Mm.1 j_x) (Mm.1 j_y)) r62 r63 j_into := (by unfold sp_reckon; rw [hi_x, hi_y, hi_into, ixk.2.1]; show rk Mm Xx 1 j_x j_y j_into = _; exact rk_eq (hmx.1 c28).2.1 (by rw [hr62]; exact (long_tn hok_x (hmx.1 c28).2.2.1 (hmx.1 c28).2.2.2).1) (by rw [hr63]; exact (long_tn hok_y (hmx.1 c28).2.2.2 (hmx.1 c28).2.2.1).2)); rw [hsp]; exact ⟨hqr65, hR66⟩), (by show va_P _ _ _ t.heap; rw [ht]; exact hP)⟩, hS.F ht⟩) hS.2.2 dX8_reckon_94

set_option maxHeartbeats 8000000 in
set_option maxRecDepth 100000 in
theorem m_reckon_2 (l : Launch) (G : va_G) (cy : Nat → ClassId) (L : List Nat) (F : Nat → va_E) (ad : Nat → Nat) (sz : Nat) (o : Nat) (qa : Nat → Nat → Nat) (Mm : SM) (Dd : SD) (Sl : SL) (Pp : SP) (Kr : SR) (Bk : SB) (Xx : SX) (hR : Rep cy L o qa Mm Dd Sl Pp Kr Bk Xx F) (x y into : Int32)  : Met l yX8_reckon wsX8_reckon ({ frames := 5, cells := 0, slots := 0, locals := 133 }) (va_Pc [.ref o, .int 2, .int x, .int y, .int into] (fun U => bQE G cy L F ad sz U U.heap)) (va_Qi (fun (r : Int32) (F' : Nat → va_E) => r = (sp_reckon Mm Xx 2 x y into).1 ∧ Rep cy L o qa (sp_reckon Mm Xx 2 x y into).2.1 Dd Sl Pp Kr Bk (sp_reckon Mm Xx 2 x y into).2.2 F') (fun F' t => va_P G vwCl (va_pl L F') t.heap) (va_A (va_pl L F) sz)) 0 0 (va_A (va_pl L F) sz) := by
  refine Met.ofW (cc := cX8_reckon) (maxL := 11) (ret := (some .int)) (by decide) rfl ?_
  intro p e s m args below meth c s₁ B hml hv
  obtain ⟨rfl, ⟨hsz, hP, hK, hD0⟩, hE, hN⟩ := hv
  have hx := B.exec
  have hb := B.bytes
  have hr := B.returns
  have hts := atoms_spec (ws := wsX8_reckon) B.pre
  have hown : s.vm.findClass RX8 = some m.cls := findClass_of_methodNamed B.named
  have hlocks := B.notSynchronized
  have hinX8 : ∀ w ∈ wsX80, w ∈ wsX8_reckon := by decide +kernel
  have hinX4 : ∀ w ∈ wsX40, w ∈ wsX8_reckon := by decide +kernel
  subst hsz
  have hD := hD0.self F s.heap.size
  generalize hAe : va_A (va_pl L F) s.heap.size = A at hD hE ⊢
  have hA : ∀ q : Nat, s.heap.size ≤ q → A q := fun q h => by rw [← hAe]; exact Or.inr h
  have hS : va_S A s.heap s.heap [] := va_S.rf
  obtain ⟨⟨⟨hmo, hFo⟩, ⟨hmf, hFf⟩, hms, hFs⟩, ⟨⟨hm0, hF0⟩, ⟨hm1, hF1⟩, ⟨hm2, hF2⟩, ⟨hm4, hF4⟩, hm5, hF5⟩, hRM, hRD, hRG, hRP, hRR, hRB, hRI⟩ := id hR
  have hl := lv_entry ([.ref o, .int 2, .int x, .int y, .int into]) (n := 11) (Nat.le_of_ble_eq_true rfl)
  rw [lg_entry_eq]
  generalize (lg_sl ([.ref o, .int 2, .int x, .int y, .int into]) ++ List.replicate (11 - (lg_sl ([.ref o, .int 2, .int x, .int y, .int into])).length) Slot.unset).toArray = ls at hl ⊢
  have hl : lv_has ls 11 [(0, .ref o), (1, .int 2), (2, .int x), (3, .int y), (4, .int into)] := hl
  rcases ixc 10 x with hi_x | ⟨j_x, hj_x, hi_x, ei_x⟩
  · rcases ixc 10 y with hi_y | ⟨j_y, hj_y, hi_y, ei_y⟩
    · rcases ixc 10 into with hi_into | ⟨j_into, hj_into, hi_into, ei_into⟩
      · refine lv_aload_n hx hb dX8_reckon_0 rfl (lv_at hl 0 rfl) ?_
        refine lv_iload_n hx hb dX8_reckon_1 rfl (lv_at hl 2 rfl) ?_
        refine va_csq (W.runV (As := [.int x]) (rest := []) ⟨hx, hb, hml, hown, hts⟩ (c_meterOf_no l G cy L F o qa Mm Dd Sl Pp Kr Bk Xx hR x hi_x) (cwV 1 hts gX8_reckon_X8_meterOf rfl rfl rfl (by decide +kernel) ⟨Nat.le_of_ble_eq_true rfl, Nat.le_of_ble_eq_true rfl⟩) (preV_of okP (⟨hP, hK, hD.top⟩) (pl_recv hK hP (ci := 7) rfl hmo hFo)) rfl rfl hl.1 rfl (lv_room (Nat.le_of_ble_eq_true rfl)) dX8_reckon_2 ⟨Nat.le_of_ble_eq_true rfl, Nat.le_of_ble_eq_true rfl⟩) (fun r1 hr1 => ?_)
        subst hr1
        refine W.eq (g2 := F0 m 5 ls [.null]) rfl ?_
        refine lv_astoreN (lv' := [(5, .null), (0, .ref o), (1, .int 2), (2, .int x), (3, .int y), (4, .int into)]) hx hb dX8_reckon_5 hl (by decide) rfl (fun ls hl => ?_)
        refine lv_aload_n hx hb dX8_reckon_7 rfl (lv_at hl 1 rfl) ?_
        refine lv_iload_n hx hb dX8_reckon_8 rfl (lv_at hl 4 rfl) ?_
        refine va_csq (W.runV (As := [.int y]) (rest := []) ⟨hx, hb, hml, hown, hts⟩ (c_meterOf_no l G cy L F o qa Mm Dd Sl Pp Kr Bk Xx hR y hi_y) (cwV 1 hts gX8_reckon_X8_meterOf rfl rfl rfl (by decide +kernel) ⟨Nat.le_of_ble_eq_true rfl, Nat.le_of_ble_eq_true rfl⟩) (preV_of okP (⟨hP, hK, hD.top⟩) (pl_recv hK hP (ci := 7) rfl hmo hFo)) rfl rfl hl.1 rfl (lv_room (Nat.le_of_ble_eq_true rfl)) dX8_reckon_9 ⟨Nat.le_of_ble_eq_true rfl, Nat.le_of_ble_eq_true rfl⟩) (fun r2 hr2 => ?_)
        subst hr2
        refine W.eq (g2 := F0 m 12 ls [.null]) rfl ?_
        refine lv_astoreN (lv' := [(6, .null), (5, .null), (0, .ref o), (1, .int 2), (2, .int x), (3, .int y), (4, .int into)]) hx hb dX8_reckon_12 hl (by decide) rfl (fun ls hl => ?_)
        refine lv_aload_n hx hb dX8_reckon_14 rfl (lv_at hl 2 rfl) ?_
        refine lv_iload hx hb dX8_reckon_15 (lv_at hl 6 rfl) ?_
        refine va_csq (W.runV (As := [.int into]) (rest := []) ⟨hx, hb, hml, hown, hts⟩ (c_meterOf_no l G cy L F o qa Mm Dd Sl Pp Kr Bk Xx hR into hi_into) (cwV 1 hts gX8_reckon_X8_meterOf rfl rfl rfl (by decide +kernel) ⟨Nat.le_of_ble_eq_true rfl, Nat.le_of_ble_eq_true rfl⟩) (preV_of okP (⟨hP, hK, hD.top⟩) (pl_recv hK hP (ci := 7) rfl hmo hFo)) rfl rfl hl.1 rfl (lv_room (Nat.le_of_ble_eq_true rfl)) dX8_reckon_17 ⟨Nat.le_of_ble_eq_true rfl, Nat.le_of_ble_eq_true rfl⟩) (fun r3 hr3 => ?_)
        subst hr3
        refine W.eq (g2 := F0 m 20 ls [.null]) rfl ?_
        refine lv_astoreN (lv' := [(7, .null), (6, .null), (5, .null), (0, .ref o), (1, .int 2), (2, .int x), (3, .int y), (4, .int into)]) hx hb dX8_reckon_20 hl (by decide) rfl (fun ls hl => ?_)
        refine lv_aloadN hx hb dX8_reckon_22 (lv_at hl 2 rfl) ?_
        refine lv_ifnullN (tgt := 37) hx hb dX8_reckon_24 (by decide) ?_
        refine lv_sipush (v := -1001) hx hb dX8_reckon_37 (by decide) ?_
        exact W.iret (v := -1001) hx hb hr (fun t ht hW => ⟨⟨-1001, F, rfl, (by have hsp : sp_reckon Mm Xx 2 x y into = (-1001, Mm, Xx) := (by unfold sp_reckon; rw [hi_x]); rw [hsp]; exact ⟨rfl, hR⟩), (by show va_P _ _ _ t.heap; rw [ht]; exact hP)⟩, hS.F ht⟩) hS.2.2 dX8_reckon_40
      · subst ei_into
        obtain ⟨hmm_into, nm_into, rl_into, hFm_into, hok_into⟩ := hRM j_into hj_into
        refine lv_aload_n hx hb dX8_reckon_0 rfl (lv_at hl 0 rfl) ?_
        refine lv_iload_n hx hb dX8_reckon_1 rfl (lv_at hl 2 rfl) ?_
        refine va_csq (W.runV (As := [.int x]) (rest := []) ⟨hx, hb, hml, hown, hts⟩ (c_meterOf_no l G cy L F o qa Mm Dd Sl Pp Kr Bk Xx hR x hi_x) (cwV 1 hts gX8_reckon_X8_meterOf rfl rfl rfl (by decide +kernel) ⟨Nat.le_of_ble_eq_true rfl, Nat.le_of_ble_eq_true rfl⟩) (preV_of okP (⟨hP, hK, hD.top⟩) (pl_recv hK hP (ci := 7) rfl hmo hFo)) rfl rfl hl.1 rfl (lv_room (Nat.le_of_ble_eq_true rfl)) dX8_reckon_2 ⟨Nat.le_of_ble_eq_true rfl, Nat.le_of_ble_eq_true rfl⟩) (fun r4 hr4 => ?_)
        subst hr4
        refine W.eq (g2 := F0 m 5 ls [.null]) rfl ?_
        refine lv_astoreN (lv' := [(5, .null), (0, .ref o), (1, .int 2), (2, .int x), (3, .int y), (4, .int (nI j_into))]) hx hb dX8_reckon_5 hl (by decide) rfl (fun ls hl => ?_)
        refine lv_aload_n hx hb dX8_reckon_7 rfl (lv_at hl 1 rfl) ?_
        refine lv_iload_n hx hb dX8_reckon_8 rfl (lv_at hl 4 rfl) ?_
        refine va_csq (W.runV (As := [.int y]) (rest := []) ⟨hx, hb, hml, hown, hts⟩ (c_meterOf_no l G cy L F o qa Mm Dd Sl Pp Kr Bk Xx hR y hi_y) (cwV 1 hts gX8_reckon_X8_meterOf rfl rfl rfl (by decide +kernel) ⟨Nat.le_of_ble_eq_true rfl, Nat.le_of_ble_eq_true rfl⟩) (preV_of okP (⟨hP, hK, hD.top⟩) (pl_recv hK hP (ci := 7) rfl hmo hFo)) rfl rfl hl.1 rfl (lv_room (Nat.le_of_ble_eq_true rfl)) dX8_reckon_9 ⟨Nat.le_of_ble_eq_true rfl, Nat.le_of_ble_eq_true rfl⟩) (fun r5 hr5 => ?_)
        subst hr5
        refine W.eq (g2 := F0 m 12 ls [.null]) rfl ?_
        refine lv_astoreN (lv' := [(6, .null), (5, .null), (0, .ref o), (1, .int 2), (2, .int x), (3, .int y), (4, .int (nI j_into))]) hx hb dX8_reckon_12 hl (by decide) rfl (fun ls hl => ?_)
        refine lv_aload_n hx hb dX8_reckon_14 rfl (lv_at hl 2 rfl) ?_
        refine lv_iload hx hb dX8_reckon_15 (lv_at hl 6 rfl) ?_
        refine va_csq (W.runV (As := [.int (nI j_into)]) (rest := []) ⟨hx, hb, hml, hown, hts⟩ (c_meterOf l G cy L F o qa Mm Dd Sl Pp Kr Bk Xx hR j_into hj_into) (cwV 1 hts gX8_reckon_X8_meterOf rfl rfl rfl (by decide +kernel) ⟨Nat.le_of_ble_eq_true rfl, Nat.le_of_ble_eq_true rfl⟩) (preV_of okP (⟨hP, hK, hD.top⟩) (pl_recv hK hP (ci := 7) rfl hmo hFo)) rfl rfl hl.1 rfl (lv_room (Nat.le_of_ble_eq_true rfl)) dX8_reckon_17 ⟨Nat.le_of_ble_eq_true rfl, Nat.le_of_ble_eq_true rfl⟩) (fun r6 hr6 => ?_)
        subst hr6
        refine W.eq (g2 := F0 m 20 ls [.ref (qa 0 j_into)]) rfl ?_
        refine lv_astore (lv' := [(7, .ref (qa 0 j_into)), (6, .null), (5, .null), (0, .ref o), (1, .int 2), (2, .int x), (3, .int y), (4, .int (nI j_into))]) hx hb dX8_reckon_20 hl (by decide) rfl (fun ls hl => ?_)
        refine lv_aloadN hx hb dX8_reckon_22 (lv_at hl 2 rfl) ?_
        refine lv_ifnullN (tgt := 37) hx hb dX8_reckon_24 (by decide) ?_
        refine lv_sipush (v := -1001) hx hb dX8_reckon_37 (by decide) ?_
        exact W.iret (v := -1001) hx hb hr (fun t ht hW => ⟨⟨-1001, F, rfl, (by have hsp : sp_reckon Mm Xx 2 x y (nI j_into) = (-1001, Mm, Xx) := (by unfold sp_reckon; rw [hi_x]); rw [hsp]; exact ⟨rfl, hR⟩), (by show va_P _ _ _ t.heap; rw [ht]; exact hP)⟩, hS.F ht⟩) hS.2.2 dX8_reckon_40
    · subst ei_y
      obtain ⟨hmm_y, nm_y, rl_y, hFm_y, hok_y⟩ := hRM j_y hj_y
      rcases ixc 10 into with hi_into | ⟨j_into, hj_into, hi_into, ei_into⟩
      · refine lv_aload_n hx hb dX8_reckon_0 rfl (lv_at hl 0 rfl) ?_
        refine lv_iload_n hx hb dX8_reckon_1 rfl (lv_at hl 2 rfl) ?_
        refine va_csq (W.runV (As := [.int x]) (rest := []) ⟨hx, hb, hml, hown, hts⟩ (c_meterOf_no l G cy L F o qa Mm Dd Sl Pp Kr Bk Xx hR x hi_x) (cwV 1 hts gX8_reckon_X8_meterOf rfl rfl rfl (by decide +kernel) ⟨Nat.le_of_ble_eq_true rfl, Nat.le_of_ble_eq_true rfl⟩) (preV_of okP (⟨hP, hK, hD.top⟩) (pl_recv hK hP (ci := 7) rfl hmo hFo)) rfl rfl hl.1 rfl (lv_room (Nat.le_of_ble_eq_true rfl)) dX8_reckon_2 ⟨Nat.le_of_ble_eq_true rfl, Nat.le_of_ble_eq_true rfl⟩) (fun r7 hr7 => ?_)
        subst hr7
        refine W.eq (g2 := F0 m 5 ls [.null]) rfl ?_
        refine lv_astoreN (lv' := [(5, .null), (0, .ref o), (1, .int 2), (2, .int x), (3, .int (nI j_y)), (4, .int into)]) hx hb dX8_reckon_5 hl (by decide) rfl (fun ls hl => ?_)
        refine lv_aload_n hx hb dX8_reckon_7 rfl (lv_at hl 1 rfl) ?_
        refine lv_iload_n hx hb dX8_reckon_8 rfl (lv_at hl 4 rfl) ?_
        refine va_csq (W.runV (As := [.int (nI j_y)]) (rest := []) ⟨hx, hb, hml, hown, hts⟩ (c_meterOf l G cy L F o qa Mm Dd Sl Pp Kr Bk Xx hR j_y hj_y) (cwV 1 hts gX8_reckon_X8_meterOf rfl rfl rfl (by decide +kernel) ⟨Nat.le_of_ble_eq_true rfl, Nat.le_of_ble_eq_true rfl⟩) (preV_of okP (⟨hP, hK, hD.top⟩) (pl_recv hK hP (ci := 7) rfl hmo hFo)) rfl rfl hl.1 rfl (lv_room (Nat.le_of_ble_eq_true rfl)) dX8_reckon_9 ⟨Nat.le_of_ble_eq_true rfl, Nat.le_of_ble_eq_true rfl⟩) (fun r8 hr8 => ?_)
        subst hr8
        refine W.eq (g2 := F0 m 12 ls [.ref (qa 0 j_y)]) rfl ?_
        refine lv_astore (lv' := [(6, .ref (qa 0 j_y)), (5, .null), (0, .ref o), (1, .int 2), (2, .int x), (3, .int (nI j_y)), (4, .int into)]) hx hb dX8_reckon_12 hl (by decide) rfl (fun ls hl => ?_)
        refine lv_aload_n hx hb dX8_reckon_14 rfl (lv_at hl 2 rfl) ?_
        refine lv_iload hx hb dX8_reckon_15 (lv_at hl 6 rfl) ?_
        refine va_csq (W.runV (As := [.int into]) (rest := []) ⟨hx, hb, hml, hown, hts⟩ (c_meterOf_no l G cy L F o qa Mm Dd Sl Pp Kr Bk Xx hR into hi_into) (cwV 1 hts gX8_reckon_X8_meterOf rfl rfl rfl (by decide +kernel) ⟨Nat.le_of_ble_eq_true rfl, Nat.le_of_ble_eq_true rfl⟩) (preV_of okP (⟨hP, hK, hD.top⟩) (pl_recv hK hP (ci := 7) rfl hmo hFo)) rfl rfl hl.1 rfl (lv_room (Nat.le_of_ble_eq_true rfl)) dX8_reckon_17 ⟨Nat.le_of_ble_eq_true rfl, Nat.le_of_ble_eq_true rfl⟩) (fun r9 hr9 => ?_)
        subst hr9
        refine W.eq (g2 := F0 m 20 ls [.null]) rfl ?_
        refine lv_astoreN (lv' := [(7, .null), (6, .ref (qa 0 j_y)), (5, .null), (0, .ref o), (1, .int 2), (2, .int x), (3, .int (nI j_y)), (4, .int into)]) hx hb dX8_reckon_20 hl (by decide) rfl (fun ls hl => ?_)
        refine lv_aloadN hx hb dX8_reckon_22 (lv_at hl 2 rfl) ?_
        refine lv_ifnullN (tgt := 37) hx hb dX8_reckon_24 (by decide) ?_
        refine lv_sipush (v := -1001) hx hb dX8_reckon_37 (by decide) ?_
        exact W.iret (v := -1001) hx hb hr (fun t ht hW => ⟨⟨-1001, F, rfl, (by have hsp : sp_reckon Mm Xx 2 x (nI j_y) into = (-1001, Mm, Xx) := (by unfold sp_reckon; rw [hi_x]); rw [hsp]; exact ⟨rfl, hR⟩), (by show va_P _ _ _ t.heap; rw [ht]; exact hP)⟩, hS.F ht⟩) hS.2.2 dX8_reckon_40
      · subst ei_into
        obtain ⟨hmm_into, nm_into, rl_into, hFm_into, hok_into⟩ := hRM j_into hj_into
        refine lv_aload_n hx hb dX8_reckon_0 rfl (lv_at hl 0 rfl) ?_
        refine lv_iload_n hx hb dX8_reckon_1 rfl (lv_at hl 2 rfl) ?_
        refine va_csq (W.runV (As := [.int x]) (rest := []) ⟨hx, hb, hml, hown, hts⟩ (c_meterOf_no l G cy L F o qa Mm Dd Sl Pp Kr Bk Xx hR x hi_x) (cwV 1 hts gX8_reckon_X8_meterOf rfl rfl rfl (by decide +kernel) ⟨Nat.le_of_ble_eq_true rfl, Nat.le_of_ble_eq_true rfl⟩) (preV_of okP (⟨hP, hK, hD.top⟩) (pl_recv hK hP (ci := 7) rfl hmo hFo)) rfl rfl hl.1 rfl (lv_room (Nat.le_of_ble_eq_true rfl)) dX8_reckon_2 ⟨Nat.le_of_ble_eq_true rfl, Nat.le_of_ble_eq_true rfl⟩) (fun r10 hr10 => ?_)
        subst hr10
        refine W.eq (g2 := F0 m 5 ls [.null]) rfl ?_
        refine lv_astoreN (lv' := [(5, .null), (0, .ref o), (1, .int 2), (2, .int x), (3, .int (nI j_y)), (4, .int (nI j_into))]) hx hb dX8_reckon_5 hl (by decide) rfl (fun ls hl => ?_)
        refine lv_aload_n hx hb dX8_reckon_7 rfl (lv_at hl 1 rfl) ?_
        refine lv_iload_n hx hb dX8_reckon_8 rfl (lv_at hl 4 rfl) ?_
        refine va_csq (W.runV (As := [.int (nI j_y)]) (rest := []) ⟨hx, hb, hml, hown, hts⟩ (c_meterOf l G cy L F o qa Mm Dd Sl Pp Kr Bk Xx hR j_y hj_y) (cwV 1 hts gX8_reckon_X8_meterOf rfl rfl rfl (by decide +kernel) ⟨Nat.le_of_ble_eq_true rfl, Nat.le_of_ble_eq_true rfl⟩) (preV_of okP (⟨hP, hK, hD.top⟩) (pl_recv hK hP (ci := 7) rfl hmo hFo)) rfl rfl hl.1 rfl (lv_room (Nat.le_of_ble_eq_true rfl)) dX8_reckon_9 ⟨Nat.le_of_ble_eq_true rfl, Nat.le_of_ble_eq_true rfl⟩) (fun r11 hr11 => ?_)
        subst hr11
        refine W.eq (g2 := F0 m 12 ls [.ref (qa 0 j_y)]) rfl ?_
        refine lv_astore (lv' := [(6, .ref (qa 0 j_y)), (5, .null), (0, .ref o), (1, .int 2), (2, .int x), (3, .int (nI j_y)), (4, .int (nI j_into))]) hx hb dX8_reckon_12 hl (by decide) rfl (fun ls hl => ?_)
        refine lv_aload_n hx hb dX8_reckon_14 rfl (lv_at hl 2 rfl) ?_
        refine lv_iload hx hb dX8_reckon_15 (lv_at hl 6 rfl) ?_
        refine va_csq (W.runV (As := [.int (nI j_into)]) (rest := []) ⟨hx, hb, hml, hown, hts⟩ (c_meterOf l G cy L F o qa Mm Dd Sl Pp Kr Bk Xx hR j_into hj_into) (cwV 1 hts gX8_reckon_X8_meterOf rfl rfl rfl (by decide +kernel) ⟨Nat.le_of_ble_eq_true rfl, Nat.le_of_ble_eq_true rfl⟩) (preV_of okP (⟨hP, hK, hD.top⟩) (pl_recv hK hP (ci := 7) rfl hmo hFo)) rfl rfl hl.1 rfl (lv_room (Nat.le_of_ble_eq_true rfl)) dX8_reckon_17 ⟨Nat.le_of_ble_eq_true rfl, Nat.le_of_ble_eq_true rfl⟩) (fun r12 hr12 => ?_)
        subst hr12
        refine W.eq (g2 := F0 m 20 ls [.ref (qa 0 j_into)]) rfl ?_
        refine lv_astore (lv' := [(7, .ref (qa 0 j_into)), (6, .ref (qa 0 j_y)), (5, .null), (0, .ref o), (1, .int 2), (2, .int x), (3, .int (nI j_y)), (4, .int (nI j_into))]) hx hb dX8_reckon_20 hl (by decide) rfl (fun ls hl => ?_)
        refine lv_aloadN hx hb dX8_reckon_22 (lv_at hl 2 rfl) ?_
        refine lv_ifnullN (tgt := 37) hx hb dX8_reckon_24 (by decide) ?_
        refine lv_sipush (v := -1001) hx hb dX8_reckon_37 (by decide) ?_
        exact W.iret (v := -1001) hx hb hr (fun t ht hW => ⟨⟨-1001, F, rfl, (by have hsp : sp_reckon Mm Xx 2 x (nI j_y) (nI j_into) = (-1001, Mm, Xx) := (by unfold sp_reckon; rw [hi_x]); rw [hsp]; exact ⟨rfl, hR⟩), (by show va_P _ _ _ t.heap; rw [ht]; exact hP)⟩, hS.F ht⟩) hS.2.2 dX8_reckon_40
  · subst ei_x
    obtain ⟨hmm_x, nm_x, rl_x, hFm_x, hok_x⟩ := hRM j_x hj_x
    rcases ixc 10 y with hi_y | ⟨j_y, hj_y, hi_y, ei_y⟩
    · rcases ixc 10 into with hi_into | ⟨j_into, hj_into, hi_into, ei_into⟩
      · refine lv_aload_n hx hb dX8_reckon_0 rfl (lv_at hl 0 rfl) ?_
        refine lv_iload_n hx hb dX8_reckon_1 rfl (lv_at hl 2 rfl) ?_
        refine va_csq (W.runV (As := [.int (nI j_x)]) (rest := []) ⟨hx, hb, hml, hown, hts⟩ (c_meterOf l G cy L F o qa Mm Dd Sl Pp Kr Bk Xx hR j_x hj_x) (cwV 1 hts gX8_reckon_X8_meterOf rfl rfl rfl (by decide +kernel) ⟨Nat.le_of_ble_eq_true rfl, Nat.le_of_ble_eq_true rfl⟩) (preV_of okP (⟨hP, hK, hD.top⟩) (pl_recv hK hP (ci := 7) rfl hmo hFo)) rfl rfl hl.1 rfl (lv_room (Nat.le_of_ble_eq_true rfl)) dX8_reckon_2 ⟨Nat.le_of_ble_eq_true rfl, Nat.le_of_ble_eq_true rfl⟩) (fun r13 hr13 => ?_)
        subst hr13
        refine W.eq (g2 := F0 m 5 ls [.ref (qa 0 j_x)]) rfl ?_
        refine lv_astore (lv' := [(5, .ref (qa 0 j_x)), (0, .ref o), (1, .int 2), (2, .int (nI j_x)), (3, .int y), (4, .int into)]) hx hb dX8_reckon_5 hl (by decide) rfl (fun ls hl => ?_)
        refine lv_aload_n hx hb dX8_reckon_7 rfl (lv_at hl 1 rfl) ?_
        refine lv_iload_n hx hb dX8_reckon_8 rfl (lv_at hl 4 rfl) ?_
        refine va_csq (W.runV (As := [.int y]) (rest := []) ⟨hx, hb, hml, hown, hts⟩ (c_meterOf_no l G cy L F o qa Mm Dd Sl Pp Kr Bk Xx hR y hi_y) (cwV 1 hts gX8_reckon_X8_meterOf rfl rfl rfl (by decide +kernel) ⟨Nat.le_of_ble_eq_true rfl, Nat.le_of_ble_eq_true rfl⟩) (preV_of okP (⟨hP, hK, hD.top⟩) (pl_recv hK hP (ci := 7) rfl hmo hFo)) rfl rfl hl.1 rfl (lv_room (Nat.le_of_ble_eq_true rfl)) dX8_reckon_9 ⟨Nat.le_of_ble_eq_true rfl, Nat.le_of_ble_eq_true rfl⟩) (fun r14 hr14 => ?_)
        subst hr14
        refine W.eq (g2 := F0 m 12 ls [.null]) rfl ?_
        refine lv_astoreN (lv' := [(6, .null), (5, .ref (qa 0 j_x)), (0, .ref o), (1, .int 2), (2, .int (nI j_x)), (3, .int y), (4, .int into)]) hx hb dX8_reckon_12 hl (by decide) rfl (fun ls hl => ?_)
        refine lv_aload_n hx hb dX8_reckon_14 rfl (lv_at hl 2 rfl) ?_
        refine lv_iload hx hb dX8_reckon_15 (lv_at hl 6 rfl) ?_
        refine va_csq (W.runV (As := [.int into]) (rest := []) ⟨hx, hb, hml, hown, hts⟩ (c_meterOf_no l G cy L F o qa Mm Dd Sl Pp Kr Bk Xx hR into hi_into) (cwV 1 hts gX8_reckon_X8_meterOf rfl rfl rfl (by decide +kernel) ⟨Nat.le_of_ble_eq_true rfl, Nat.le_of_ble_eq_true rfl⟩) (preV_of okP (⟨hP, hK, hD.top⟩) (pl_recv hK hP (ci := 7) rfl hmo hFo)) rfl rfl hl.1 rfl (lv_room (Nat.le_of_ble_eq_true rfl)) dX8_reckon_17 ⟨Nat.le_of_ble_eq_true rfl, Nat.le_of_ble_eq_true rfl⟩) (fun r15 hr15 => ?_)
        subst hr15
        refine W.eq (g2 := F0 m 20 ls [.null]) rfl ?_
        refine lv_astoreN (lv' := [(7, .null), (6, .null), (5, .ref (qa 0 j_x)), (0, .ref o), (1, .int 2), (2, .int (nI j_x)), (3, .int y), (4, .int into)]) hx hb dX8_reckon_20 hl (by decide) rfl (fun ls hl => ?_)
        refine lv_aload hx hb dX8_reckon_22 (lv_at hl 2 rfl) ?_
        refine lv_ifnull hx hb dX8_reckon_24 ?_
        refine lv_aloadN hx hb dX8_reckon_27 (lv_at hl 1 rfl) ?_
        refine lv_ifnullN (tgt := 37) hx hb dX8_reckon_29 (by decide) ?_
        refine lv_sipush (v := -1001) hx hb dX8_reckon_37 (by decide) ?_
        exact W.iret (v := -1001) hx hb hr (fun t ht hW => ⟨⟨-1001, F, rfl, (by have hsp : sp_reckon Mm Xx 2 (nI j_x) y into = (-1001, Mm, Xx) := (by unfold sp_reckon; rw [hi_x, hi_y]); rw [hsp]; exact ⟨rfl, hR⟩), (by show va_P _ _ _ t.heap; rw [ht]; exact hP)⟩, hS.F ht⟩) hS.2.2 dX8_reckon_40
      · subst ei_into
        obtain ⟨hmm_into, nm_into, rl_into, hFm_into, hok_into⟩ := hRM j_into hj_into
        refine lv_aload_n hx hb dX8_reckon_0 rfl (lv_at hl 0 rfl) ?_
        refine lv_iload_n hx hb dX8_reckon_1 rfl (lv_at hl 2 rfl) ?_
        refine va_csq (W.runV (As := [.int (nI j_x)]) (rest := []) ⟨hx, hb, hml, hown, hts⟩ (c_meterOf l G cy L F o qa Mm Dd Sl Pp Kr Bk Xx hR j_x hj_x) (cwV 1 hts gX8_reckon_X8_meterOf rfl rfl rfl (by decide +kernel) ⟨Nat.le_of_ble_eq_true rfl, Nat.le_of_ble_eq_true rfl⟩) (preV_of okP (⟨hP, hK, hD.top⟩) (pl_recv hK hP (ci := 7) rfl hmo hFo)) rfl rfl hl.1 rfl (lv_room (Nat.le_of_ble_eq_true rfl)) dX8_reckon_2 ⟨Nat.le_of_ble_eq_true rfl, Nat.le_of_ble_eq_true rfl⟩) (fun r16 hr16 => ?_)
        subst hr16
        refine W.eq (g2 := F0 m 5 ls [.ref (qa 0 j_x)]) rfl ?_
        refine lv_astore (lv' := [(5, .ref (qa 0 j_x)), (0, .ref o), (1, .int 2), (2, .int (nI j_x)), (3, .int y), (4, .int (nI j_into))]) hx hb dX8_reckon_5 hl (by decide) rfl (fun ls hl => ?_)
        refine lv_aload_n hx hb dX8_reckon_7 rfl (lv_at hl 1 rfl) ?_
        refine lv_iload_n hx hb dX8_reckon_8 rfl (lv_at hl 4 rfl) ?_
        refine va_csq (W.runV (As := [.int y]) (rest := []) ⟨hx, hb, hml, hown, hts⟩ (c_meterOf_no l G cy L F o qa Mm Dd Sl Pp Kr Bk Xx hR y hi_y) (cwV 1 hts gX8_reckon_X8_meterOf rfl rfl rfl (by decide +kernel) ⟨Nat.le_of_ble_eq_true rfl, Nat.le_of_ble_eq_true rfl⟩) (preV_of okP (⟨hP, hK, hD.top⟩) (pl_recv hK hP (ci := 7) rfl hmo hFo)) rfl rfl hl.1 rfl (lv_room (Nat.le_of_ble_eq_true rfl)) dX8_reckon_9 ⟨Nat.le_of_ble_eq_true rfl, Nat.le_of_ble_eq_true rfl⟩) (fun r17 hr17 => ?_)
        subst hr17
        refine W.eq (g2 := F0 m 12 ls [.null]) rfl ?_
        refine lv_astoreN (lv' := [(6, .null), (5, .ref (qa 0 j_x)), (0, .ref o), (1, .int 2), (2, .int (nI j_x)), (3, .int y), (4, .int (nI j_into))]) hx hb dX8_reckon_12 hl (by decide) rfl (fun ls hl => ?_)
        refine lv_aload_n hx hb dX8_reckon_14 rfl (lv_at hl 2 rfl) ?_
        refine lv_iload hx hb dX8_reckon_15 (lv_at hl 6 rfl) ?_
        refine va_csq (W.runV (As := [.int (nI j_into)]) (rest := []) ⟨hx, hb, hml, hown, hts⟩ (c_meterOf l G cy L F o qa Mm Dd Sl Pp Kr Bk Xx hR j_into hj_into) (cwV 1 hts gX8_reckon_X8_meterOf rfl rfl rfl (by decide +kernel) ⟨Nat.le_of_ble_eq_true rfl, Nat.le_of_ble_eq_true rfl⟩) (preV_of okP (⟨hP, hK, hD.top⟩) (pl_recv hK hP (ci := 7) rfl hmo hFo)) rfl rfl hl.1 rfl (lv_room (Nat.le_of_ble_eq_true rfl)) dX8_reckon_17 ⟨Nat.le_of_ble_eq_true rfl, Nat.le_of_ble_eq_true rfl⟩) (fun r18 hr18 => ?_)
        subst hr18
        refine W.eq (g2 := F0 m 20 ls [.ref (qa 0 j_into)]) rfl ?_
        refine lv_astore (lv' := [(7, .ref (qa 0 j_into)), (6, .null), (5, .ref (qa 0 j_x)), (0, .ref o), (1, .int 2), (2, .int (nI j_x)), (3, .int y), (4, .int (nI j_into))]) hx hb dX8_reckon_20 hl (by decide) rfl (fun ls hl => ?_)
        refine lv_aload hx hb dX8_reckon_22 (lv_at hl 2 rfl) ?_
        refine lv_ifnull hx hb dX8_reckon_24 ?_
        refine lv_aloadN hx hb dX8_reckon_27 (lv_at hl 1 rfl) ?_
        refine lv_ifnullN (tgt := 37) hx hb dX8_reckon_29 (by decide) ?_
        refine lv_sipush (v := -1001) hx hb dX8_reckon_37 (by decide) ?_
        exact W.iret (v := -1001) hx hb hr (fun t ht hW => ⟨⟨-1001, F, rfl, (by have hsp : sp_reckon Mm Xx 2 (nI j_x) y (nI j_into) = (-1001, Mm, Xx) := (by unfold sp_reckon; rw [hi_x, hi_y]); rw [hsp]; exact ⟨rfl, hR⟩), (by show va_P _ _ _ t.heap; rw [ht]; exact hP)⟩, hS.F ht⟩) hS.2.2 dX8_reckon_40
    · subst ei_y
      obtain ⟨hmm_y, nm_y, rl_y, hFm_y, hok_y⟩ := hRM j_y hj_y
      rcases ixc 10 into with hi_into | ⟨j_into, hj_into, hi_into, ei_into⟩
      · refine lv_aload_n hx hb dX8_reckon_0 rfl (lv_at hl 0 rfl) ?_
        refine lv_iload_n hx hb dX8_reckon_1 rfl (lv_at hl 2 rfl) ?_
        refine va_csq (W.runV (As := [.int (nI j_x)]) (rest := []) ⟨hx, hb, hml, hown, hts⟩ (c_meterOf l G cy L F o qa Mm Dd Sl Pp Kr Bk Xx hR j_x hj_x) (cwV 1 hts gX8_reckon_X8_meterOf rfl rfl rfl (by decide +kernel) ⟨Nat.le_of_ble_eq_true rfl, Nat.le_of_ble_eq_true rfl⟩) (preV_of okP (⟨hP, hK, hD.top⟩) (pl_recv hK hP (ci := 7) rfl hmo hFo)) rfl rfl hl.1 rfl (lv_room (Nat.le_of_ble_eq_true rfl)) dX8_reckon_2 ⟨Nat.le_of_ble_eq_true rfl, Nat.le_of_ble_eq_true rfl⟩) (fun r19 hr19 => ?_)
        subst hr19
        refine W.eq (g2 := F0 m 5 ls [.ref (qa 0 j_x)]) rfl ?_
        refine lv_astore (lv' := [(5, .ref (qa 0 j_x)), (0, .ref o), (1, .int 2), (2, .int (nI j_x)), (3, .int (nI j_y)), (4, .int into)]) hx hb dX8_reckon_5 hl (by decide) rfl (fun ls hl => ?_)
        refine lv_aload_n hx hb dX8_reckon_7 rfl (lv_at hl 1 rfl) ?_
        refine lv_iload_n hx hb dX8_reckon_8 rfl (lv_at hl 4 rfl) ?_
        refine va_csq (W.runV (As := [.int (nI j_y)]) (rest := []) ⟨hx, hb, hml, hown, hts⟩ (c_meterOf l G cy L F o qa Mm Dd Sl Pp Kr Bk Xx hR j_y hj_y) (cwV 1 hts gX8_reckon_X8_meterOf rfl rfl rfl (by decide +kernel) ⟨Nat.le_of_ble_eq_true rfl, Nat.le_of_ble_eq_true rfl⟩) (preV_of okP (⟨hP, hK, hD.top⟩) (pl_recv hK hP (ci := 7) rfl hmo hFo)) rfl rfl hl.1 rfl (lv_room (Nat.le_of_ble_eq_true rfl)) dX8_reckon_9 ⟨Nat.le_of_ble_eq_true rfl, Nat.le_of_ble_eq_true rfl⟩) (fun r20 hr20 => ?_)
        subst hr20
        refine W.eq (g2 := F0 m 12 ls [.ref (qa 0 j_y)]) rfl ?_
        refine lv_astore (lv' := [(6, .ref (qa 0 j_y)), (5, .ref (qa 0 j_x)), (0, .ref o), (1, .int 2), (2, .int (nI j_x)), (3, .int (nI j_y)), (4, .int into)]) hx hb dX8_reckon_12 hl (by decide) rfl (fun ls hl => ?_)
        refine lv_aload_n hx hb dX8_reckon_14 rfl (lv_at hl 2 rfl) ?_
        refine lv_iload hx hb dX8_reckon_15 (lv_at hl 6 rfl) ?_
        refine va_csq (W.runV (As := [.int into]) (rest := []) ⟨hx, hb, hml, hown, hts⟩ (c_meterOf_no l G cy L F o qa Mm Dd Sl Pp Kr Bk Xx hR into hi_into) (cwV 1 hts gX8_reckon_X8_meterOf rfl rfl rfl (by decide +kernel) ⟨Nat.le_of_ble_eq_true rfl, Nat.le_of_ble_eq_true rfl⟩) (preV_of okP (⟨hP, hK, hD.top⟩) (pl_recv hK hP (ci := 7) rfl hmo hFo)) rfl rfl hl.1 rfl (lv_room (Nat.le_of_ble_eq_true rfl)) dX8_reckon_17 ⟨Nat.le_of_ble_eq_true rfl, Nat.le_of_ble_eq_true rfl⟩) (fun r21 hr21 => ?_)
        subst hr21
        refine W.eq (g2 := F0 m 20 ls [.null]) rfl ?_
        refine lv_astoreN (lv' := [(7, .null), (6, .ref (qa 0 j_y)), (5, .ref (qa 0 j_x)), (0, .ref o), (1, .int 2), (2, .int (nI j_x)), (3, .int (nI j_y)), (4, .int into)]) hx hb dX8_reckon_20 hl (by decide) rfl (fun ls hl => ?_)
        refine lv_aload hx hb dX8_reckon_22 (lv_at hl 2 rfl) ?_
        refine lv_ifnull hx hb dX8_reckon_24 ?_
        refine lv_aload hx hb dX8_reckon_27 (lv_at hl 1 rfl) ?_
        refine lv_ifnull hx hb dX8_reckon_29 ?_
        refine lv_aloadN hx hb dX8_reckon_32 (lv_at hl 0 rfl) ?_
        refine lv_ifnonnullN hx hb dX8_reckon_34 ?_
        refine lv_sipush (v := -1001) hx hb dX8_reckon_37 (by decide) ?_
        exact W.iret (v := -1001) hx hb hr (fun t ht hW => ⟨⟨-1001, F, rfl, (by have hsp : sp_reckon Mm Xx 2 (nI j_x) (nI j_y) into = (-1001, Mm, Xx) := (by unfold sp_reckon; rw [hi_x, hi_y, hi_into]); rw [hsp]; exact ⟨rfl, hR⟩), (by show va_P _ _ _ t.heap; rw [ht]; exact hP)⟩, hS.F ht⟩) hS.2.2 dX8_reckon_40
      · subst ei_into
        obtain ⟨hmm_into, nm_into, rl_into, hFm_into, hok_into⟩ := hRM j_into hj_into
        refine lv_aload_n hx hb dX8_reckon_0 rfl (lv_at hl 0 rfl) ?_
        refine lv_iload_n hx hb dX8_reckon_1 rfl (lv_at hl 2 rfl) ?_
        refine va_csq (W.runV (As := [.int (nI j_x)]) (rest := []) ⟨hx, hb, hml, hown, hts⟩ (c_meterOf l G cy L F o qa Mm Dd Sl Pp Kr Bk Xx hR j_x hj_x) (cwV 1 hts gX8_reckon_X8_meterOf rfl rfl rfl (by decide +kernel) ⟨Nat.le_of_ble_eq_true rfl, Nat.le_of_ble_eq_true rfl⟩) (preV_of okP (⟨hP, hK, hD.top⟩) (pl_recv hK hP (ci := 7) rfl hmo hFo)) rfl rfl hl.1 rfl (lv_room (Nat.le_of_ble_eq_true rfl)) dX8_reckon_2 ⟨Nat.le_of_ble_eq_true rfl, Nat.le_of_ble_eq_true rfl⟩) (fun r22 hr22 => ?_)
        subst hr22
        refine W.eq (g2 := F0 m 5 ls [.ref (qa 0 j_x)]) rfl ?_
        refine lv_astore (lv' := [(5, .ref (qa 0 j_x)), (0, .ref o), (1, .int 2), (2, .int (nI j_x)), (3, .int (nI j_y)), (4, .int (nI j_into))]) hx hb dX8_reckon_5 hl (by decide) rfl (fun ls hl => ?_)
        refine lv_aload_n hx hb dX8_reckon_7 rfl (lv_at hl 1 rfl) ?_
        refine lv_iload_n hx hb dX8_reckon_8 rfl (lv_at hl 4 rfl) ?_
        refine va_csq (W.runV (As := [.int (nI j_y)]) (rest := []) ⟨hx, hb, hml, hown, hts⟩ (c_meterOf l G cy L F o qa Mm Dd Sl Pp Kr Bk Xx hR j_y hj_y) (cwV 1 hts gX8_reckon_X8_meterOf rfl rfl rfl (by decide +kernel) ⟨Nat.le_of_ble_eq_true rfl, Nat.le_of_ble_eq_true rfl⟩) (preV_of okP (⟨hP, hK, hD.top⟩) (pl_recv hK hP (ci := 7) rfl hmo hFo)) rfl rfl hl.1 rfl (lv_room (Nat.le_of_ble_eq_true rfl)) dX8_reckon_9 ⟨Nat.le_of_ble_eq_true rfl, Nat.le_of_ble_eq_true rfl⟩) (fun r23 hr23 => ?_)
        subst hr23
        refine W.eq (g2 := F0 m 12 ls [.ref (qa 0 j_y)]) rfl ?_
        refine lv_astore (lv' := [(6, .ref (qa 0 j_y)), (5, .ref (qa 0 j_x)), (0, .ref o), (1, .int 2), (2, .int (nI j_x)), (3, .int (nI j_y)), (4, .int (nI j_into))]) hx hb dX8_reckon_12 hl (by decide) rfl (fun ls hl => ?_)
        refine lv_aload_n hx hb dX8_reckon_14 rfl (lv_at hl 2 rfl) ?_
        refine lv_iload hx hb dX8_reckon_15 (lv_at hl 6 rfl) ?_
        refine va_csq (W.runV (As := [.int (nI j_into)]) (rest := []) ⟨hx, hb, hml, hown, hts⟩ (c_meterOf l G cy L F o qa Mm Dd Sl Pp Kr Bk Xx hR j_into hj_into) (cwV 1 hts gX8_reckon_X8_meterOf rfl rfl rfl (by decide +kernel) ⟨Nat.le_of_ble_eq_true rfl, Nat.le_of_ble_eq_true rfl⟩) (preV_of okP (⟨hP, hK, hD.top⟩) (pl_recv hK hP (ci := 7) rfl hmo hFo)) rfl rfl hl.1 rfl (lv_room (Nat.le_of_ble_eq_true rfl)) dX8_reckon_17 ⟨Nat.le_of_ble_eq_true rfl, Nat.le_of_ble_eq_true rfl⟩) (fun r24 hr24 => ?_)
        subst hr24
        refine W.eq (g2 := F0 m 20 ls [.ref (qa 0 j_into)]) rfl ?_
        refine lv_astore (lv' := [(7, .ref (qa 0 j_into)), (6, .ref (qa 0 j_y)), (5, .ref (qa 0 j_x)), (0, .ref o), (1, .int 2), (2, .int (nI j_x)), (3, .int (nI j_y)), (4, .int (nI j_into))]) hx hb dX8_reckon_20 hl (by decide) rfl (fun ls hl => ?_)
        refine lv_aload hx hb dX8_reckon_22 (lv_at hl 2 rfl) ?_
        refine lv_ifnull hx hb dX8_reckon_24 ?_
        refine lv_aload hx hb dX8_reckon_27 (lv_at hl 1 rfl) ?_
        refine lv_ifnull hx hb dX8_reckon_29 ?_
        refine lv_aload hx hb dX8_reckon_32 (lv_at hl 0 rfl) ?_
        refine lv_ifnonnull (tgt := 41) hx hb dX8_reckon_34 (by decide) ?_
        refine lv_iload_n hx hb dX8_reckon_41 rfl (lv_at hl 4 rfl) ?_
        refine lv_if_lt (tgt := 50) hx hb dX8_reckon_42 (by decide) (fun c25 => absurd c25 (by decide)) (fun c25 => ?_)
        refine lv_iload_n hx hb dX8_reckon_45 rfl (lv_at hl 4 rfl) ?_
        refine lv_iconst (v := 4) hx hb dX8_reckon_46 (by decide) ?_
        refine lv_icmp_le (tgt := 54) hx hb dX8_reckon_47 (by decide) (fun c26 => ?_) (fun c26 => absurd (by decide) c26)
        refine lv_aload hx hb dX8_reckon_54 (lv_at hl 2 rfl) ?_
        refine pg_get (ci := 4) (C := RX4) (T := TX4) (N := 3) hx hb hts hinX4 hown hK hP hmm_x hFm_x rfl 0 (by decide) (hts (.fieldLink RX8 103 "RopeDrums$Meter" "lane" "I") (by decide +kernel)) (fun _ h9 => h9) rfl dX8_reckon_56 ?_
        refine lv_aload hx hb dX8_reckon_59 (lv_at hl 1 rfl) ?_
        refine pg_get (ci := 4) (C := RX4) (T := TX4) (N := 3) hx hb hts hinX4 hown hK hP hmm_y hFm_y rfl 0 (by decide) (hts (.fieldLink RX8 103 "RopeDrums$Meter" "lane" "I") (by decide +kernel)) (fun _ h9 => h9) rfl dX8_reckon_61 ?_
        refine va_mmax hx hb (by rw [hml]; exact hl.1.symm) hown (hts (.methodLink RX8 117 Lib.Math.max.name) (by decide +kernel)) (hts (.static Lib.Math.max.name) (by decide +kernel)) (hts (.initialized "java/lang/Math") (by decide +kernel)) (hts (.code Lib.Math.max.name Lib.Math.max.code 2 (some .int)) (by decide +kernel)) (Nat.le_of_ble_eq_true rfl) (Nat.le_of_ble_eq_true rfl) (Nat.zero_le _) (Nat.zero_le _) dX8_reckon_64 ?_
        refine lv_topi (fun v27 ev27 => ?_)
        rw [mx_eq] at ev27
        subst ev27
        have hmx := mx_v hok_x.lane hok_y.lane
        refine lv_istore (lv' := [(8, .int (mx (Mm.1 j_x) (Mm.1 j_y))), (7, .ref (qa 0 j_into)), (6, .ref (qa 0 j_y)), (5, .ref (qa 0 j_x)), (0, .ref o), (1, .int 2), (2, .int (nI j_x)), (3, .int (nI j_y)), (4, .int (nI j_into))]) hx hb dX8_reckon_67 hl (by decide) rfl (fun ls hl => ?_)
        refine lv_iload hx hb dX8_reckon_69 (lv_at hl 0 rfl) ?_
        refine lv_iconst (v := 1) hx hb dX8_reckon_71 (by decide) ?_
        refine lv_icmp_gt (tgt := 95) hx hb dX8_reckon_72 (by decide) (fun c28 => ?_) (fun c28 => ?_)
        · rcases (hmx.2 c28).1 with hmxl | hmxl
          · refine lv_iload_n hx hb dX8_reckon_95 rfl (lv_at hl 5 rfl) ?_
            refine lv_aload hx hb dX8_reckon_96 (lv_at hl 3 rfl) ?_
            refine lv_iload hx hb dX8_reckon_98 (lv_at hl 0 rfl) ?_
            refine vp_callSd (W.runV (As := [.int (mx (Mm.1 j_x) (Mm.1 j_y))]) (rest := [.int 2]) ⟨hx, hb, hml, hown, hts⟩ (c_asReal l G cy L F (qa 0 j_x) (Mm.1 j_x) nm_x rl_x hmm_x hFm_x (mx (Mm.1 j_x) (Mm.1 j_y)) hok_x.ne) (cwV 1 hts gX8_reckon_X4_asReal rfl rfl rfl (by decide +kernel) ⟨Nat.le_of_ble_eq_true rfl, Nat.le_of_ble_eq_true rfl⟩) (preV_of okP (⟨hP, hK, hD.top⟩) (pl_recv hK hP (ci := 4) rfl hmm_x hFm_x)) rfl rfl hl.1 rfl (lv_room (Nat.le_of_ble_eq_true rfl)) dX8_reckon_100 ⟨Nat.le_of_ble_eq_true rfl, Nat.le_of_ble_eq_true rfl⟩) (fun r29 hr29 => ?_)
            refine lv_aload hx hb dX8_reckon_103 (lv_at hl 2 rfl) ?_
            refine lv_iload hx hb dX8_reckon_105 (lv_at hl 0 rfl) ?_
            refine vp_callSd (W.runV (As := [.int (mx (Mm.1 j_x) (Mm.1 j_y))]) (rest := [.double r29, .int 2]) ⟨hx, hb, hml, hown, hts⟩ (c_asReal l G cy L F (qa 0 j_y) (Mm.1 j_y) nm_y rl_y hmm_y hFm_y (mx (Mm.1 j_x) (Mm.1 j_y)) hok_y.ne) (cwV 1 hts gX8_reckon_X4_asReal rfl rfl rfl (by decide +kernel) ⟨Nat.le_of_ble_eq_true rfl, Nat.le_of_ble_eq_true rfl⟩) (preV_of okP (⟨hP, hK, hD.top⟩) (pl_recv hK hP (ci := 4) rfl hmm_y hFm_y)) rfl rfl hl.1 rfl (lv_room (Nat.le_of_ble_eq_true rfl)) dX8_reckon_107 ⟨Nat.le_of_ble_eq_true rfl, Nat.le_of_ble_eq_true rfl⟩) (fun r30 hr30 => ?_)
            refine vp_callSi (W.runS (As := [.int 2, .double r29, .double r30]) (rest := []) ⟨hx, hb, hml, hown, hts⟩ (c_isVoid_2 l r29 r30) (va_cwS 3 hts gX8_reckon_X8_isVoid rfl rfl rfl (by decide +kernel) ⟨Nat.le_of_ble_eq_true rfl, Nat.le_of_ble_eq_true rfl⟩) (preS_of okT (trivial)) rfl rfl hl.1 rfl (lv_room (Nat.le_of_ble_eq_true rfl)) dX8_reckon_110 ⟨Nat.le_of_ble_eq_true rfl, Nat.le_of_ble_eq_true rfl⟩) (fun r31 hr31 => ?_)
            rw [hr29, hr30, hmxl, (real_2 hok_x).1, (real_2 hok_y).1, vf2 (real_2 hok_x).2.1 (real_2 hok_y).2.1] at hr31
            refine lv_if_eq (tgt := 122) hx hb dX8_reckon_113 (by decide) (fun c32 => ?_) (fun c32 => ?_)
            · have hnan : FP.Core.fIsNaN (rkF 2 (fl (tn (Mm.1 j_x) (Mm.2 j_x) 2)) (fl (tn (Mm.1 j_y) (Mm.2 j_y) 2))) = false := by have hc := c32; rw [hr31] at hc; exact Bool.eq_false_iff.mpr (fun q => absurd ((if_pos (t := (1 : Int32)) (e := 0) q).symm.trans hc) (by decide))
              refine lv_iload hx hb dX8_reckon_122 (lv_at hl 0 rfl) ?_
              refine lv_iconst (v := 2) hx hb dX8_reckon_124 (by decide) ?_
              refine lv_icmp_ne (tgt := 146) hx hb dX8_reckon_125 (by decide) (fun c33 => absurd (hmxl) c33) (fun c33 => ?_)
              refine lv_iload_n hx hb dX8_reckon_128 rfl (lv_at hl 5 rfl) ?_
              refine lv_aload hx hb dX8_reckon_129 (lv_at hl 3 rfl) ?_
              refine vp_callSf (W.runV (As := []) (rest := [.int 2]) ⟨hx, hb, hml, hown, hts⟩ (c_asFloat l G cy L F (qa 0 j_x) (Mm.1 j_x) nm_x rl_x hmm_x hFm_x  hok_x.ne) (cwV 0 hts gX8_reckon_X4_asFloat rfl rfl rfl (by decide +kernel) ⟨Nat.le_of_ble_eq_true rfl, Nat.le_of_ble_eq_true rfl⟩) (preV_of okP (⟨hP, hK, hD.top⟩) (pl_recv hK hP (ci := 4) rfl hmm_x hFm_x)) rfl rfl hl.1 rfl (lv_room (Nat.le_of_ble_eq_true rfl)) dX8_reckon_131 ⟨Nat.le_of_ble_eq_true rfl, Nat.le_of_ble_eq_true rfl⟩) (fun r34 hr34 => ?_)
              refine lv_aload hx hb dX8_reckon_134 (lv_at hl 2 rfl) ?_
              refine vp_callSf (W.runV (As := []) (rest := [.float r34, .int 2]) ⟨hx, hb, hml, hown, hts⟩ (c_asFloat l G cy L F (qa 0 j_y) (Mm.1 j_y) nm_y rl_y hmm_y hFm_y  hok_y.ne) (cwV 0 hts gX8_reckon_X4_asFloat rfl rfl rfl (by decide +kernel) ⟨Nat.le_of_ble_eq_true rfl, Nat.le_of_ble_eq_true rfl⟩) (preV_of okP (⟨hP, hK, hD.top⟩) (pl_recv hK hP (ci := 4) rfl hmm_y hFm_y)) rfl rfl hl.1 rfl (lv_room (Nat.le_of_ble_eq_true rfl)) dX8_reckon_136 ⟨Nat.le_of_ble_eq_true rfl, Nat.le_of_ble_eq_true rfl⟩) (fun r35 hr35 => ?_)
              refine vp_callSf (W.runS (As := [.int 2, .float r34, .float r35]) (rest := []) ⟨hx, hb, hml, hown, hts⟩ (c_makeFloat_2 l ad r34 r35 (by rw [hr34]; exact asFloat_ok hok_x.ne) (by rw [hr35]; exact asFloat_ok hok_y.ne) (by rw [hr34, hr35, (real_2 hok_x).2.2, (real_2 hok_y).2.2]; exact hnan)) (va_cwS 3 hts gX8_reckon_X8_makeFloat rfl rfl rfl (by decide +kernel) ⟨Nat.le_of_ble_eq_true rfl, Nat.le_of_ble_eq_true rfl⟩) (preS_of okE (pE.low hE hN hS)) rfl rfl hl.1 rfl (lv_room (Nat.le_of_ble_eq_true rfl)) dX8_reckon_139 ⟨Nat.le_of_ble_eq_true rfl, Nat.le_of_ble_eq_true rfl⟩) (fun r36 hr36 => ?_)
              rw [hr34, hr35, (real_2 hok_x).2.2, (real_2 hok_y).2.2] at hr36
              refine lv_f2d hx hb dX8_reckon_142 (n64.mpr (f2d_ok (by rw [hr36]; exact (FP.Core.notNaN_iff32 _).mp hnan)).2) ?_
              refine lv_topd (fun v37 ev37 => ?_)
              refine lv_goto (tgt := 160) hx hb dX8_reckon_143 (by decide) ?_
              refine lv_dstore (lv' := [(9, .double v37), (8, .int (mx (Mm.1 j_x) (Mm.1 j_y))), (7, .ref (qa 0 j_into)), (6, .ref (qa 0 j_y)), (5, .ref (qa 0 j_x)), (0, .ref o), (1, .int 2), (2, .int (nI j_x)), (3, .int (nI j_y)), (4, .int (nI j_into))]) hx hb dX8_reckon_160 hl (by decide) rfl (fun ls hl => ?_)
              refine lv_aload hx hb dX8_reckon_162 (lv_at hl 2 rfl) ?_
              refine lv_iload hx hb dX8_reckon_164 (lv_at hl 1 rfl) ?_
              refine lv_dload hx hb dX8_reckon_166 (lv_at hl 0 rfl) ?_
              refine va_callv (va_runV (As := [.int (mx (Mm.1 j_x) (Mm.1 j_y)), .double v37]) (rest := []) ⟨hx, hb, hml, hown, hts⟩ (c_holdReal l G cy L F s.heap.size (qa 0 j_into) (Mm.1 j_into) nm_into rl_into hmm_into hFm_into (mx (Mm.1 j_x) (Mm.1 j_y)) v37) (cwV 2 hts gX8_reckon_X4_holdReal rfl rfl rfl (by decide +kernel) ⟨Nat.le_of_ble_eq_true rfl, Nat.le_of_ble_eq_true rfl⟩) (preV_of okQ (⟨rfl, hP, hK, hD.top⟩) (pl_recv hK hP (ci := 4) rfl hmm_into hFm_into)) rfl rfl hl.1 rfl (lv_room (Nat.le_of_ble_eq_true rfl)) dX8_reckon_168 ⟨Nat.le_of_ble_eq_true rfl, Nat.le_of_ble_eq_true rfl⟩) hS (fun q _ h => pl_free hD hS hA q h) (pl_free hD hS hA) (fun F38 t H1 locs ht hvm hw hP1 hz1 hk1 hS => ?_)
              have hP1 : va_P G vwCl (va_pl L F38) t.heap := hP1
              rw [ht] at hP1
              have hP := hP1
              generalize H1 = H at hP hS ⊢
              have eF38 : F38 = va_up F (qa 0 j_into) (.inr (4, [.int (mx (Mm.1 j_x) (Mm.1 j_y)), .long nm_into, .double v37])) := hw
              have hFo_38 : F38 o = .inr (7, [.ref (qa 8 0), .ref (qa 8 1), .ref (qa 8 2), .ref (qa 8 3), .ref (qa 8 4), .ref (qa 8 5), .ref (qa 8 6), .int Pp.1, .int Xx.1]) := by rw [eF38, va_up_ne _ _ (pl_ne hFo hFm_into rfl)]; exact hFo
              have hFqa80_38 : F38 (qa 8 0) = cQ (cy 7) 10 (pR 10 (qa 0)) := by rw [eF38, va_up_ne _ _ (pl_ne hF0 hFm_into rfl)]; exact hF0
              have hFqa81_38 : F38 (qa 8 1) = cQ (cy 5) 6 (pR 6 (qa 1)) := by rw [eF38, va_up_ne _ _ (pl_ne hF1 hFm_into rfl)]; exact hF1
              have hFqa82_38 : F38 (qa 8 2) = cQ (cy 6) 8 (pR 8 (qa 2)) := by rw [eF38, va_up_ne _ _ (pl_ne hF2 hFm_into rfl)]; exact hF2
              have hFqa83_38 : F38 (qa 8 3) = cQ (cy 9) 30 (pR Pp.1.toInt.toNat (qa 7)) := by rw [eF38, va_up_ne _ _ (pl_ne hFs hFm_into rfl)]; exact hFs
              have hFqa84_38 : F38 (qa 8 4) = cQ (cy 8) 5 (pR 5 (qa 4)) := by rw [eF38, va_up_ne _ _ (pl_ne hF4 hFm_into rfl)]; exact hF4
              have hFqa85_38 : F38 (qa 8 5) = cQ (cy 4) 4 (pR 4 (qa 6)) := by rw [eF38, va_up_ne _ _ (pl_ne hF5 hFm_into rfl)]; exact hF5
              have hFqa86_38 : F38 (qa 8 6) = cI (cy 1) 6 Xx.2 := by rw [eF38, va_up_ne _ _ (pl_ne hFf hFm_into rfl)]; exact hFf
              have hFqa0j_into_38 : F38 (qa 0 j_into) = .inr (4, [.int (mx (Mm.1 j_x) (Mm.1 j_y)), .long nm_into, .double v37]) := by rw [eF38]; exact va_up_self _ _ _
              have hR39 : Rep cy L o qa (setM Mm j_into 2 (rkF 2 (fl (tn (Mm.1 j_x) (Mm.2 j_x) 2)) (fl (tn (Mm.1 j_y) (Mm.2 j_y) 2))).toInt32.toInt64) Dd Sl Pp Kr Bk Xx F38 := by rw [eF38, ev37, hr36, hmxl]; exact hR.meter hj_into (real_okM2 ((FP.Core.notNaN_iff32 _).mp hnan))
              refine lv_aload_n hx hb dX8_reckon_171 rfl (lv_at hl 5 rfl) ?_
              refine lv_iload hx hb dX8_reckon_172 (lv_at hl 1 rfl) ?_
              refine va_calli (va_runV (As := [.int (mx (Mm.1 j_x) (Mm.1 j_y))]) (rest := []) ⟨hx, hb, hml, hown, hts⟩ (c_succeed l G cy L F38 H.size o qa (setM Mm j_into 2 (rkF 2 (fl (tn (Mm.1 j_x) (Mm.2 j_x) 2)) (fl (tn (Mm.1 j_y) (Mm.2 j_y) 2))).toInt32.toInt64) Dd Sl Pp Kr Bk Xx hR39 (mx (Mm.1 j_x) (Mm.1 j_y))) (cwV 1 hts gX8_reckon_X8_succeed rfl rfl rfl (by decide +kernel) ⟨Nat.le_of_ble_eq_true rfl, Nat.le_of_ble_eq_true rfl⟩) (preV_of okQ (⟨rfl, hP, hK, hD.top⟩) (pl_recv hK hP (ci := 7) rfl hmo hFo_38)) rfl rfl hl.1 rfl (lv_room (Nat.le_of_ble_eq_true rfl)) dX8_reckon_174 ⟨Nat.le_of_ble_eq_true rfl, Nat.le_of_ble_eq_true rfl⟩) hS (fun q _ h => pl_free hD hS hA q h) (pl_free hD hS hA) (fun r41 F40 t H1 locs ht hvm hw hP1 hz1 hk1 hS => ?_)
              have hP1 : va_P G vwCl (va_pl L F40) t.heap := hP1
              rw [ht] at hP1
              have hP := hP1
              generalize H1 = H at hP hS ⊢
              obtain ⟨hqr41, hR42⟩ := hw
              exact W.iret (v := r41) hx hb hr (fun t ht hW => ⟨⟨r41, F40, rfl, (by have hsp : sp_reckon Mm Xx 2 (nI j_x) (nI j_y) (nI j_into) = (2, setM Mm j_into 2 (rkF 2 (fl (tn (Mm.1 j_x) (Mm.2 j_x) 2)) (fl (tn (Mm.1 j_y) (Mm.2 j_y) 2))).toInt32.toInt64, goodX Xx) := (by unfold sp_reckon; rw [hi_x, hi_y, hi_into, ixk.2.2.1]; show rk Mm Xx 2 j_x j_y j_into = _; unfold rk; rw [if_neg (hmx.2 c28).2, if_pos hmxl]; exact if_neg (by rw [hnan]; decide)); rw [hsp]; exact ⟨(by rw [hqr41]; exact hmxl), hR42⟩), (by show va_P _ _ _ t.heap; rw [ht]; exact hP)⟩, hS.F ht⟩) hS.2.2 dX8_reckon_177
            · have hnan : FP.Core.fIsNaN (rkF 2 (fl (tn (Mm.1 j_x) (Mm.2 j_x) 2)) (fl (tn (Mm.1 j_y) (Mm.2 j_y) 2))) = true := Decidable.byContradiction (fun q => c32 (by rw [hr31]; exact if_neg q))
              refine lv_aload_n hx hb dX8_reckon_116 rfl (lv_at hl 4 rfl) ?_
              refine lv_iconst (v := 5) hx hb dX8_reckon_117 (by decide) ?_
              refine va_calli (va_runV (As := [.int 5]) (rest := []) ⟨hx, hb, hml, hown, hts⟩ (c_fail_5 l G cy L F s.heap.size o qa Mm Dd Sl Pp Kr Bk Xx hR) (cwV 1 hts gX8_reckon_X8_fail rfl rfl rfl (by decide +kernel) ⟨Nat.le_of_ble_eq_true rfl, Nat.le_of_ble_eq_true rfl⟩) (preV_of okQ (⟨rfl, hP, hK, hD.top⟩) (pl_recv hK hP (ci := 7) rfl hmo hFo)) rfl rfl hl.1 rfl (lv_room (Nat.le_of_ble_eq_true rfl)) dX8_reckon_118 ⟨Nat.le_of_ble_eq_true rfl, Nat.le_of_ble_eq_true rfl⟩) hS (fun q _ h => pl_free hD hS hA q h) (pl_free hD hS hA) (fun r44 F43 t H1 locs ht hvm hw hP1 hz1 hk1 hS => ?_)
              have hP1 : va_P G vwCl (va_pl L F43) t.heap := hP1
              rw [ht] at hP1
              have hP := hP1
              generalize H1 = H at hP hS ⊢
              obtain ⟨hqr44, hR45⟩ := hw
              exact W.iret (v := r44) hx hb hr (fun t ht hW => ⟨⟨r44, F43, rfl, (by have hsp : sp_reckon Mm Xx 2 (nI j_x) (nI j_y) (nI j_into) = (-15, Mm, failX Xx 5) := (by unfold sp_reckon; rw [hi_x, hi_y, hi_into, ixk.2.2.1]; show rk Mm Xx 2 j_x j_y j_into = _; unfold rk; rw [if_neg (hmx.2 c28).2, if_pos hmxl]; exact if_pos hnan); rw [hsp]; exact ⟨hqr44, hR45⟩), (by show va_P _ _ _ t.heap; rw [ht]; exact hP)⟩, hS.F ht⟩) hS.2.2 dX8_reckon_121
          · refine lv_iload_n hx hb dX8_reckon_95 rfl (lv_at hl 5 rfl) ?_
            refine lv_aload hx hb dX8_reckon_96 (lv_at hl 3 rfl) ?_
            refine lv_iload hx hb dX8_reckon_98 (lv_at hl 0 rfl) ?_
            refine vp_callSd (W.runV (As := [.int (mx (Mm.1 j_x) (Mm.1 j_y))]) (rest := [.int 2]) ⟨hx, hb, hml, hown, hts⟩ (c_asReal l G cy L F (qa 0 j_x) (Mm.1 j_x) nm_x rl_x hmm_x hFm_x (mx (Mm.1 j_x) (Mm.1 j_y)) hok_x.ne) (cwV 1 hts gX8_reckon_X4_asReal rfl rfl rfl (by decide +kernel) ⟨Nat.le_of_ble_eq_true rfl, Nat.le_of_ble_eq_true rfl⟩) (preV_of okP (⟨hP, hK, hD.top⟩) (pl_recv hK hP (ci := 4) rfl hmm_x hFm_x)) rfl rfl hl.1 rfl (lv_room (Nat.le_of_ble_eq_true rfl)) dX8_reckon_100 ⟨Nat.le_of_ble_eq_true rfl, Nat.le_of_ble_eq_true rfl⟩) (fun r46 hr46 => ?_)
            refine lv_aload hx hb dX8_reckon_103 (lv_at hl 2 rfl) ?_
            refine lv_iload hx hb dX8_reckon_105 (lv_at hl 0 rfl) ?_
            refine vp_callSd (W.runV (As := [.int (mx (Mm.1 j_x) (Mm.1 j_y))]) (rest := [.double r46, .int 2]) ⟨hx, hb, hml, hown, hts⟩ (c_asReal l G cy L F (qa 0 j_y) (Mm.1 j_y) nm_y rl_y hmm_y hFm_y (mx (Mm.1 j_x) (Mm.1 j_y)) hok_y.ne) (cwV 1 hts gX8_reckon_X4_asReal rfl rfl rfl (by decide +kernel) ⟨Nat.le_of_ble_eq_true rfl, Nat.le_of_ble_eq_true rfl⟩) (preV_of okP (⟨hP, hK, hD.top⟩) (pl_recv hK hP (ci := 4) rfl hmm_y hFm_y)) rfl rfl hl.1 rfl (lv_room (Nat.le_of_ble_eq_true rfl)) dX8_reckon_107 ⟨Nat.le_of_ble_eq_true rfl, Nat.le_of_ble_eq_true rfl⟩) (fun r47 hr47 => ?_)
            refine vp_callSi (W.runS (As := [.int 2, .double r46, .double r47]) (rest := []) ⟨hx, hb, hml, hown, hts⟩ (c_isVoid_2 l r46 r47) (va_cwS 3 hts gX8_reckon_X8_isVoid rfl rfl rfl (by decide +kernel) ⟨Nat.le_of_ble_eq_true rfl, Nat.le_of_ble_eq_true rfl⟩) (preS_of okT (trivial)) rfl rfl hl.1 rfl (lv_room (Nat.le_of_ble_eq_true rfl)) dX8_reckon_110 ⟨Nat.le_of_ble_eq_true rfl, Nat.le_of_ble_eq_true rfl⟩) (fun r48 hr48 => ?_)
            rw [hr46, hr47, hmxl, (real_3 hok_x).1, (real_3 hok_y).1, void2 (real_3 hok_x).2.1 (real_3 hok_y).2.1] at hr48
            refine lv_if_eq (tgt := 122) hx hb dX8_reckon_113 (by decide) (fun c49 => ?_) (fun c49 => ?_)
            · have hnan : FP.Core.dIsNaN (rkD 2 (db (tn (Mm.1 j_x) (Mm.2 j_x) 3)) (db (tn (Mm.1 j_y) (Mm.2 j_y) 3))) = false := by have hc := c49; rw [hr48] at hc; exact Bool.eq_false_iff.mpr (fun q => absurd ((if_pos (t := (1 : Int32)) (e := 0) q).symm.trans hc) (by decide))
              refine lv_iload hx hb dX8_reckon_122 (lv_at hl 0 rfl) ?_
              refine lv_iconst (v := 2) hx hb dX8_reckon_124 (by decide) ?_
              refine lv_icmp_ne (tgt := 146) hx hb dX8_reckon_125 (by decide) (fun c50 => ?_) (fun c50 => absurd c50 (by rw [hmxl]; decide))
              refine lv_iload_n hx hb dX8_reckon_146 rfl (lv_at hl 5 rfl) ?_
              refine lv_aload hx hb dX8_reckon_147 (lv_at hl 3 rfl) ?_
              refine vp_callSd (W.runV (As := []) (rest := [.int 2]) ⟨hx, hb, hml, hown, hts⟩ (c_asDouble l G cy L F (qa 0 j_x) (Mm.1 j_x) nm_x rl_x hmm_x hFm_x ) (cwV 0 hts gX8_reckon_X4_asDouble rfl rfl rfl (by decide +kernel) ⟨Nat.le_of_ble_eq_true rfl, Nat.le_of_ble_eq_true rfl⟩) (preV_of okP (⟨hP, hK, hD.top⟩) (pl_recv hK hP (ci := 4) rfl hmm_x hFm_x)) rfl rfl hl.1 rfl (lv_room (Nat.le_of_ble_eq_true rfl)) dX8_reckon_149 ⟨Nat.le_of_ble_eq_true rfl, Nat.le_of_ble_eq_true rfl⟩) (fun r51 hr51 => ?_)
              refine lv_aload hx hb dX8_reckon_152 (lv_at hl 2 rfl) ?_
              refine vp_callSd (W.runV (As := []) (rest := [.double r51, .int 2]) ⟨hx, hb, hml, hown, hts⟩ (c_asDouble l G cy L F (qa 0 j_y) (Mm.1 j_y) nm_y rl_y hmm_y hFm_y ) (cwV 0 hts gX8_reckon_X4_asDouble rfl rfl rfl (by decide +kernel) ⟨Nat.le_of_ble_eq_true rfl, Nat.le_of_ble_eq_true rfl⟩) (preV_of okP (⟨hP, hK, hD.top⟩) (pl_recv hK hP (ci := 4) rfl hmm_y hFm_y)) rfl rfl hl.1 rfl (lv_room (Nat.le_of_ble_eq_true rfl)) dX8_reckon_154 ⟨Nat.le_of_ble_eq_true rfl, Nat.le_of_ble_eq_true rfl⟩) (fun r52 hr52 => ?_)
              refine vp_callSd (W.runS (As := [.int 2, .double r51, .double r52]) (rest := []) ⟨hx, hb, hml, hown, hts⟩ (c_makeDouble_2 l ad r51 r52 (by rw [hr51]; exact asDouble_ok hok_x.ne) (by rw [hr52]; exact asDouble_ok hok_y.ne) (by rw [hr51, hr52, (real_3 hok_x).2.2, (real_3 hok_y).2.2]; exact hnan)) (va_cwS 3 hts gX8_reckon_X8_makeDouble rfl rfl rfl (by decide +kernel) ⟨Nat.le_of_ble_eq_true rfl, Nat.le_of_ble_eq_true rfl⟩) (preS_of okE (pE.low hE hN hS)) rfl rfl hl.1 rfl (lv_room (Nat.le_of_ble_eq_true rfl)) dX8_reckon_157 ⟨Nat.le_of_ble_eq_true rfl, Nat.le_of_ble_eq_true rfl⟩) (fun r53 hr53 => ?_)
              rw [hr51, hr52, (real_3 hok_x).2.2, (real_3 hok_y).2.2] at hr53
              refine lv_dstore (lv' := [(9, .double r53), (8, .int (mx (Mm.1 j_x) (Mm.1 j_y))), (7, .ref (qa 0 j_into)), (6, .ref (qa 0 j_y)), (5, .ref (qa 0 j_x)), (0, .ref o), (1, .int 2), (2, .int (nI j_x)), (3, .int (nI j_y)), (4, .int (nI j_into))]) hx hb dX8_reckon_160 hl (by decide) rfl (fun ls hl => ?_)
              refine lv_aload hx hb dX8_reckon_162 (lv_at hl 2 rfl) ?_
              refine lv_iload hx hb dX8_reckon_164 (lv_at hl 1 rfl) ?_
              refine lv_dload hx hb dX8_reckon_166 (lv_at hl 0 rfl) ?_
              refine va_callv (va_runV (As := [.int (mx (Mm.1 j_x) (Mm.1 j_y)), .double r53]) (rest := []) ⟨hx, hb, hml, hown, hts⟩ (c_holdReal l G cy L F s.heap.size (qa 0 j_into) (Mm.1 j_into) nm_into rl_into hmm_into hFm_into (mx (Mm.1 j_x) (Mm.1 j_y)) r53) (cwV 2 hts gX8_reckon_X4_holdReal rfl rfl rfl (by decide +kernel) ⟨Nat.le_of_ble_eq_true rfl, Nat.le_of_ble_eq_true rfl⟩) (preV_of okQ (⟨rfl, hP, hK, hD.top⟩) (pl_recv hK hP (ci := 4) rfl hmm_into hFm_into)) rfl rfl hl.1 rfl (lv_room (Nat.le_of_ble_eq_true rfl)) dX8_reckon_168 ⟨Nat.le_of_ble_eq_true rfl, Nat.le_of_ble_eq_true rfl⟩) hS (fun q _ h => pl_free hD hS hA q h) (pl_free hD hS hA) (fun F54 t H1 locs ht hvm hw hP1 hz1 hk1 hS => ?_)
              have hP1 : va_P G vwCl (va_pl L F54) t.heap := hP1
              rw [ht] at hP1
              have hP := hP1
              generalize H1 = H at hP hS ⊢
              have eF54 : F54 = va_up F (qa 0 j_into) (.inr (4, [.int (mx (Mm.1 j_x) (Mm.1 j_y)), .long nm_into, .double r53])) := hw
              have hFo_54 : F54 o = .inr (7, [.ref (qa 8 0), .ref (qa 8 1), .ref (qa 8 2), .ref (qa 8 3), .ref (qa 8 4), .ref (qa 8 5), .ref (qa 8 6), .int Pp.1, .int Xx.1]) := by rw [eF54, va_up_ne _ _ (pl_ne hFo hFm_into rfl)]; exact hFo
              have hFqa80_54 : F54 (qa 8 0) = cQ (cy 7) 10 (pR 10 (qa 0)) := by rw [eF54, va_up_ne _ _ (pl_ne hF0 hFm_into rfl)]; exact hF0
              have hFqa81_54 : F54 (qa 8 1) = cQ (cy 5) 6 (pR 6 (qa 1)) := by rw [eF54, va_up_ne _ _ (pl_ne hF1 hFm_into rfl)]; exact hF1
              have hFqa82_54 : F54 (qa 8 2) = cQ (cy 6) 8 (pR 8 (qa 2)) := by rw [eF54, va_up_ne _ _ (pl_ne hF2 hFm_into rfl)]; exact hF2
              have hFqa83_54 : F54 (qa 8 3) = cQ (cy 9) 30 (pR Pp.1.toInt.toNat (qa 7)) := by rw [eF54, va_up_ne _ _ (pl_ne hFs hFm_into rfl)]; exact hFs
              have hFqa84_54 : F54 (qa 8 4) = cQ (cy 8) 5 (pR 5 (qa 4)) := by rw [eF54, va_up_ne _ _ (pl_ne hF4 hFm_into rfl)]; exact hF4
              have hFqa85_54 : F54 (qa 8 5) = cQ (cy 4) 4 (pR 4 (qa 6)) := by rw [eF54, va_up_ne _ _ (pl_ne hF5 hFm_into rfl)]; exact hF5
              have hFqa86_54 : F54 (qa 8 6) = cI (cy 1) 6 Xx.2 := by rw [eF54, va_up_ne _ _ (pl_ne hFf hFm_into rfl)]; exact hFf
              have hFqa0j_into_54 : F54 (qa 0 j_into) = .inr (4, [.int (mx (Mm.1 j_x) (Mm.1 j_y)), .long nm_into, .double r53]) := by rw [eF54]; exact va_up_self _ _ _
              have hR55 : Rep cy L o qa (setM Mm j_into 3 (rkD 2 (db (tn (Mm.1 j_x) (Mm.2 j_x) 3)) (db (tn (Mm.1 j_y) (Mm.2 j_y) 3))).toInt64) Dd Sl Pp Kr Bk Xx F54 := by rw [eF54, hr53, hmxl]; exact hR.meter hj_into (real_okM3 ((FP.Core.notNaN_iff _).mp hnan))
              refine lv_aload_n hx hb dX8_reckon_171 rfl (lv_at hl 5 rfl) ?_
              refine lv_iload hx hb dX8_reckon_172 (lv_at hl 1 rfl) ?_
              refine va_calli (va_runV (As := [.int (mx (Mm.1 j_x) (Mm.1 j_y))]) (rest := []) ⟨hx, hb, hml, hown, hts⟩ (c_succeed l G cy L F54 H.size o qa (setM Mm j_into 3 (rkD 2 (db (tn (Mm.1 j_x) (Mm.2 j_x) 3)) (db (tn (Mm.1 j_y) (Mm.2 j_y) 3))).toInt64) Dd Sl Pp Kr Bk Xx hR55 (mx (Mm.1 j_x) (Mm.1 j_y))) (cwV 1 hts gX8_reckon_X8_succeed rfl rfl rfl (by decide +kernel) ⟨Nat.le_of_ble_eq_true rfl, Nat.le_of_ble_eq_true rfl⟩) (preV_of okQ (⟨rfl, hP, hK, hD.top⟩) (pl_recv hK hP (ci := 7) rfl hmo hFo_54)) rfl rfl hl.1 rfl (lv_room (Nat.le_of_ble_eq_true rfl)) dX8_reckon_174 ⟨Nat.le_of_ble_eq_true rfl, Nat.le_of_ble_eq_true rfl⟩) hS (fun q _ h => pl_free hD hS hA q h) (pl_free hD hS hA) (fun r57 F56 t H1 locs ht hvm hw hP1 hz1 hk1 hS => ?_)
              have hP1 : va_P G vwCl (va_pl L F56) t.heap := hP1
              rw [ht] at hP1
              have hP := hP1
              generalize H1 = H at hP hS ⊢
              obtain ⟨hqr57, hR58⟩ := hw
              exact W.iret (v := r57) hx hb hr (fun t ht hW => ⟨⟨r57, F56, rfl, (by have hsp : sp_reckon Mm Xx 2 (nI j_x) (nI j_y) (nI j_into) = (3, setM Mm j_into 3 (rkD 2 (db (tn (Mm.1 j_x) (Mm.2 j_x) 3)) (db (tn (Mm.1 j_y) (Mm.2 j_y) 3))).toInt64, goodX Xx) := (by unfold sp_reckon; rw [hi_x, hi_y, hi_into, ixk.2.2.1]; show rk Mm Xx 2 j_x j_y j_into = _; unfold rk; rw [if_neg (hmx.2 c28).2, if_neg (by rw [hmxl]; decide)]; exact if_neg (by rw [hnan]; decide)); rw [hsp]; exact ⟨(by rw [hqr57]; exact hmxl), hR58⟩), (by show va_P _ _ _ t.heap; rw [ht]; exact hP)⟩, hS.F ht⟩) hS.2.2 dX8_reckon_177
            · have hnan : FP.Core.dIsNaN (rkD 2 (db (tn (Mm.1 j_x) (Mm.2 j_x) 3)) (db (tn (Mm.1 j_y) (Mm.2 j_y) 3))) = true := Decidable.byContradiction (fun q => c49 (by rw [hr48]; exact if_neg q))
              refine lv_aload_n hx hb dX8_reckon_116 rfl (lv_at hl 4 rfl) ?_
              refine lv_iconst (v := 5) hx hb dX8_reckon_117 (by decide) ?_
              refine va_calli (va_runV (As := [.int 5]) (rest := []) ⟨hx, hb, hml, hown, hts⟩ (c_fail_5 l G cy L F s.heap.size o qa Mm Dd Sl Pp Kr Bk Xx hR) (cwV 1 hts gX8_reckon_X8_fail rfl rfl rfl (by decide +kernel) ⟨Nat.le_of_ble_eq_true rfl, Nat.le_of_ble_eq_true rfl⟩) (preV_of okQ (⟨rfl, hP, hK, hD.top⟩) (pl_recv hK hP (ci := 7) rfl hmo hFo)) rfl rfl hl.1 rfl (lv_room (Nat.le_of_ble_eq_true rfl)) dX8_reckon_118 ⟨Nat.le_of_ble_eq_true rfl, Nat.le_of_ble_eq_true rfl⟩) hS (fun q _ h => pl_free hD hS hA q h) (pl_free hD hS hA) (fun r60 F59 t H1 locs ht hvm hw hP1 hz1 hk1 hS => ?_)
              have hP1 : va_P G vwCl (va_pl L F59) t.heap := hP1
              rw [ht] at hP1
              have hP := hP1
              generalize H1 = H at hP hS ⊢
              obtain ⟨hqr60, hR61⟩ := hw
              exact W.iret (v := r60) hx hb hr (fun t ht hW => ⟨⟨r60, F59, rfl, (by have hsp : sp_reckon Mm Xx 2 (nI j_x) (nI j_y) (nI j_into) = (-15, Mm, failX Xx 5) := (by unfold sp_reckon; rw [hi_x, hi_y, hi_into, ixk.2.2.1]; show rk Mm Xx 2 j_x j_y j_into = _; unfold rk; rw [if_neg (hmx.2 c28).2, if_neg (by rw [hmxl]; decide)]; exact if_pos hnan); rw [hsp]; exact ⟨hqr60, hR61⟩), (by show va_P _ _ _ t.heap; rw [ht]; exact hP)⟩, hS.F ht⟩) hS.2.2 dX8_reckon_121
        · refine lv_aload_n hx hb dX8_reckon_75 rfl (lv_at hl 4 rfl) ?_
          refine lv_iload_n hx hb dX8_reckon_76 rfl (lv_at hl 5 rfl) ?_
          refine lv_iload hx hb dX8_reckon_77 (lv_at hl 0 rfl) ?_
          refine lv_aload hx hb dX8_reckon_79 (lv_at hl 3 rfl) ?_
          refine vp_callSl (W.runV (As := []) (rest := [.int (mx (Mm.1 j_x) (Mm.1 j_y)), .int 2, .ref o]) ⟨hx, hb, hml, hown, hts⟩ (c_asLong l G cy L F (qa 0 j_x) (Mm.1 j_x) nm_x rl_x hmm_x hFm_x ) (cwV 0 hts gX8_reckon_X4_asLong rfl rfl rfl (by decide +kernel) ⟨Nat.le_of_ble_eq_true rfl, Nat.le_of_ble_eq_true rfl⟩) (preV_of okP (⟨hP, hK, hD.top⟩) (pl_recv hK hP (ci := 4) rfl hmm_x hFm_x)) rfl rfl hl.1 rfl (lv_room (Nat.le_of_ble_eq_true rfl)) dX8_reckon_81 ⟨Nat.le_of_ble_eq_true rfl, Nat.le_of_ble_eq_true rfl⟩) (fun r62 hr62 => ?_)
          refine lv_aload hx hb dX8_reckon_84 (lv_at hl 2 rfl) ?_
          refine vp_callSl (W.runV (As := []) (rest := [.long r62, .int (mx (Mm.1 j_x) (Mm.1 j_y)), .int 2, .ref o]) ⟨hx, hb, hml, hown, hts⟩ (c_asLong l G cy L F (qa 0 j_y) (Mm.1 j_y) nm_y rl_y hmm_y hFm_y ) (cwV 0 hts gX8_reckon_X4_asLong rfl rfl rfl (by decide +kernel) ⟨Nat.le_of_ble_eq_true rfl, Nat.le_of_ble_eq_true rfl⟩) (preV_of okP (⟨hP, hK, hD.top⟩) (pl_recv hK hP (ci := 4) rfl hmm_y hFm_y)) rfl rfl hl.1 rfl (lv_room (Nat.le_of_ble_eq_true rfl)) dX8_reckon_86 ⟨Nat.le_of_ble_eq_true rfl, Nat.le_of_ble_eq_true rfl⟩) (fun r63 hr63 => ?_)
          refine lv_aload hx hb dX8_reckon_89 (lv_at hl 1 rfl) ?_
          refine va_calli (va_runV (As := [.int 2, .int (mx (Mm.1 j_x) (Mm.1 j_y)), .long r62, .long r63, .ref (qa 0 j_into)]) (rest := []) ⟨hx, hb, hml, hown, hts⟩ (c_rkW_2 l G cy L F s.heap.size o qa Mm Dd Sl Pp Kr Bk Xx hR (mx (Mm.1 j_x) (Mm.1 j_y)) r62 r63 j_into hj_into (hmx.1 c28).1) (cwV 5 hts gX8_reckon_X8_reckonWholes rfl rfl rfl (by decide +kernel) ⟨Nat.le_of_ble_eq_true rfl, Nat.le_of_ble_eq_true rfl⟩) (preV_of okQ (⟨rfl, hP, hK, hD.top⟩) (pl_recv hK hP (ci := 7) rfl hmo hFo)) rfl rfl hl.1 rfl (lv_room (Nat.le_of_ble_eq_true rfl)) dX8_reckon_91 ⟨Nat.le_of_ble_eq_true rfl, Nat.le_of_ble_eq_true rfl⟩) hS (fun q _ h => pl_free hD hS hA q h) (pl_free hD hS hA) (fun r65 F64 t H1 locs ht hvm hw hP1 hz1 hk1 hS => ?_)
          have hP1 : va_P G vwCl (va_pl L F64) t.heap := hP1
          rw [ht] at hP1
          have hP := hP1
          generalize H1 = H at hP hS ⊢
          obtain ⟨hqr65, hR66⟩ := hw
          exact W.iret (v := r65) hx hb hr (fun t ht hW => ⟨⟨r65, F64, rfl, (by have hsp : sp_reckon Mm Xx 2 (nI j_x) (nI j_y) (nI j_into) = rkW 2 Mm Xx (mx (Mm.1 j_x) (Mm.1 j_y)) r62 r63 j_into := (by unfold sp_reckon; rw [hi_x, hi_y, hi_into, ixk.2.2.1]; show rk Mm Xx 2 j_x j_y j_into = _; exact rk_eq (hmx.1 c28).2.1 (by rw [hr62]; exact (long_tn hok_x (hmx.1 c28).2.2.1 (hmx.1 c28).2.2.2).1) (by rw [hr63]; exact (long_tn hok_y (hmx.1 c28).2.2.2 (hmx.1 c28).2.2.1).2)); rw [hsp]; exact ⟨hqr65, hR66⟩), (by show va_P _ _ _ t.heap; rw [ht]; exact hP)⟩, hS.F ht⟩) hS.2.2 dX8_reckon_94

set_option maxHeartbeats 8000000 in
set_option maxRecDepth 100000 in
theorem m_reckon_3 (l : Launch) (G : va_G) (cy : Nat → ClassId) (L : List Nat) (F : Nat → va_E) (ad : Nat → Nat) (sz : Nat) (o : Nat) (qa : Nat → Nat → Nat) (Mm : SM) (Dd : SD) (Sl : SL) (Pp : SP) (Kr : SR) (Bk : SB) (Xx : SX) (hR : Rep cy L o qa Mm Dd Sl Pp Kr Bk Xx F) (x y into : Int32)  : Met l yX8_reckon wsX8_reckon ({ frames := 5, cells := 0, slots := 0, locals := 133 }) (va_Pc [.ref o, .int 3, .int x, .int y, .int into] (fun U => bQE G cy L F ad sz U U.heap)) (va_Qi (fun (r : Int32) (F' : Nat → va_E) => r = (sp_reckon Mm Xx 3 x y into).1 ∧ Rep cy L o qa (sp_reckon Mm Xx 3 x y into).2.1 Dd Sl Pp Kr Bk (sp_reckon Mm Xx 3 x y into).2.2 F') (fun F' t => va_P G vwCl (va_pl L F') t.heap) (va_A (va_pl L F) sz)) 0 0 (va_A (va_pl L F) sz) := by
  refine Met.ofW (cc := cX8_reckon) (maxL := 11) (ret := (some .int)) (by decide) rfl ?_
  intro p e s m args below meth c s₁ B hml hv
  obtain ⟨rfl, ⟨hsz, hP, hK, hD0⟩, hE, hN⟩ := hv
  have hx := B.exec
  have hb := B.bytes
  have hr := B.returns
  have hts := atoms_spec (ws := wsX8_reckon) B.pre
  have hown : s.vm.findClass RX8 = some m.cls := findClass_of_methodNamed B.named
  have hlocks := B.notSynchronized
  have hinX8 : ∀ w ∈ wsX80, w ∈ wsX8_reckon := by decide +kernel
  have hinX4 : ∀ w ∈ wsX40, w ∈ wsX8_reckon := by decide +kernel
  subst hsz
  have hD := hD0.self F s.heap.size
  generalize hAe : va_A (va_pl L F) s.heap.size = A at hD hE ⊢
  have hA : ∀ q : Nat, s.heap.size ≤ q → A q := fun q h => by rw [← hAe]; exact Or.inr h
  have hS : va_S A s.heap s.heap [] := va_S.rf
  obtain ⟨⟨⟨hmo, hFo⟩, ⟨hmf, hFf⟩, hms, hFs⟩, ⟨⟨hm0, hF0⟩, ⟨hm1, hF1⟩, ⟨hm2, hF2⟩, ⟨hm4, hF4⟩, hm5, hF5⟩, hRM, hRD, hRG, hRP, hRR, hRB, hRI⟩ := id hR
  have hl := lv_entry ([.ref o, .int 3, .int x, .int y, .int into]) (n := 11) (Nat.le_of_ble_eq_true rfl)
  rw [lg_entry_eq]
  generalize (lg_sl ([.ref o, .int 3, .int x, .int y, .int into]) ++ List.replicate (11 - (lg_sl ([.ref o, .int 3, .int x, .int y, .int into])).length) Slot.unset).toArray = ls at hl ⊢
  have hl : lv_has ls 11 [(0, .ref o), (1, .int 3), (2, .int x), (3, .int y), (4, .int into)] := hl
  rcases ixc 10 x with hi_x | ⟨j_x, hj_x, hi_x, ei_x⟩
  · rcases ixc 10 y with hi_y | ⟨j_y, hj_y, hi_y, ei_y⟩
    · rcases ixc 10 into with hi_into | ⟨j_into, hj_into, hi_into, ei_into⟩
      · refine lv_aload_n hx hb dX8_reckon_0 rfl (lv_at hl 0 rfl) ?_
        refine lv_iload_n hx hb dX8_reckon_1 rfl (lv_at hl 2 rfl) ?_
        refine va_csq (W.runV (As := [.int x]) (rest := []) ⟨hx, hb, hml, hown, hts⟩ (c_meterOf_no l G cy L F o qa Mm Dd Sl Pp Kr Bk Xx hR x hi_x) (cwV 1 hts gX8_reckon_X8_meterOf rfl rfl rfl (by decide +kernel) ⟨Nat.le_of_ble_eq_true rfl, Nat.le_of_ble_eq_true rfl⟩) (preV_of okP (⟨hP, hK, hD.top⟩) (pl_recv hK hP (ci := 7) rfl hmo hFo)) rfl rfl hl.1 rfl (lv_room (Nat.le_of_ble_eq_true rfl)) dX8_reckon_2 ⟨Nat.le_of_ble_eq_true rfl, Nat.le_of_ble_eq_true rfl⟩) (fun r1 hr1 => ?_)
        subst hr1
        refine W.eq (g2 := F0 m 5 ls [.null]) rfl ?_
        refine lv_astoreN (lv' := [(5, .null), (0, .ref o), (1, .int 3), (2, .int x), (3, .int y), (4, .int into)]) hx hb dX8_reckon_5 hl (by decide) rfl (fun ls hl => ?_)
        refine lv_aload_n hx hb dX8_reckon_7 rfl (lv_at hl 1 rfl) ?_
        refine lv_iload_n hx hb dX8_reckon_8 rfl (lv_at hl 4 rfl) ?_
        refine va_csq (W.runV (As := [.int y]) (rest := []) ⟨hx, hb, hml, hown, hts⟩ (c_meterOf_no l G cy L F o qa Mm Dd Sl Pp Kr Bk Xx hR y hi_y) (cwV 1 hts gX8_reckon_X8_meterOf rfl rfl rfl (by decide +kernel) ⟨Nat.le_of_ble_eq_true rfl, Nat.le_of_ble_eq_true rfl⟩) (preV_of okP (⟨hP, hK, hD.top⟩) (pl_recv hK hP (ci := 7) rfl hmo hFo)) rfl rfl hl.1 rfl (lv_room (Nat.le_of_ble_eq_true rfl)) dX8_reckon_9 ⟨Nat.le_of_ble_eq_true rfl, Nat.le_of_ble_eq_true rfl⟩) (fun r2 hr2 => ?_)
        subst hr2
        refine W.eq (g2 := F0 m 12 ls [.null]) rfl ?_
        refine lv_astoreN (lv' := [(6, .null), (5, .null), (0, .ref o), (1, .int 3), (2, .int x), (3, .int y), (4, .int into)]) hx hb dX8_reckon_12 hl (by decide) rfl (fun ls hl => ?_)
        refine lv_aload_n hx hb dX8_reckon_14 rfl (lv_at hl 2 rfl) ?_
        refine lv_iload hx hb dX8_reckon_15 (lv_at hl 6 rfl) ?_
        refine va_csq (W.runV (As := [.int into]) (rest := []) ⟨hx, hb, hml, hown, hts⟩ (c_meterOf_no l G cy L F o qa Mm Dd Sl Pp Kr Bk Xx hR into hi_into) (cwV 1 hts gX8_reckon_X8_meterOf rfl rfl rfl (by decide +kernel) ⟨Nat.le_of_ble_eq_true rfl, Nat.le_of_ble_eq_true rfl⟩) (preV_of okP (⟨hP, hK, hD.top⟩) (pl_recv hK hP (ci := 7) rfl hmo hFo)) rfl rfl hl.1 rfl (lv_room (Nat.le_of_ble_eq_true rfl)) dX8_reckon_17 ⟨Nat.le_of_ble_eq_true rfl, Nat.le_of_ble_eq_true rfl⟩) (fun r3 hr3 => ?_)
        subst hr3
        refine W.eq (g2 := F0 m 20 ls [.null]) rfl ?_
        refine lv_astoreN (lv' := [(7, .null), (6, .null), (5, .null), (0, .ref o), (1, .int 3), (2, .int x), (3, .int y), (4, .int into)]) hx hb dX8_reckon_20 hl (by decide) rfl (fun ls hl => ?_)
        refine lv_aloadN hx hb dX8_reckon_22 (lv_at hl 2 rfl) ?_
        refine lv_ifnullN (tgt := 37) hx hb dX8_reckon_24 (by decide) ?_
        refine lv_sipush (v := -1001) hx hb dX8_reckon_37 (by decide) ?_
        exact W.iret (v := -1001) hx hb hr (fun t ht hW => ⟨⟨-1001, F, rfl, (by have hsp : sp_reckon Mm Xx 3 x y into = (-1001, Mm, Xx) := (by unfold sp_reckon; rw [hi_x]); rw [hsp]; exact ⟨rfl, hR⟩), (by show va_P _ _ _ t.heap; rw [ht]; exact hP)⟩, hS.F ht⟩) hS.2.2 dX8_reckon_40
      · subst ei_into
        obtain ⟨hmm_into, nm_into, rl_into, hFm_into, hok_into⟩ := hRM j_into hj_into
        refine lv_aload_n hx hb dX8_reckon_0 rfl (lv_at hl 0 rfl) ?_
        refine lv_iload_n hx hb dX8_reckon_1 rfl (lv_at hl 2 rfl) ?_
        refine va_csq (W.runV (As := [.int x]) (rest := []) ⟨hx, hb, hml, hown, hts⟩ (c_meterOf_no l G cy L F o qa Mm Dd Sl Pp Kr Bk Xx hR x hi_x) (cwV 1 hts gX8_reckon_X8_meterOf rfl rfl rfl (by decide +kernel) ⟨Nat.le_of_ble_eq_true rfl, Nat.le_of_ble_eq_true rfl⟩) (preV_of okP (⟨hP, hK, hD.top⟩) (pl_recv hK hP (ci := 7) rfl hmo hFo)) rfl rfl hl.1 rfl (lv_room (Nat.le_of_ble_eq_true rfl)) dX8_reckon_2 ⟨Nat.le_of_ble_eq_true rfl, Nat.le_of_ble_eq_true rfl⟩) (fun r4 hr4 => ?_)
        subst hr4
        refine W.eq (g2 := F0 m 5 ls [.null]) rfl ?_
        refine lv_astoreN (lv' := [(5, .null), (0, .ref o), (1, .int 3), (2, .int x), (3, .int y), (4, .int (nI j_into))]) hx hb dX8_reckon_5 hl (by decide) rfl (fun ls hl => ?_)
        refine lv_aload_n hx hb dX8_reckon_7 rfl (lv_at hl 1 rfl) ?_
        refine lv_iload_n hx hb dX8_reckon_8 rfl (lv_at hl 4 rfl) ?_
        refine va_csq (W.runV (As := [.int y]) (rest := []) ⟨hx, hb, hml, hown, hts⟩ (c_meterOf_no l G cy L F o qa Mm Dd Sl Pp Kr Bk Xx hR y hi_y) (cwV 1 hts gX8_reckon_X8_meterOf rfl rfl rfl (by decide +kernel) ⟨Nat.le_of_ble_eq_true rfl, Nat.le_of_ble_eq_true rfl⟩) (preV_of okP (⟨hP, hK, hD.top⟩) (pl_recv hK hP (ci := 7) rfl hmo hFo)) rfl rfl hl.1 rfl (lv_room (Nat.le_of_ble_eq_true rfl)) dX8_reckon_9 ⟨Nat.le_of_ble_eq_true rfl, Nat.le_of_ble_eq_true rfl⟩) (fun r5 hr5 => ?_)
        subst hr5
        refine W.eq (g2 := F0 m 12 ls [.null]) rfl ?_
        refine lv_astoreN (lv' := [(6, .null), (5, .null), (0, .ref o), (1, .int 3), (2, .int x), (3, .int y), (4, .int (nI j_into))]) hx hb dX8_reckon_12 hl (by decide) rfl (fun ls hl => ?_)
        refine lv_aload_n hx hb dX8_reckon_14 rfl (lv_at hl 2 rfl) ?_
        refine lv_iload hx hb dX8_reckon_15 (lv_at hl 6 rfl) ?_
        refine va_csq (W.runV (As := [.int (nI j_into)]) (rest := []) ⟨hx, hb, hml, hown, hts⟩ (c_meterOf l G cy L F o qa Mm Dd Sl Pp Kr Bk Xx hR j_into hj_into) (cwV 1 hts gX8_reckon_X8_meterOf rfl rfl rfl (by decide +kernel) ⟨Nat.le_of_ble_eq_true rfl, Nat.le_of_ble_eq_true rfl⟩) (preV_of okP (⟨hP, hK, hD.top⟩) (pl_recv hK hP (ci := 7) rfl hmo hFo)) rfl rfl hl.1 rfl (lv_room (Nat.le_of_ble_eq_true rfl)) dX8_reckon_17 ⟨Nat.le_of_ble_eq_true rfl, Nat.le_of_ble_eq_true rfl⟩) (fun r6 hr6 => ?_)
        subst hr6
        refine W.eq (g2 := F0 m 20 ls [.ref (qa 0 j_into)]) rfl ?_
        refine lv_astore (lv' := [(7, .ref (qa 0 j_into)), (6, .null), (5, .null), (0, .ref o), (1, .int 3), (2, .int x), (3, .int y), (4, .int (nI j_into))]) hx hb dX8_reckon_20 hl (by decide) rfl (fun ls hl => ?_)
        refine lv_aloadN hx hb dX8_reckon_22 (lv_at hl 2 rfl) ?_
        refine lv_ifnullN (tgt := 37) hx hb dX8_reckon_24 (by decide) ?_
        refine lv_sipush (v := -1001) hx hb dX8_reckon_37 (by decide) ?_
        exact W.iret (v := -1001) hx hb hr (fun t ht hW => ⟨⟨-1001, F, rfl, (by have hsp : sp_reckon Mm Xx 3 x y (nI j_into) = (-1001, Mm, Xx) := (by unfold sp_reckon; rw [hi_x]); rw [hsp]; exact ⟨rfl, hR⟩), (by show va_P _ _ _ t.heap; rw [ht]; exact hP)⟩, hS.F ht⟩) hS.2.2 dX8_reckon_40
    · subst ei_y
      obtain ⟨hmm_y, nm_y, rl_y, hFm_y, hok_y⟩ := hRM j_y hj_y
      rcases ixc 10 into with hi_into | ⟨j_into, hj_into, hi_into, ei_into⟩
      · refine lv_aload_n hx hb dX8_reckon_0 rfl (lv_at hl 0 rfl) ?_
        refine lv_iload_n hx hb dX8_reckon_1 rfl (lv_at hl 2 rfl) ?_
        refine va_csq (W.runV (As := [.int x]) (rest := []) ⟨hx, hb, hml, hown, hts⟩ (c_meterOf_no l G cy L F o qa Mm Dd Sl Pp Kr Bk Xx hR x hi_x) (cwV 1 hts gX8_reckon_X8_meterOf rfl rfl rfl (by decide +kernel) ⟨Nat.le_of_ble_eq_true rfl, Nat.le_of_ble_eq_true rfl⟩) (preV_of okP (⟨hP, hK, hD.top⟩) (pl_recv hK hP (ci := 7) rfl hmo hFo)) rfl rfl hl.1 rfl (lv_room (Nat.le_of_ble_eq_true rfl)) dX8_reckon_2 ⟨Nat.le_of_ble_eq_true rfl, Nat.le_of_ble_eq_true rfl⟩) (fun r7 hr7 => ?_)
        subst hr7
        refine W.eq (g2 := F0 m 5 ls [.null]) rfl ?_
        refine lv_astoreN (lv' := [(5, .null), (0, .ref o), (1, .int 3), (2, .int x), (3, .int (nI j_y)), (4, .int into)]) hx hb dX8_reckon_5 hl (by decide) rfl (fun ls hl => ?_)
        refine lv_aload_n hx hb dX8_reckon_7 rfl (lv_at hl 1 rfl) ?_
        refine lv_iload_n hx hb dX8_reckon_8 rfl (lv_at hl 4 rfl) ?_
        refine va_csq (W.runV (As := [.int (nI j_y)]) (rest := []) ⟨hx, hb, hml, hown, hts⟩ (c_meterOf l G cy L F o qa Mm Dd Sl Pp Kr Bk Xx hR j_y hj_y) (cwV 1 hts gX8_reckon_X8_meterOf rfl rfl rfl (by decide +kernel) ⟨Nat.le_of_ble_eq_true rfl, Nat.le_of_ble_eq_true rfl⟩) (preV_of okP (⟨hP, hK, hD.top⟩) (pl_recv hK hP (ci := 7) rfl hmo hFo)) rfl rfl hl.1 rfl (lv_room (Nat.le_of_ble_eq_true rfl)) dX8_reckon_9 ⟨Nat.le_of_ble_eq_true rfl, Nat.le_of_ble_eq_true rfl⟩) (fun r8 hr8 => ?_)
        subst hr8
        refine W.eq (g2 := F0 m 12 ls [.ref (qa 0 j_y)]) rfl ?_
        refine lv_astore (lv' := [(6, .ref (qa 0 j_y)), (5, .null), (0, .ref o), (1, .int 3), (2, .int x), (3, .int (nI j_y)), (4, .int into)]) hx hb dX8_reckon_12 hl (by decide) rfl (fun ls hl => ?_)
        refine lv_aload_n hx hb dX8_reckon_14 rfl (lv_at hl 2 rfl) ?_
        refine lv_iload hx hb dX8_reckon_15 (lv_at hl 6 rfl) ?_
        refine va_csq (W.runV (As := [.int into]) (rest := []) ⟨hx, hb, hml, hown, hts⟩ (c_meterOf_no l G cy L F o qa Mm Dd Sl Pp Kr Bk Xx hR into hi_into) (cwV 1 hts gX8_reckon_X8_meterOf rfl rfl rfl (by decide +kernel) ⟨Nat.le_of_ble_eq_true rfl, Nat.le_of_ble_eq_true rfl⟩) (preV_of okP (⟨hP, hK, hD.top⟩) (pl_recv hK hP (ci := 7) rfl hmo hFo)) rfl rfl hl.1 rfl (lv_room (Nat.le_of_ble_eq_true rfl)) dX8_reckon_17 ⟨Nat.le_of_ble_eq_true rfl, Nat.le_of_ble_eq_true rfl⟩) (fun r9 hr9 => ?_)
        subst hr9
        refine W.eq (g2 := F0 m 20 ls [.null]) rfl ?_
        refine lv_astoreN (lv' := [(7, .null), (6, .ref (qa 0 j_y)), (5, .null), (0, .ref o), (1, .int 3), (2, .int x), (3, .int (nI j_y)), (4, .int into)]) hx hb dX8_reckon_20 hl (by decide) rfl (fun ls hl => ?_)
        refine lv_aloadN hx hb dX8_reckon_22 (lv_at hl 2 rfl) ?_
        refine lv_ifnullN (tgt := 37) hx hb dX8_reckon_24 (by decide) ?_
        refine lv_sipush (v := -1001) hx hb dX8_reckon_37 (by decide) ?_
        exact W.iret (v := -1001) hx hb hr (fun t ht hW => ⟨⟨-1001, F, rfl, (by have hsp : sp_reckon Mm Xx 3 x (nI j_y) into = (-1001, Mm, Xx) := (by unfold sp_reckon; rw [hi_x]); rw [hsp]; exact ⟨rfl, hR⟩), (by show va_P _ _ _ t.heap; rw [ht]; exact hP)⟩, hS.F ht⟩) hS.2.2 dX8_reckon_40
      · subst ei_into
        obtain ⟨hmm_into, nm_into, rl_into, hFm_into, hok_into⟩ := hRM j_into hj_into
        refine lv_aload_n hx hb dX8_reckon_0 rfl (lv_at hl 0 rfl) ?_
        refine lv_iload_n hx hb dX8_reckon_1 rfl (lv_at hl 2 rfl) ?_
        refine va_csq (W.runV (As := [.int x]) (rest := []) ⟨hx, hb, hml, hown, hts⟩ (c_meterOf_no l G cy L F o qa Mm Dd Sl Pp Kr Bk Xx hR x hi_x) (cwV 1 hts gX8_reckon_X8_meterOf rfl rfl rfl (by decide +kernel) ⟨Nat.le_of_ble_eq_true rfl, Nat.le_of_ble_eq_true rfl⟩) (preV_of okP (⟨hP, hK, hD.top⟩) (pl_recv hK hP (ci := 7) rfl hmo hFo)) rfl rfl hl.1 rfl (lv_room (Nat.le_of_ble_eq_true rfl)) dX8_reckon_2 ⟨Nat.le_of_ble_eq_true rfl, Nat.le_of_ble_eq_true rfl⟩) (fun r10 hr10 => ?_)
        subst hr10
        refine W.eq (g2 := F0 m 5 ls [.null]) rfl ?_
        refine lv_astoreN (lv' := [(5, .null), (0, .ref o), (1, .int 3), (2, .int x), (3, .int (nI j_y)), (4, .int (nI j_into))]) hx hb dX8_reckon_5 hl (by decide) rfl (fun ls hl => ?_)
        refine lv_aload_n hx hb dX8_reckon_7 rfl (lv_at hl 1 rfl) ?_
        refine lv_iload_n hx hb dX8_reckon_8 rfl (lv_at hl 4 rfl) ?_
        refine va_csq (W.runV (As := [.int (nI j_y)]) (rest := []) ⟨hx, hb, hml, hown, hts⟩ (c_meterOf l G cy L F o qa Mm Dd Sl Pp Kr Bk Xx hR j_y hj_y) (cwV 1 hts gX8_reckon_X8_meterOf rfl rfl rfl (by decide +kernel) ⟨Nat.le_of_ble_eq_true rfl, Nat.le_of_ble_eq_true rfl⟩) (preV_of okP (⟨hP, hK, hD.top⟩) (pl_recv hK hP (ci := 7) rfl hmo hFo)) rfl rfl hl.1 rfl (lv_room (Nat.le_of_ble_eq_true rfl)) dX8_reckon_9 ⟨Nat.le_of_ble_eq_true rfl, Nat.le_of_ble_eq_true rfl⟩) (fun r11 hr11 => ?_)
        subst hr11
        refine W.eq (g2 := F0 m 12 ls [.ref (qa 0 j_y)]) rfl ?_
        refine lv_astore (lv' := [(6, .ref (qa 0 j_y)), (5, .null), (0, .ref o), (1, .int 3), (2, .int x), (3, .int (nI j_y)), (4, .int (nI j_into))]) hx hb dX8_reckon_12 hl (by decide) rfl (fun ls hl => ?_)
        refine lv_aload_n hx hb dX8_reckon_14 rfl (lv_at hl 2 rfl) ?_
        refine lv_iload hx hb dX8_reckon_15 (lv_at hl 6 rfl) ?_
        refine va_csq (W.runV (As := [.int (nI j_into)]) (rest := []) ⟨hx, hb, hml, hown, hts⟩ (c_meterOf l G cy L F o qa Mm Dd Sl Pp Kr Bk Xx hR j_into hj_into) (cwV 1 hts gX8_reckon_X8_meterOf rfl rfl rfl (by decide +kernel) ⟨Nat.le_of_ble_eq_true rfl, Nat.le_of_ble_eq_true rfl⟩) (preV_of okP (⟨hP, hK, hD.top⟩) (pl_recv hK hP (ci := 7) rfl hmo hFo)) rfl rfl hl.1 rfl (lv_room (Nat.le_of_ble_eq_true rfl)) dX8_reckon_17 ⟨Nat.le_of_ble_eq_true rfl, Nat.le_of_ble_eq_true rfl⟩) (fun r12 hr12 => ?_)
        subst hr12
        refine W.eq (g2 := F0 m 20 ls [.ref (qa 0 j_into)]) rfl ?_
        refine lv_astore (lv' := [(7, .ref (qa 0 j_into)), (6, .ref (qa 0 j_y)), (5, .null), (0, .ref o), (1, .int 3), (2, .int x), (3, .int (nI j_y)), (4, .int (nI j_into))]) hx hb dX8_reckon_20 hl (by decide) rfl (fun ls hl => ?_)
        refine lv_aloadN hx hb dX8_reckon_22 (lv_at hl 2 rfl) ?_
        refine lv_ifnullN (tgt := 37) hx hb dX8_reckon_24 (by decide) ?_
        refine lv_sipush (v := -1001) hx hb dX8_reckon_37 (by decide) ?_
        exact W.iret (v := -1001) hx hb hr (fun t ht hW => ⟨⟨-1001, F, rfl, (by have hsp : sp_reckon Mm Xx 3 x (nI j_y) (nI j_into) = (-1001, Mm, Xx) := (by unfold sp_reckon; rw [hi_x]); rw [hsp]; exact ⟨rfl, hR⟩), (by show va_P _ _ _ t.heap; rw [ht]; exact hP)⟩, hS.F ht⟩) hS.2.2 dX8_reckon_40
  · subst ei_x
    obtain ⟨hmm_x, nm_x, rl_x, hFm_x, hok_x⟩ := hRM j_x hj_x
    rcases ixc 10 y with hi_y | ⟨j_y, hj_y, hi_y, ei_y⟩
    · rcases ixc 10 into with hi_into | ⟨j_into, hj_into, hi_into, ei_into⟩
      · refine lv_aload_n hx hb dX8_reckon_0 rfl (lv_at hl 0 rfl) ?_
        refine lv_iload_n hx hb dX8_reckon_1 rfl (lv_at hl 2 rfl) ?_
        refine va_csq (W.runV (As := [.int (nI j_x)]) (rest := []) ⟨hx, hb, hml, hown, hts⟩ (c_meterOf l G cy L F o qa Mm Dd Sl Pp Kr Bk Xx hR j_x hj_x) (cwV 1 hts gX8_reckon_X8_meterOf rfl rfl rfl (by decide +kernel) ⟨Nat.le_of_ble_eq_true rfl, Nat.le_of_ble_eq_true rfl⟩) (preV_of okP (⟨hP, hK, hD.top⟩) (pl_recv hK hP (ci := 7) rfl hmo hFo)) rfl rfl hl.1 rfl (lv_room (Nat.le_of_ble_eq_true rfl)) dX8_reckon_2 ⟨Nat.le_of_ble_eq_true rfl, Nat.le_of_ble_eq_true rfl⟩) (fun r13 hr13 => ?_)
        subst hr13
        refine W.eq (g2 := F0 m 5 ls [.ref (qa 0 j_x)]) rfl ?_
        refine lv_astore (lv' := [(5, .ref (qa 0 j_x)), (0, .ref o), (1, .int 3), (2, .int (nI j_x)), (3, .int y), (4, .int into)]) hx hb dX8_reckon_5 hl (by decide) rfl (fun ls hl => ?_)
        refine lv_aload_n hx hb dX8_reckon_7 rfl (lv_at hl 1 rfl) ?_
        refine lv_iload_n hx hb dX8_reckon_8 rfl (lv_at hl 4 rfl) ?_
        refine va_csq (W.runV (As := [.int y]) (rest := []) ⟨hx, hb, hml, hown, hts⟩ (c_meterOf_no l G cy L F o qa Mm Dd Sl Pp Kr Bk Xx hR y hi_y) (cwV 1 hts gX8_reckon_X8_meterOf rfl rfl rfl (by decide +kernel) ⟨Nat.le_of_ble_eq_true rfl, Nat.le_of_ble_eq_true rfl⟩) (preV_of okP (⟨hP, hK, hD.top⟩) (pl_recv hK hP (ci := 7) rfl hmo hFo)) rfl rfl hl.1 rfl (lv_room (Nat.le_of_ble_eq_true rfl)) dX8_reckon_9 ⟨Nat.le_of_ble_eq_true rfl, Nat.le_of_ble_eq_true rfl⟩) (fun r14 hr14 => ?_)
        subst hr14
        refine W.eq (g2 := F0 m 12 ls [.null]) rfl ?_
        refine lv_astoreN (lv' := [(6, .null), (5, .ref (qa 0 j_x)), (0, .ref o), (1, .int 3), (2, .int (nI j_x)), (3, .int y), (4, .int into)]) hx hb dX8_reckon_12 hl (by decide) rfl (fun ls hl => ?_)
        refine lv_aload_n hx hb dX8_reckon_14 rfl (lv_at hl 2 rfl) ?_
        refine lv_iload hx hb dX8_reckon_15 (lv_at hl 6 rfl) ?_
        refine va_csq (W.runV (As := [.int into]) (rest := []) ⟨hx, hb, hml, hown, hts⟩ (c_meterOf_no l G cy L F o qa Mm Dd Sl Pp Kr Bk Xx hR into hi_into) (cwV 1 hts gX8_reckon_X8_meterOf rfl rfl rfl (by decide +kernel) ⟨Nat.le_of_ble_eq_true rfl, Nat.le_of_ble_eq_true rfl⟩) (preV_of okP (⟨hP, hK, hD.top⟩) (pl_recv hK hP (ci := 7) rfl hmo hFo)) rfl rfl hl.1 rfl (lv_room (Nat.le_of_ble_eq_true rfl)) dX8_reckon_17 ⟨Nat.le_of_ble_eq_true rfl, Nat.le_of_ble_eq_true rfl⟩) (fun r15 hr15 => ?_)
        subst hr15
        refine W.eq (g2 := F0 m 20 ls [.null]) rfl ?_
        refine lv_astoreN (lv' := [(7, .null), (6, .null), (5, .ref (qa 0 j_x)), (0, .ref o), (1, .int 3), (2, .int (nI j_x)), (3, .int y), (4, .int into)]) hx hb dX8_reckon_20 hl (by decide) rfl (fun ls hl => ?_)
        refine lv_aload hx hb dX8_reckon_22 (lv_at hl 2 rfl) ?_
        refine lv_ifnull hx hb dX8_reckon_24 ?_
        refine lv_aloadN hx hb dX8_reckon_27 (lv_at hl 1 rfl) ?_
        refine lv_ifnullN (tgt := 37) hx hb dX8_reckon_29 (by decide) ?_
        refine lv_sipush (v := -1001) hx hb dX8_reckon_37 (by decide) ?_
        exact W.iret (v := -1001) hx hb hr (fun t ht hW => ⟨⟨-1001, F, rfl, (by have hsp : sp_reckon Mm Xx 3 (nI j_x) y into = (-1001, Mm, Xx) := (by unfold sp_reckon; rw [hi_x, hi_y]); rw [hsp]; exact ⟨rfl, hR⟩), (by show va_P _ _ _ t.heap; rw [ht]; exact hP)⟩, hS.F ht⟩) hS.2.2 dX8_reckon_40
      · subst ei_into
        obtain ⟨hmm_into, nm_into, rl_into, hFm_into, hok_into⟩ := hRM j_into hj_into
        refine lv_aload_n hx hb dX8_reckon_0 rfl (lv_at hl 0 rfl) ?_
        refine lv_iload_n hx hb dX8_reckon_1 rfl (lv_at hl 2 rfl) ?_
        refine va_csq (W.runV (As := [.int (nI j_x)]) (rest := []) ⟨hx, hb, hml, hown, hts⟩ (c_meterOf l G cy L F o qa Mm Dd Sl Pp Kr Bk Xx hR j_x hj_x) (cwV 1 hts gX8_reckon_X8_meterOf rfl rfl rfl (by decide +kernel) ⟨Nat.le_of_ble_eq_true rfl, Nat.le_of_ble_eq_true rfl⟩) (preV_of okP (⟨hP, hK, hD.top⟩) (pl_recv hK hP (ci := 7) rfl hmo hFo)) rfl rfl hl.1 rfl (lv_room (Nat.le_of_ble_eq_true rfl)) dX8_reckon_2 ⟨Nat.le_of_ble_eq_true rfl, Nat.le_of_ble_eq_true rfl⟩) (fun r16 hr16 => ?_)
        subst hr16
        refine W.eq (g2 := F0 m 5 ls [.ref (qa 0 j_x)]) rfl ?_
        refine lv_astore (lv' := [(5, .ref (qa 0 j_x)), (0, .ref o), (1, .int 3), (2, .int (nI j_x)), (3, .int y), (4, .int (nI j_into))]) hx hb dX8_reckon_5 hl (by decide) rfl (fun ls hl => ?_)
        refine lv_aload_n hx hb dX8_reckon_7 rfl (lv_at hl 1 rfl) ?_
        refine lv_iload_n hx hb dX8_reckon_8 rfl (lv_at hl 4 rfl) ?_
        refine va_csq (W.runV (As := [.int y]) (rest := []) ⟨hx, hb, hml, hown, hts⟩ (c_meterOf_no l G cy L F o qa Mm Dd Sl Pp Kr Bk Xx hR y hi_y) (cwV 1 hts gX8_reckon_X8_meterOf rfl rfl rfl (by decide +kernel) ⟨Nat.le_of_ble_eq_true rfl, Nat.le_of_ble_eq_true rfl⟩) (preV_of okP (⟨hP, hK, hD.top⟩) (pl_recv hK hP (ci := 7) rfl hmo hFo)) rfl rfl hl.1 rfl (lv_room (Nat.le_of_ble_eq_true rfl)) dX8_reckon_9 ⟨Nat.le_of_ble_eq_true rfl, Nat.le_of_ble_eq_true rfl⟩) (fun r17 hr17 => ?_)
        subst hr17
        refine W.eq (g2 := F0 m 12 ls [.null]) rfl ?_
        refine lv_astoreN (lv' := [(6, .null), (5, .ref (qa 0 j_x)), (0, .ref o), (1, .int 3), (2, .int (nI j_x)), (3, .int y), (4, .int (nI j_into))]) hx hb dX8_reckon_12 hl (by decide) rfl (fun ls hl => ?_)
        refine lv_aload_n hx hb dX8_reckon_14 rfl (lv_at hl 2 rfl) ?_
        refine lv_iload hx hb dX8_reckon_15 (lv_at hl 6 rfl) ?_
        refine va_csq (W.runV (As := [.int (nI j_into)]) (rest := []) ⟨hx, hb, hml, hown, hts⟩ (c_meterOf l G cy L F o qa Mm Dd Sl Pp Kr Bk Xx hR j_into hj_into) (cwV 1 hts gX8_reckon_X8_meterOf rfl rfl rfl (by decide +kernel) ⟨Nat.le_of_ble_eq_true rfl, Nat.le_of_ble_eq_true rfl⟩) (preV_of okP (⟨hP, hK, hD.top⟩) (pl_recv hK hP (ci := 7) rfl hmo hFo)) rfl rfl hl.1 rfl (lv_room (Nat.le_of_ble_eq_true rfl)) dX8_reckon_17 ⟨Nat.le_of_ble_eq_true rfl, Nat.le_of_ble_eq_true rfl⟩) (fun r18 hr18 => ?_)
        subst hr18
        refine W.eq (g2 := F0 m 20 ls [.ref (qa 0 j_into)]) rfl ?_
        refine lv_astore (lv' := [(7, .ref (qa 0 j_into)), (6, .null), (5, .ref (qa 0 j_x)), (0, .ref o), (1, .int 3), (2, .int (nI j_x)), (3, .int y), (4, .int (nI j_into))]) hx hb dX8_reckon_20 hl (by decide) rfl (fun ls hl => ?_)
        refine lv_aload hx hb dX8_reckon_22 (lv_at hl 2 rfl) ?_
        refine lv_ifnull hx hb dX8_reckon_24 ?_
        refine lv_aloadN hx hb dX8_reckon_27 (lv_at hl 1 rfl) ?_
        refine lv_ifnullN (tgt := 37) hx hb dX8_reckon_29 (by decide) ?_
        refine lv_sipush (v := -1001) hx hb dX8_reckon_37 (by decide) ?_
        exact W.iret (v := -1001) hx hb hr (fun t ht hW => ⟨⟨-1001, F, rfl, (by have hsp : sp_reckon Mm Xx 3 (nI j_x) y (nI j_into) = (-1001, Mm, Xx) := (by unfold sp_reckon; rw [hi_x, hi_y]); rw [hsp]; exact ⟨rfl, hR⟩), (by show va_P _ _ _ t.heap; rw [ht]; exact hP)⟩, hS.F ht⟩) hS.2.2 dX8_reckon_40
    · subst ei_y
      obtain ⟨hmm_y, nm_y, rl_y, hFm_y, hok_y⟩ := hRM j_y hj_y
      rcases ixc 10 into with hi_into | ⟨j_into, hj_into, hi_into, ei_into⟩
      · refine lv_aload_n hx hb dX8_reckon_0 rfl (lv_at hl 0 rfl) ?_
        refine lv_iload_n hx hb dX8_reckon_1 rfl (lv_at hl 2 rfl) ?_
        refine va_csq (W.runV (As := [.int (nI j_x)]) (rest := []) ⟨hx, hb, hml, hown, hts⟩ (c_meterOf l G cy L F o qa Mm Dd Sl Pp Kr Bk Xx hR j_x hj_x) (cwV 1 hts gX8_reckon_X8_meterOf rfl rfl rfl (by decide +kernel) ⟨Nat.le_of_ble_eq_true rfl, Nat.le_of_ble_eq_true rfl⟩) (preV_of okP (⟨hP, hK, hD.top⟩) (pl_recv hK hP (ci := 7) rfl hmo hFo)) rfl rfl hl.1 rfl (lv_room (Nat.le_of_ble_eq_true rfl)) dX8_reckon_2 ⟨Nat.le_of_ble_eq_true rfl, Nat.le_of_ble_eq_true rfl⟩) (fun r19 hr19 => ?_)
        subst hr19
        refine W.eq (g2 := F0 m 5 ls [.ref (qa 0 j_x)]) rfl ?_
        refine lv_astore (lv' := [(5, .ref (qa 0 j_x)), (0, .ref o), (1, .int 3), (2, .int (nI j_x)), (3, .int (nI j_y)), (4, .int into)]) hx hb dX8_reckon_5 hl (by decide) rfl (fun ls hl => ?_)
        refine lv_aload_n hx hb dX8_reckon_7 rfl (lv_at hl 1 rfl) ?_
        refine lv_iload_n hx hb dX8_reckon_8 rfl (lv_at hl 4 rfl) ?_
        refine va_csq (W.runV (As := [.int (nI j_y)]) (rest := []) ⟨hx, hb, hml, hown, hts⟩ (c_meterOf l G cy L F o qa Mm Dd Sl Pp Kr Bk Xx hR j_y hj_y) (cwV 1 hts gX8_reckon_X8_meterOf rfl rfl rfl (by decide +kernel) ⟨Nat.le_of_ble_eq_true rfl, Nat.le_of_ble_eq_true rfl⟩) (preV_of okP (⟨hP, hK, hD.top⟩) (pl_recv hK hP (ci := 7) rfl hmo hFo)) rfl rfl hl.1 rfl (lv_room (Nat.le_of_ble_eq_true rfl)) dX8_reckon_9 ⟨Nat.le_of_ble_eq_true rfl, Nat.le_of_ble_eq_true rfl⟩) (fun r20 hr20 => ?_)
        subst hr20
        refine W.eq (g2 := F0 m 12 ls [.ref (qa 0 j_y)]) rfl ?_
        refine lv_astore (lv' := [(6, .ref (qa 0 j_y)), (5, .ref (qa 0 j_x)), (0, .ref o), (1, .int 3), (2, .int (nI j_x)), (3, .int (nI j_y)), (4, .int into)]) hx hb dX8_reckon_12 hl (by decide) rfl (fun ls hl => ?_)
        refine lv_aload_n hx hb dX8_reckon_14 rfl (lv_at hl 2 rfl) ?_
        refine lv_iload hx hb dX8_reckon_15 (lv_at hl 6 rfl) ?_
        refine va_csq (W.runV (As := [.int into]) (rest := []) ⟨hx, hb, hml, hown, hts⟩ (c_meterOf_no l G cy L F o qa Mm Dd Sl Pp Kr Bk Xx hR into hi_into) (cwV 1 hts gX8_reckon_X8_meterOf rfl rfl rfl (by decide +kernel) ⟨Nat.le_of_ble_eq_true rfl, Nat.le_of_ble_eq_true rfl⟩) (preV_of okP (⟨hP, hK, hD.top⟩) (pl_recv hK hP (ci := 7) rfl hmo hFo)) rfl rfl hl.1 rfl (lv_room (Nat.le_of_ble_eq_true rfl)) dX8_reckon_17 ⟨Nat.le_of_ble_eq_true rfl, Nat.le_of_ble_eq_true rfl⟩) (fun r21 hr21 => ?_)
        subst hr21
        refine W.eq (g2 := F0 m 20 ls [.null]) rfl ?_
        refine lv_astoreN (lv' := [(7, .null), (6, .ref (qa 0 j_y)), (5, .ref (qa 0 j_x)), (0, .ref o), (1, .int 3), (2, .int (nI j_x)), (3, .int (nI j_y)), (4, .int into)]) hx hb dX8_reckon_20 hl (by decide) rfl (fun ls hl => ?_)
        refine lv_aload hx hb dX8_reckon_22 (lv_at hl 2 rfl) ?_
        refine lv_ifnull hx hb dX8_reckon_24 ?_
        refine lv_aload hx hb dX8_reckon_27 (lv_at hl 1 rfl) ?_
        refine lv_ifnull hx hb dX8_reckon_29 ?_
        refine lv_aloadN hx hb dX8_reckon_32 (lv_at hl 0 rfl) ?_
        refine lv_ifnonnullN hx hb dX8_reckon_34 ?_
        refine lv_sipush (v := -1001) hx hb dX8_reckon_37 (by decide) ?_
        exact W.iret (v := -1001) hx hb hr (fun t ht hW => ⟨⟨-1001, F, rfl, (by have hsp : sp_reckon Mm Xx 3 (nI j_x) (nI j_y) into = (-1001, Mm, Xx) := (by unfold sp_reckon; rw [hi_x, hi_y, hi_into]); rw [hsp]; exact ⟨rfl, hR⟩), (by show va_P _ _ _ t.heap; rw [ht]; exact hP)⟩, hS.F ht⟩) hS.2.2 dX8_reckon_40
      · subst ei_into
        obtain ⟨hmm_into, nm_into, rl_into, hFm_into, hok_into⟩ := hRM j_into hj_into
        refine lv_aload_n hx hb dX8_reckon_0 rfl (lv_at hl 0 rfl) ?_
        refine lv_iload_n hx hb dX8_reckon_1 rfl (lv_at hl 2 rfl) ?_
        refine va_csq (W.runV (As := [.int (nI j_x)]) (rest := []) ⟨hx, hb, hml, hown, hts⟩ (c_meterOf l G cy L F o qa Mm Dd Sl Pp Kr Bk Xx hR j_x hj_x) (cwV 1 hts gX8_reckon_X8_meterOf rfl rfl rfl (by decide +kernel) ⟨Nat.le_of_ble_eq_true rfl, Nat.le_of_ble_eq_true rfl⟩) (preV_of okP (⟨hP, hK, hD.top⟩) (pl_recv hK hP (ci := 7) rfl hmo hFo)) rfl rfl hl.1 rfl (lv_room (Nat.le_of_ble_eq_true rfl)) dX8_reckon_2 ⟨Nat.le_of_ble_eq_true rfl, Nat.le_of_ble_eq_true rfl⟩) (fun r22 hr22 => ?_)
        subst hr22
        refine W.eq (g2 := F0 m 5 ls [.ref (qa 0 j_x)]) rfl ?_
        refine lv_astore (lv' := [(5, .ref (qa 0 j_x)), (0, .ref o), (1, .int 3), (2, .int (nI j_x)), (3, .int (nI j_y)), (4, .int (nI j_into))]) hx hb dX8_reckon_5 hl (by decide) rfl (fun ls hl => ?_)
        refine lv_aload_n hx hb dX8_reckon_7 rfl (lv_at hl 1 rfl) ?_
        refine lv_iload_n hx hb dX8_reckon_8 rfl (lv_at hl 4 rfl) ?_
        refine va_csq (W.runV (As := [.int (nI j_y)]) (rest := []) ⟨hx, hb, hml, hown, hts⟩ (c_meterOf l G cy L F o qa Mm Dd Sl Pp Kr Bk Xx hR j_y hj_y) (cwV 1 hts gX8_reckon_X8_meterOf rfl rfl rfl (by decide +kernel) ⟨Nat.le_of_ble_eq_true rfl, Nat.le_of_ble_eq_true rfl⟩) (preV_of okP (⟨hP, hK, hD.top⟩) (pl_recv hK hP (ci := 7) rfl hmo hFo)) rfl rfl hl.1 rfl (lv_room (Nat.le_of_ble_eq_true rfl)) dX8_reckon_9 ⟨Nat.le_of_ble_eq_true rfl, Nat.le_of_ble_eq_true rfl⟩) (fun r23 hr23 => ?_)
        subst hr23
        refine W.eq (g2 := F0 m 12 ls [.ref (qa 0 j_y)]) rfl ?_
        refine lv_astore (lv' := [(6, .ref (qa 0 j_y)), (5, .ref (qa 0 j_x)), (0, .ref o), (1, .int 3), (2, .int (nI j_x)), (3, .int (nI j_y)), (4, .int (nI j_into))]) hx hb dX8_reckon_12 hl (by decide) rfl (fun ls hl => ?_)
        refine lv_aload_n hx hb dX8_reckon_14 rfl (lv_at hl 2 rfl) ?_
        refine lv_iload hx hb dX8_reckon_15 (lv_at hl 6 rfl) ?_
        refine va_csq (W.runV (As := [.int (nI j_into)]) (rest := []) ⟨hx, hb, hml, hown, hts⟩ (c_meterOf l G cy L F o qa Mm Dd Sl Pp Kr Bk Xx hR j_into hj_into) (cwV 1 hts gX8_reckon_X8_meterOf rfl rfl rfl (by decide +kernel) ⟨Nat.le_of_ble_eq_true rfl, Nat.le_of_ble_eq_true rfl⟩) (preV_of okP (⟨hP, hK, hD.top⟩) (pl_recv hK hP (ci := 7) rfl hmo hFo)) rfl rfl hl.1 rfl (lv_room (Nat.le_of_ble_eq_true rfl)) dX8_reckon_17 ⟨Nat.le_of_ble_eq_true rfl, Nat.le_of_ble_eq_true rfl⟩) (fun r24 hr24 => ?_)
        subst hr24
        refine W.eq (g2 := F0 m 20 ls [.ref (qa 0 j_into)]) rfl ?_
        refine lv_astore (lv' := [(7, .ref (qa 0 j_into)), (6, .ref (qa 0 j_y)), (5, .ref (qa 0 j_x)), (0, .ref o), (1, .int 3), (2, .int (nI j_x)), (3, .int (nI j_y)), (4, .int (nI j_into))]) hx hb dX8_reckon_20 hl (by decide) rfl (fun ls hl => ?_)
        refine lv_aload hx hb dX8_reckon_22 (lv_at hl 2 rfl) ?_
        refine lv_ifnull hx hb dX8_reckon_24 ?_
        refine lv_aload hx hb dX8_reckon_27 (lv_at hl 1 rfl) ?_
        refine lv_ifnull hx hb dX8_reckon_29 ?_
        refine lv_aload hx hb dX8_reckon_32 (lv_at hl 0 rfl) ?_
        refine lv_ifnonnull (tgt := 41) hx hb dX8_reckon_34 (by decide) ?_
        refine lv_iload_n hx hb dX8_reckon_41 rfl (lv_at hl 4 rfl) ?_
        refine lv_if_lt (tgt := 50) hx hb dX8_reckon_42 (by decide) (fun c25 => absurd c25 (by decide)) (fun c25 => ?_)
        refine lv_iload_n hx hb dX8_reckon_45 rfl (lv_at hl 4 rfl) ?_
        refine lv_iconst (v := 4) hx hb dX8_reckon_46 (by decide) ?_
        refine lv_icmp_le (tgt := 54) hx hb dX8_reckon_47 (by decide) (fun c26 => ?_) (fun c26 => absurd (by decide) c26)
        refine lv_aload hx hb dX8_reckon_54 (lv_at hl 2 rfl) ?_
        refine pg_get (ci := 4) (C := RX4) (T := TX4) (N := 3) hx hb hts hinX4 hown hK hP hmm_x hFm_x rfl 0 (by decide) (hts (.fieldLink RX8 103 "RopeDrums$Meter" "lane" "I") (by decide +kernel)) (fun _ h9 => h9) rfl dX8_reckon_56 ?_
        refine lv_aload hx hb dX8_reckon_59 (lv_at hl 1 rfl) ?_
        refine pg_get (ci := 4) (C := RX4) (T := TX4) (N := 3) hx hb hts hinX4 hown hK hP hmm_y hFm_y rfl 0 (by decide) (hts (.fieldLink RX8 103 "RopeDrums$Meter" "lane" "I") (by decide +kernel)) (fun _ h9 => h9) rfl dX8_reckon_61 ?_
        refine va_mmax hx hb (by rw [hml]; exact hl.1.symm) hown (hts (.methodLink RX8 117 Lib.Math.max.name) (by decide +kernel)) (hts (.static Lib.Math.max.name) (by decide +kernel)) (hts (.initialized "java/lang/Math") (by decide +kernel)) (hts (.code Lib.Math.max.name Lib.Math.max.code 2 (some .int)) (by decide +kernel)) (Nat.le_of_ble_eq_true rfl) (Nat.le_of_ble_eq_true rfl) (Nat.zero_le _) (Nat.zero_le _) dX8_reckon_64 ?_
        refine lv_topi (fun v27 ev27 => ?_)
        rw [mx_eq] at ev27
        subst ev27
        have hmx := mx_v hok_x.lane hok_y.lane
        refine lv_istore (lv' := [(8, .int (mx (Mm.1 j_x) (Mm.1 j_y))), (7, .ref (qa 0 j_into)), (6, .ref (qa 0 j_y)), (5, .ref (qa 0 j_x)), (0, .ref o), (1, .int 3), (2, .int (nI j_x)), (3, .int (nI j_y)), (4, .int (nI j_into))]) hx hb dX8_reckon_67 hl (by decide) rfl (fun ls hl => ?_)
        refine lv_iload hx hb dX8_reckon_69 (lv_at hl 0 rfl) ?_
        refine lv_iconst (v := 1) hx hb dX8_reckon_71 (by decide) ?_
        refine lv_icmp_gt (tgt := 95) hx hb dX8_reckon_72 (by decide) (fun c28 => ?_) (fun c28 => ?_)
        · rcases (hmx.2 c28).1 with hmxl | hmxl
          · refine lv_iload_n hx hb dX8_reckon_95 rfl (lv_at hl 5 rfl) ?_
            refine lv_aload hx hb dX8_reckon_96 (lv_at hl 3 rfl) ?_
            refine lv_iload hx hb dX8_reckon_98 (lv_at hl 0 rfl) ?_
            refine vp_callSd (W.runV (As := [.int (mx (Mm.1 j_x) (Mm.1 j_y))]) (rest := [.int 3]) ⟨hx, hb, hml, hown, hts⟩ (c_asReal l G cy L F (qa 0 j_x) (Mm.1 j_x) nm_x rl_x hmm_x hFm_x (mx (Mm.1 j_x) (Mm.1 j_y)) hok_x.ne) (cwV 1 hts gX8_reckon_X4_asReal rfl rfl rfl (by decide +kernel) ⟨Nat.le_of_ble_eq_true rfl, Nat.le_of_ble_eq_true rfl⟩) (preV_of okP (⟨hP, hK, hD.top⟩) (pl_recv hK hP (ci := 4) rfl hmm_x hFm_x)) rfl rfl hl.1 rfl (lv_room (Nat.le_of_ble_eq_true rfl)) dX8_reckon_100 ⟨Nat.le_of_ble_eq_true rfl, Nat.le_of_ble_eq_true rfl⟩) (fun r29 hr29 => ?_)
            refine lv_aload hx hb dX8_reckon_103 (lv_at hl 2 rfl) ?_
            refine lv_iload hx hb dX8_reckon_105 (lv_at hl 0 rfl) ?_
            refine vp_callSd (W.runV (As := [.int (mx (Mm.1 j_x) (Mm.1 j_y))]) (rest := [.double r29, .int 3]) ⟨hx, hb, hml, hown, hts⟩ (c_asReal l G cy L F (qa 0 j_y) (Mm.1 j_y) nm_y rl_y hmm_y hFm_y (mx (Mm.1 j_x) (Mm.1 j_y)) hok_y.ne) (cwV 1 hts gX8_reckon_X4_asReal rfl rfl rfl (by decide +kernel) ⟨Nat.le_of_ble_eq_true rfl, Nat.le_of_ble_eq_true rfl⟩) (preV_of okP (⟨hP, hK, hD.top⟩) (pl_recv hK hP (ci := 4) rfl hmm_y hFm_y)) rfl rfl hl.1 rfl (lv_room (Nat.le_of_ble_eq_true rfl)) dX8_reckon_107 ⟨Nat.le_of_ble_eq_true rfl, Nat.le_of_ble_eq_true rfl⟩) (fun r30 hr30 => ?_)
            refine vp_callSi (W.runS (As := [.int 3, .double r29, .double r30]) (rest := []) ⟨hx, hb, hml, hown, hts⟩ (c_isVoid_3 l r29 r30) (va_cwS 3 hts gX8_reckon_X8_isVoid rfl rfl rfl (by decide +kernel) ⟨Nat.le_of_ble_eq_true rfl, Nat.le_of_ble_eq_true rfl⟩) (preS_of okT (trivial)) rfl rfl hl.1 rfl (lv_room (Nat.le_of_ble_eq_true rfl)) dX8_reckon_110 ⟨Nat.le_of_ble_eq_true rfl, Nat.le_of_ble_eq_true rfl⟩) (fun r31 hr31 => ?_)
            rw [hr29, hr30, hmxl, (real_2 hok_x).1, (real_2 hok_y).1, vf3 (real_2 hok_x).2.1 (real_2 hok_y).2.1] at hr31
            refine lv_if_eq (tgt := 122) hx hb dX8_reckon_113 (by decide) (fun c32 => ?_) (fun c32 => ?_)
            · have hnan : FP.Core.fIsNaN (rkF 3 (fl (tn (Mm.1 j_x) (Mm.2 j_x) 2)) (fl (tn (Mm.1 j_y) (Mm.2 j_y) 2))) = false := by have hc := c32; rw [hr31] at hc; exact Bool.eq_false_iff.mpr (fun q => absurd ((if_pos (t := (1 : Int32)) (e := 0) q).symm.trans hc) (by decide))
              refine lv_iload hx hb dX8_reckon_122 (lv_at hl 0 rfl) ?_
              refine lv_iconst (v := 2) hx hb dX8_reckon_124 (by decide) ?_
              refine lv_icmp_ne (tgt := 146) hx hb dX8_reckon_125 (by decide) (fun c33 => absurd (hmxl) c33) (fun c33 => ?_)
              refine lv_iload_n hx hb dX8_reckon_128 rfl (lv_at hl 5 rfl) ?_
              refine lv_aload hx hb dX8_reckon_129 (lv_at hl 3 rfl) ?_
              refine vp_callSf (W.runV (As := []) (rest := [.int 3]) ⟨hx, hb, hml, hown, hts⟩ (c_asFloat l G cy L F (qa 0 j_x) (Mm.1 j_x) nm_x rl_x hmm_x hFm_x  hok_x.ne) (cwV 0 hts gX8_reckon_X4_asFloat rfl rfl rfl (by decide +kernel) ⟨Nat.le_of_ble_eq_true rfl, Nat.le_of_ble_eq_true rfl⟩) (preV_of okP (⟨hP, hK, hD.top⟩) (pl_recv hK hP (ci := 4) rfl hmm_x hFm_x)) rfl rfl hl.1 rfl (lv_room (Nat.le_of_ble_eq_true rfl)) dX8_reckon_131 ⟨Nat.le_of_ble_eq_true rfl, Nat.le_of_ble_eq_true rfl⟩) (fun r34 hr34 => ?_)
              refine lv_aload hx hb dX8_reckon_134 (lv_at hl 2 rfl) ?_
              refine vp_callSf (W.runV (As := []) (rest := [.float r34, .int 3]) ⟨hx, hb, hml, hown, hts⟩ (c_asFloat l G cy L F (qa 0 j_y) (Mm.1 j_y) nm_y rl_y hmm_y hFm_y  hok_y.ne) (cwV 0 hts gX8_reckon_X4_asFloat rfl rfl rfl (by decide +kernel) ⟨Nat.le_of_ble_eq_true rfl, Nat.le_of_ble_eq_true rfl⟩) (preV_of okP (⟨hP, hK, hD.top⟩) (pl_recv hK hP (ci := 4) rfl hmm_y hFm_y)) rfl rfl hl.1 rfl (lv_room (Nat.le_of_ble_eq_true rfl)) dX8_reckon_136 ⟨Nat.le_of_ble_eq_true rfl, Nat.le_of_ble_eq_true rfl⟩) (fun r35 hr35 => ?_)
              refine vp_callSf (W.runS (As := [.int 3, .float r34, .float r35]) (rest := []) ⟨hx, hb, hml, hown, hts⟩ (c_makeFloat_3 l ad r34 r35 (by rw [hr34]; exact asFloat_ok hok_x.ne) (by rw [hr35]; exact asFloat_ok hok_y.ne) (by rw [hr34, hr35, (real_2 hok_x).2.2, (real_2 hok_y).2.2]; exact hnan)) (va_cwS 3 hts gX8_reckon_X8_makeFloat rfl rfl rfl (by decide +kernel) ⟨Nat.le_of_ble_eq_true rfl, Nat.le_of_ble_eq_true rfl⟩) (preS_of okE (pE.low hE hN hS)) rfl rfl hl.1 rfl (lv_room (Nat.le_of_ble_eq_true rfl)) dX8_reckon_139 ⟨Nat.le_of_ble_eq_true rfl, Nat.le_of_ble_eq_true rfl⟩) (fun r36 hr36 => ?_)
              rw [hr34, hr35, (real_2 hok_x).2.2, (real_2 hok_y).2.2] at hr36
              refine lv_f2d hx hb dX8_reckon_142 (n64.mpr (f2d_ok (by rw [hr36]; exact (FP.Core.notNaN_iff32 _).mp hnan)).2) ?_
              refine lv_topd (fun v37 ev37 => ?_)
              refine lv_goto (tgt := 160) hx hb dX8_reckon_143 (by decide) ?_
              refine lv_dstore (lv' := [(9, .double v37), (8, .int (mx (Mm.1 j_x) (Mm.1 j_y))), (7, .ref (qa 0 j_into)), (6, .ref (qa 0 j_y)), (5, .ref (qa 0 j_x)), (0, .ref o), (1, .int 3), (2, .int (nI j_x)), (3, .int (nI j_y)), (4, .int (nI j_into))]) hx hb dX8_reckon_160 hl (by decide) rfl (fun ls hl => ?_)
              refine lv_aload hx hb dX8_reckon_162 (lv_at hl 2 rfl) ?_
              refine lv_iload hx hb dX8_reckon_164 (lv_at hl 1 rfl) ?_
              refine lv_dload hx hb dX8_reckon_166 (lv_at hl 0 rfl) ?_
              refine va_callv (va_runV (As := [.int (mx (Mm.1 j_x) (Mm.1 j_y)), .double v37]) (rest := []) ⟨hx, hb, hml, hown, hts⟩ (c_holdReal l G cy L F s.heap.size (qa 0 j_into) (Mm.1 j_into) nm_into rl_into hmm_into hFm_into (mx (Mm.1 j_x) (Mm.1 j_y)) v37) (cwV 2 hts gX8_reckon_X4_holdReal rfl rfl rfl (by decide +kernel) ⟨Nat.le_of_ble_eq_true rfl, Nat.le_of_ble_eq_true rfl⟩) (preV_of okQ (⟨rfl, hP, hK, hD.top⟩) (pl_recv hK hP (ci := 4) rfl hmm_into hFm_into)) rfl rfl hl.1 rfl (lv_room (Nat.le_of_ble_eq_true rfl)) dX8_reckon_168 ⟨Nat.le_of_ble_eq_true rfl, Nat.le_of_ble_eq_true rfl⟩) hS (fun q _ h => pl_free hD hS hA q h) (pl_free hD hS hA) (fun F38 t H1 locs ht hvm hw hP1 hz1 hk1 hS => ?_)
              have hP1 : va_P G vwCl (va_pl L F38) t.heap := hP1
              rw [ht] at hP1
              have hP := hP1
              generalize H1 = H at hP hS ⊢
              have eF38 : F38 = va_up F (qa 0 j_into) (.inr (4, [.int (mx (Mm.1 j_x) (Mm.1 j_y)), .long nm_into, .double v37])) := hw
              have hFo_38 : F38 o = .inr (7, [.ref (qa 8 0), .ref (qa 8 1), .ref (qa 8 2), .ref (qa 8 3), .ref (qa 8 4), .ref (qa 8 5), .ref (qa 8 6), .int Pp.1, .int Xx.1]) := by rw [eF38, va_up_ne _ _ (pl_ne hFo hFm_into rfl)]; exact hFo
              have hFqa80_38 : F38 (qa 8 0) = cQ (cy 7) 10 (pR 10 (qa 0)) := by rw [eF38, va_up_ne _ _ (pl_ne hF0 hFm_into rfl)]; exact hF0
              have hFqa81_38 : F38 (qa 8 1) = cQ (cy 5) 6 (pR 6 (qa 1)) := by rw [eF38, va_up_ne _ _ (pl_ne hF1 hFm_into rfl)]; exact hF1
              have hFqa82_38 : F38 (qa 8 2) = cQ (cy 6) 8 (pR 8 (qa 2)) := by rw [eF38, va_up_ne _ _ (pl_ne hF2 hFm_into rfl)]; exact hF2
              have hFqa83_38 : F38 (qa 8 3) = cQ (cy 9) 30 (pR Pp.1.toInt.toNat (qa 7)) := by rw [eF38, va_up_ne _ _ (pl_ne hFs hFm_into rfl)]; exact hFs
              have hFqa84_38 : F38 (qa 8 4) = cQ (cy 8) 5 (pR 5 (qa 4)) := by rw [eF38, va_up_ne _ _ (pl_ne hF4 hFm_into rfl)]; exact hF4
              have hFqa85_38 : F38 (qa 8 5) = cQ (cy 4) 4 (pR 4 (qa 6)) := by rw [eF38, va_up_ne _ _ (pl_ne hF5 hFm_into rfl)]; exact hF5
              have hFqa86_38 : F38 (qa 8 6) = cI (cy 1) 6 Xx.2 := by rw [eF38, va_up_ne _ _ (pl_ne hFf hFm_into rfl)]; exact hFf
              have hFqa0j_into_38 : F38 (qa 0 j_into) = .inr (4, [.int (mx (Mm.1 j_x) (Mm.1 j_y)), .long nm_into, .double v37]) := by rw [eF38]; exact va_up_self _ _ _
              have hR39 : Rep cy L o qa (setM Mm j_into 2 (rkF 3 (fl (tn (Mm.1 j_x) (Mm.2 j_x) 2)) (fl (tn (Mm.1 j_y) (Mm.2 j_y) 2))).toInt32.toInt64) Dd Sl Pp Kr Bk Xx F38 := by rw [eF38, ev37, hr36, hmxl]; exact hR.meter hj_into (real_okM2 ((FP.Core.notNaN_iff32 _).mp hnan))
              refine lv_aload_n hx hb dX8_reckon_171 rfl (lv_at hl 5 rfl) ?_
              refine lv_iload hx hb dX8_reckon_172 (lv_at hl 1 rfl) ?_
              refine va_calli (va_runV (As := [.int (mx (Mm.1 j_x) (Mm.1 j_y))]) (rest := []) ⟨hx, hb, hml, hown, hts⟩ (c_succeed l G cy L F38 H.size o qa (setM Mm j_into 2 (rkF 3 (fl (tn (Mm.1 j_x) (Mm.2 j_x) 2)) (fl (tn (Mm.1 j_y) (Mm.2 j_y) 2))).toInt32.toInt64) Dd Sl Pp Kr Bk Xx hR39 (mx (Mm.1 j_x) (Mm.1 j_y))) (cwV 1 hts gX8_reckon_X8_succeed rfl rfl rfl (by decide +kernel) ⟨Nat.le_of_ble_eq_true rfl, Nat.le_of_ble_eq_true rfl⟩) (preV_of okQ (⟨rfl, hP, hK, hD.top⟩) (pl_recv hK hP (ci := 7) rfl hmo hFo_38)) rfl rfl hl.1 rfl (lv_room (Nat.le_of_ble_eq_true rfl)) dX8_reckon_174 ⟨Nat.le_of_ble_eq_true rfl, Nat.le_of_ble_eq_true rfl⟩) hS (fun q _ h => pl_free hD hS hA q h) (pl_free hD hS hA) (fun r41 F40 t H1 locs ht hvm hw hP1 hz1 hk1 hS => ?_)
              have hP1 : va_P G vwCl (va_pl L F40) t.heap := hP1
              rw [ht] at hP1
              have hP := hP1
              generalize H1 = H at hP hS ⊢
              obtain ⟨hqr41, hR42⟩ := hw
              exact W.iret (v := r41) hx hb hr (fun t ht hW => ⟨⟨r41, F40, rfl, (by have hsp : sp_reckon Mm Xx 3 (nI j_x) (nI j_y) (nI j_into) = (2, setM Mm j_into 2 (rkF 3 (fl (tn (Mm.1 j_x) (Mm.2 j_x) 2)) (fl (tn (Mm.1 j_y) (Mm.2 j_y) 2))).toInt32.toInt64, goodX Xx) := (by unfold sp_reckon; rw [hi_x, hi_y, hi_into, ixk.2.2.2.1]; show rk Mm Xx 3 j_x j_y j_into = _; unfold rk; rw [if_neg (hmx.2 c28).2, if_pos hmxl]; exact if_neg (by rw [hnan]; decide)); rw [hsp]; exact ⟨(by rw [hqr41]; exact hmxl), hR42⟩), (by show va_P _ _ _ t.heap; rw [ht]; exact hP)⟩, hS.F ht⟩) hS.2.2 dX8_reckon_177
            · have hnan : FP.Core.fIsNaN (rkF 3 (fl (tn (Mm.1 j_x) (Mm.2 j_x) 2)) (fl (tn (Mm.1 j_y) (Mm.2 j_y) 2))) = true := Decidable.byContradiction (fun q => c32 (by rw [hr31]; exact if_neg q))
              refine lv_aload_n hx hb dX8_reckon_116 rfl (lv_at hl 4 rfl) ?_
              refine lv_iconst (v := 5) hx hb dX8_reckon_117 (by decide) ?_
              refine va_calli (va_runV (As := [.int 5]) (rest := []) ⟨hx, hb, hml, hown, hts⟩ (c_fail_5 l G cy L F s.heap.size o qa Mm Dd Sl Pp Kr Bk Xx hR) (cwV 1 hts gX8_reckon_X8_fail rfl rfl rfl (by decide +kernel) ⟨Nat.le_of_ble_eq_true rfl, Nat.le_of_ble_eq_true rfl⟩) (preV_of okQ (⟨rfl, hP, hK, hD.top⟩) (pl_recv hK hP (ci := 7) rfl hmo hFo)) rfl rfl hl.1 rfl (lv_room (Nat.le_of_ble_eq_true rfl)) dX8_reckon_118 ⟨Nat.le_of_ble_eq_true rfl, Nat.le_of_ble_eq_true rfl⟩) hS (fun q _ h => pl_free hD hS hA q h) (pl_free hD hS hA) (fun r44 F43 t H1 locs ht hvm hw hP1 hz1 hk1 hS => ?_)
              have hP1 : va_P G vwCl (va_pl L F43) t.heap := hP1
              rw [ht] at hP1
              have hP := hP1
              generalize H1 = H at hP hS ⊢
              obtain ⟨hqr44, hR45⟩ := hw
              exact W.iret (v := r44) hx hb hr (fun t ht hW => ⟨⟨r44, F43, rfl, (by have hsp : sp_reckon Mm Xx 3 (nI j_x) (nI j_y) (nI j_into) = (-15, Mm, failX Xx 5) := (by unfold sp_reckon; rw [hi_x, hi_y, hi_into, ixk.2.2.2.1]; show rk Mm Xx 3 j_x j_y j_into = _; unfold rk; rw [if_neg (hmx.2 c28).2, if_pos hmxl]; exact if_pos hnan); rw [hsp]; exact ⟨hqr44, hR45⟩), (by show va_P _ _ _ t.heap; rw [ht]; exact hP)⟩, hS.F ht⟩) hS.2.2 dX8_reckon_121
          · refine lv_iload_n hx hb dX8_reckon_95 rfl (lv_at hl 5 rfl) ?_
            refine lv_aload hx hb dX8_reckon_96 (lv_at hl 3 rfl) ?_
            refine lv_iload hx hb dX8_reckon_98 (lv_at hl 0 rfl) ?_
            refine vp_callSd (W.runV (As := [.int (mx (Mm.1 j_x) (Mm.1 j_y))]) (rest := [.int 3]) ⟨hx, hb, hml, hown, hts⟩ (c_asReal l G cy L F (qa 0 j_x) (Mm.1 j_x) nm_x rl_x hmm_x hFm_x (mx (Mm.1 j_x) (Mm.1 j_y)) hok_x.ne) (cwV 1 hts gX8_reckon_X4_asReal rfl rfl rfl (by decide +kernel) ⟨Nat.le_of_ble_eq_true rfl, Nat.le_of_ble_eq_true rfl⟩) (preV_of okP (⟨hP, hK, hD.top⟩) (pl_recv hK hP (ci := 4) rfl hmm_x hFm_x)) rfl rfl hl.1 rfl (lv_room (Nat.le_of_ble_eq_true rfl)) dX8_reckon_100 ⟨Nat.le_of_ble_eq_true rfl, Nat.le_of_ble_eq_true rfl⟩) (fun r46 hr46 => ?_)
            refine lv_aload hx hb dX8_reckon_103 (lv_at hl 2 rfl) ?_
            refine lv_iload hx hb dX8_reckon_105 (lv_at hl 0 rfl) ?_
            refine vp_callSd (W.runV (As := [.int (mx (Mm.1 j_x) (Mm.1 j_y))]) (rest := [.double r46, .int 3]) ⟨hx, hb, hml, hown, hts⟩ (c_asReal l G cy L F (qa 0 j_y) (Mm.1 j_y) nm_y rl_y hmm_y hFm_y (mx (Mm.1 j_x) (Mm.1 j_y)) hok_y.ne) (cwV 1 hts gX8_reckon_X4_asReal rfl rfl rfl (by decide +kernel) ⟨Nat.le_of_ble_eq_true rfl, Nat.le_of_ble_eq_true rfl⟩) (preV_of okP (⟨hP, hK, hD.top⟩) (pl_recv hK hP (ci := 4) rfl hmm_y hFm_y)) rfl rfl hl.1 rfl (lv_room (Nat.le_of_ble_eq_true rfl)) dX8_reckon_107 ⟨Nat.le_of_ble_eq_true rfl, Nat.le_of_ble_eq_true rfl⟩) (fun r47 hr47 => ?_)
            refine vp_callSi (W.runS (As := [.int 3, .double r46, .double r47]) (rest := []) ⟨hx, hb, hml, hown, hts⟩ (c_isVoid_3 l r46 r47) (va_cwS 3 hts gX8_reckon_X8_isVoid rfl rfl rfl (by decide +kernel) ⟨Nat.le_of_ble_eq_true rfl, Nat.le_of_ble_eq_true rfl⟩) (preS_of okT (trivial)) rfl rfl hl.1 rfl (lv_room (Nat.le_of_ble_eq_true rfl)) dX8_reckon_110 ⟨Nat.le_of_ble_eq_true rfl, Nat.le_of_ble_eq_true rfl⟩) (fun r48 hr48 => ?_)
            rw [hr46, hr47, hmxl, (real_3 hok_x).1, (real_3 hok_y).1, void3 (real_3 hok_x).2.1 (real_3 hok_y).2.1] at hr48
            refine lv_if_eq (tgt := 122) hx hb dX8_reckon_113 (by decide) (fun c49 => ?_) (fun c49 => ?_)
            · have hnan : FP.Core.dIsNaN (rkD 3 (db (tn (Mm.1 j_x) (Mm.2 j_x) 3)) (db (tn (Mm.1 j_y) (Mm.2 j_y) 3))) = false := by have hc := c49; rw [hr48] at hc; exact Bool.eq_false_iff.mpr (fun q => absurd ((if_pos (t := (1 : Int32)) (e := 0) q).symm.trans hc) (by decide))
              refine lv_iload hx hb dX8_reckon_122 (lv_at hl 0 rfl) ?_
              refine lv_iconst (v := 2) hx hb dX8_reckon_124 (by decide) ?_
              refine lv_icmp_ne (tgt := 146) hx hb dX8_reckon_125 (by decide) (fun c50 => ?_) (fun c50 => absurd c50 (by rw [hmxl]; decide))
              refine lv_iload_n hx hb dX8_reckon_146 rfl (lv_at hl 5 rfl) ?_
              refine lv_aload hx hb dX8_reckon_147 (lv_at hl 3 rfl) ?_
              refine vp_callSd (W.runV (As := []) (rest := [.int 3]) ⟨hx, hb, hml, hown, hts⟩ (c_asDouble l G cy L F (qa 0 j_x) (Mm.1 j_x) nm_x rl_x hmm_x hFm_x ) (cwV 0 hts gX8_reckon_X4_asDouble rfl rfl rfl (by decide +kernel) ⟨Nat.le_of_ble_eq_true rfl, Nat.le_of_ble_eq_true rfl⟩) (preV_of okP (⟨hP, hK, hD.top⟩) (pl_recv hK hP (ci := 4) rfl hmm_x hFm_x)) rfl rfl hl.1 rfl (lv_room (Nat.le_of_ble_eq_true rfl)) dX8_reckon_149 ⟨Nat.le_of_ble_eq_true rfl, Nat.le_of_ble_eq_true rfl⟩) (fun r51 hr51 => ?_)
              refine lv_aload hx hb dX8_reckon_152 (lv_at hl 2 rfl) ?_
              refine vp_callSd (W.runV (As := []) (rest := [.double r51, .int 3]) ⟨hx, hb, hml, hown, hts⟩ (c_asDouble l G cy L F (qa 0 j_y) (Mm.1 j_y) nm_y rl_y hmm_y hFm_y ) (cwV 0 hts gX8_reckon_X4_asDouble rfl rfl rfl (by decide +kernel) ⟨Nat.le_of_ble_eq_true rfl, Nat.le_of_ble_eq_true rfl⟩) (preV_of okP (⟨hP, hK, hD.top⟩) (pl_recv hK hP (ci := 4) rfl hmm_y hFm_y)) rfl rfl hl.1 rfl (lv_room (Nat.le_of_ble_eq_true rfl)) dX8_reckon_154 ⟨Nat.le_of_ble_eq_true rfl, Nat.le_of_ble_eq_true rfl⟩) (fun r52 hr52 => ?_)
              refine vp_callSd (W.runS (As := [.int 3, .double r51, .double r52]) (rest := []) ⟨hx, hb, hml, hown, hts⟩ (c_makeDouble_3 l ad r51 r52 (by rw [hr51]; exact asDouble_ok hok_x.ne) (by rw [hr52]; exact asDouble_ok hok_y.ne) (by rw [hr51, hr52, (real_3 hok_x).2.2, (real_3 hok_y).2.2]; exact hnan)) (va_cwS 3 hts gX8_reckon_X8_makeDouble rfl rfl rfl (by decide +kernel) ⟨Nat.le_of_ble_eq_true rfl, Nat.le_of_ble_eq_true rfl⟩) (preS_of okE (pE.low hE hN hS)) rfl rfl hl.1 rfl (lv_room (Nat.le_of_ble_eq_true rfl)) dX8_reckon_157 ⟨Nat.le_of_ble_eq_true rfl, Nat.le_of_ble_eq_true rfl⟩) (fun r53 hr53 => ?_)
              rw [hr51, hr52, (real_3 hok_x).2.2, (real_3 hok_y).2.2] at hr53
              refine lv_dstore (lv' := [(9, .double r53), (8, .int (mx (Mm.1 j_x) (Mm.1 j_y))), (7, .ref (qa 0 j_into)), (6, .ref (qa 0 j_y)), (5, .ref (qa 0 j_x)), (0, .ref o), (1, .int 3), (2, .int (nI j_x)), (3, .int (nI j_y)), (4, .int (nI j_into))]) hx hb dX8_reckon_160 hl (by decide) rfl (fun ls hl => ?_)
              refine lv_aload hx hb dX8_reckon_162 (lv_at hl 2 rfl) ?_
              refine lv_iload hx hb dX8_reckon_164 (lv_at hl 1 rfl) ?_
              refine lv_dload hx hb dX8_reckon_166 (lv_at hl 0 rfl) ?_
              refine va_callv (va_runV (As := [.int (mx (Mm.1 j_x) (Mm.1 j_y)), .double r53]) (rest := []) ⟨hx, hb, hml, hown, hts⟩ (c_holdReal l G cy L F s.heap.size (qa 0 j_into) (Mm.1 j_into) nm_into rl_into hmm_into hFm_into (mx (Mm.1 j_x) (Mm.1 j_y)) r53) (cwV 2 hts gX8_reckon_X4_holdReal rfl rfl rfl (by decide +kernel) ⟨Nat.le_of_ble_eq_true rfl, Nat.le_of_ble_eq_true rfl⟩) (preV_of okQ (⟨rfl, hP, hK, hD.top⟩) (pl_recv hK hP (ci := 4) rfl hmm_into hFm_into)) rfl rfl hl.1 rfl (lv_room (Nat.le_of_ble_eq_true rfl)) dX8_reckon_168 ⟨Nat.le_of_ble_eq_true rfl, Nat.le_of_ble_eq_true rfl⟩) hS (fun q _ h => pl_free hD hS hA q h) (pl_free hD hS hA) (fun F54 t H1 locs ht hvm hw hP1 hz1 hk1 hS => ?_)
              have hP1 : va_P G vwCl (va_pl L F54) t.heap := hP1
              rw [ht] at hP1
              have hP := hP1
              generalize H1 = H at hP hS ⊢
              have eF54 : F54 = va_up F (qa 0 j_into) (.inr (4, [.int (mx (Mm.1 j_x) (Mm.1 j_y)), .long nm_into, .double r53])) := hw
              have hFo_54 : F54 o = .inr (7, [.ref (qa 8 0), .ref (qa 8 1), .ref (qa 8 2), .ref (qa 8 3), .ref (qa 8 4), .ref (qa 8 5), .ref (qa 8 6), .int Pp.1, .int Xx.1]) := by rw [eF54, va_up_ne _ _ (pl_ne hFo hFm_into rfl)]; exact hFo
              have hFqa80_54 : F54 (qa 8 0) = cQ (cy 7) 10 (pR 10 (qa 0)) := by rw [eF54, va_up_ne _ _ (pl_ne hF0 hFm_into rfl)]; exact hF0
              have hFqa81_54 : F54 (qa 8 1) = cQ (cy 5) 6 (pR 6 (qa 1)) := by rw [eF54, va_up_ne _ _ (pl_ne hF1 hFm_into rfl)]; exact hF1
              have hFqa82_54 : F54 (qa 8 2) = cQ (cy 6) 8 (pR 8 (qa 2)) := by rw [eF54, va_up_ne _ _ (pl_ne hF2 hFm_into rfl)]; exact hF2
              have hFqa83_54 : F54 (qa 8 3) = cQ (cy 9) 30 (pR Pp.1.toInt.toNat (qa 7)) := by rw [eF54, va_up_ne _ _ (pl_ne hFs hFm_into rfl)]; exact hFs
              have hFqa84_54 : F54 (qa 8 4) = cQ (cy 8) 5 (pR 5 (qa 4)) := by rw [eF54, va_up_ne _ _ (pl_ne hF4 hFm_into rfl)]; exact hF4
              have hFqa85_54 : F54 (qa 8 5) = cQ (cy 4) 4 (pR 4 (qa 6)) := by rw [eF54, va_up_ne _ _ (pl_ne hF5 hFm_into rfl)]; exact hF5
              have hFqa86_54 : F54 (qa 8 6) = cI (cy 1) 6 Xx.2 := by rw [eF54, va_up_ne _ _ (pl_ne hFf hFm_into rfl)]; exact hFf
              have hFqa0j_into_54 : F54 (qa 0 j_into) = .inr (4, [.int (mx (Mm.1 j_x) (Mm.1 j_y)), .long nm_into, .double r53]) := by rw [eF54]; exact va_up_self _ _ _
              have hR55 : Rep cy L o qa (setM Mm j_into 3 (rkD 3 (db (tn (Mm.1 j_x) (Mm.2 j_x) 3)) (db (tn (Mm.1 j_y) (Mm.2 j_y) 3))).toInt64) Dd Sl Pp Kr Bk Xx F54 := by rw [eF54, hr53, hmxl]; exact hR.meter hj_into (real_okM3 ((FP.Core.notNaN_iff _).mp hnan))
              refine lv_aload_n hx hb dX8_reckon_171 rfl (lv_at hl 5 rfl) ?_
              refine lv_iload hx hb dX8_reckon_172 (lv_at hl 1 rfl) ?_
              refine va_calli (va_runV (As := [.int (mx (Mm.1 j_x) (Mm.1 j_y))]) (rest := []) ⟨hx, hb, hml, hown, hts⟩ (c_succeed l G cy L F54 H.size o qa (setM Mm j_into 3 (rkD 3 (db (tn (Mm.1 j_x) (Mm.2 j_x) 3)) (db (tn (Mm.1 j_y) (Mm.2 j_y) 3))).toInt64) Dd Sl Pp Kr Bk Xx hR55 (mx (Mm.1 j_x) (Mm.1 j_y))) (cwV 1 hts gX8_reckon_X8_succeed rfl rfl rfl (by decide +kernel) ⟨Nat.le_of_ble_eq_true rfl, Nat.le_of_ble_eq_true rfl⟩) (preV_of okQ (⟨rfl, hP, hK, hD.top⟩) (pl_recv hK hP (ci := 7) rfl hmo hFo_54)) rfl rfl hl.1 rfl (lv_room (Nat.le_of_ble_eq_true rfl)) dX8_reckon_174 ⟨Nat.le_of_ble_eq_true rfl, Nat.le_of_ble_eq_true rfl⟩) hS (fun q _ h => pl_free hD hS hA q h) (pl_free hD hS hA) (fun r57 F56 t H1 locs ht hvm hw hP1 hz1 hk1 hS => ?_)
              have hP1 : va_P G vwCl (va_pl L F56) t.heap := hP1
              rw [ht] at hP1
              have hP := hP1
              generalize H1 = H at hP hS ⊢
              obtain ⟨hqr57, hR58⟩ := hw
              exact W.iret (v := r57) hx hb hr (fun t ht hW => ⟨⟨r57, F56, rfl, (by have hsp : sp_reckon Mm Xx 3 (nI j_x) (nI j_y) (nI j_into) = (3, setM Mm j_into 3 (rkD 3 (db (tn (Mm.1 j_x) (Mm.2 j_x) 3)) (db (tn (Mm.1 j_y) (Mm.2 j_y) 3))).toInt64, goodX Xx) := (by unfold sp_reckon; rw [hi_x, hi_y, hi_into, ixk.2.2.2.1]; show rk Mm Xx 3 j_x j_y j_into = _; unfold rk; rw [if_neg (hmx.2 c28).2, if_neg (by rw [hmxl]; decide)]; exact if_neg (by rw [hnan]; decide)); rw [hsp]; exact ⟨(by rw [hqr57]; exact hmxl), hR58⟩), (by show va_P _ _ _ t.heap; rw [ht]; exact hP)⟩, hS.F ht⟩) hS.2.2 dX8_reckon_177
            · have hnan : FP.Core.dIsNaN (rkD 3 (db (tn (Mm.1 j_x) (Mm.2 j_x) 3)) (db (tn (Mm.1 j_y) (Mm.2 j_y) 3))) = true := Decidable.byContradiction (fun q => c49 (by rw [hr48]; exact if_neg q))
              refine lv_aload_n hx hb dX8_reckon_116 rfl (lv_at hl 4 rfl) ?_
              refine lv_iconst (v := 5) hx hb dX8_reckon_117 (by decide) ?_
              refine va_calli (va_runV (As := [.int 5]) (rest := []) ⟨hx, hb, hml, hown, hts⟩ (c_fail_5 l G cy L F s.heap.size o qa Mm Dd Sl Pp Kr Bk Xx hR) (cwV 1 hts gX8_reckon_X8_fail rfl rfl rfl (by decide +kernel) ⟨Nat.le_of_ble_eq_true rfl, Nat.le_of_ble_eq_true rfl⟩) (preV_of okQ (⟨rfl, hP, hK, hD.top⟩) (pl_recv hK hP (ci := 7) rfl hmo hFo)) rfl rfl hl.1 rfl (lv_room (Nat.le_of_ble_eq_true rfl)) dX8_reckon_118 ⟨Nat.le_of_ble_eq_true rfl, Nat.le_of_ble_eq_true rfl⟩) hS (fun q _ h => pl_free hD hS hA q h) (pl_free hD hS hA) (fun r60 F59 t H1 locs ht hvm hw hP1 hz1 hk1 hS => ?_)
              have hP1 : va_P G vwCl (va_pl L F59) t.heap := hP1
              rw [ht] at hP1
              have hP := hP1
              generalize H1 = H at hP hS ⊢
              obtain ⟨hqr60, hR61⟩ := hw
              exact W.iret (v := r60) hx hb hr (fun t ht hW => ⟨⟨r60, F59, rfl, (by have hsp : sp_reckon Mm Xx 3 (nI j_x) (nI j_y) (nI j_into) = (-15, Mm, failX Xx 5) := (by unfold sp_reckon; rw [hi_x, hi_y, hi_into, ixk.2.2.2.1]; show rk Mm Xx 3 j_x j_y j_into = _; unfold rk; rw [if_neg (hmx.2 c28).2, if_neg (by rw [hmxl]; decide)]; exact if_pos hnan); rw [hsp]; exact ⟨hqr60, hR61⟩), (by show va_P _ _ _ t.heap; rw [ht]; exact hP)⟩, hS.F ht⟩) hS.2.2 dX8_reckon_121
        · refine lv_aload_n hx hb dX8_reckon_75 rfl (lv_at hl 4 rfl) ?_
          refine lv_iload_n hx hb dX8_reckon_76 rfl (lv_at hl 5 rfl) ?_
          refine lv_iload hx hb dX8_reckon_77 (lv_at hl 0 rfl) ?_
          refine lv_aload hx hb dX8_reckon_79 (lv_at hl 3 rfl) ?_
          refine vp_callSl (W.runV (As := []) (rest := [.int (mx (Mm.1 j_x) (Mm.1 j_y)), .int 3, .ref o]) ⟨hx, hb, hml, hown, hts⟩ (c_asLong l G cy L F (qa 0 j_x) (Mm.1 j_x) nm_x rl_x hmm_x hFm_x ) (cwV 0 hts gX8_reckon_X4_asLong rfl rfl rfl (by decide +kernel) ⟨Nat.le_of_ble_eq_true rfl, Nat.le_of_ble_eq_true rfl⟩) (preV_of okP (⟨hP, hK, hD.top⟩) (pl_recv hK hP (ci := 4) rfl hmm_x hFm_x)) rfl rfl hl.1 rfl (lv_room (Nat.le_of_ble_eq_true rfl)) dX8_reckon_81 ⟨Nat.le_of_ble_eq_true rfl, Nat.le_of_ble_eq_true rfl⟩) (fun r62 hr62 => ?_)
          refine lv_aload hx hb dX8_reckon_84 (lv_at hl 2 rfl) ?_
          refine vp_callSl (W.runV (As := []) (rest := [.long r62, .int (mx (Mm.1 j_x) (Mm.1 j_y)), .int 3, .ref o]) ⟨hx, hb, hml, hown, hts⟩ (c_asLong l G cy L F (qa 0 j_y) (Mm.1 j_y) nm_y rl_y hmm_y hFm_y ) (cwV 0 hts gX8_reckon_X4_asLong rfl rfl rfl (by decide +kernel) ⟨Nat.le_of_ble_eq_true rfl, Nat.le_of_ble_eq_true rfl⟩) (preV_of okP (⟨hP, hK, hD.top⟩) (pl_recv hK hP (ci := 4) rfl hmm_y hFm_y)) rfl rfl hl.1 rfl (lv_room (Nat.le_of_ble_eq_true rfl)) dX8_reckon_86 ⟨Nat.le_of_ble_eq_true rfl, Nat.le_of_ble_eq_true rfl⟩) (fun r63 hr63 => ?_)
          refine lv_aload hx hb dX8_reckon_89 (lv_at hl 1 rfl) ?_
          refine va_calli (va_runV (As := [.int 3, .int (mx (Mm.1 j_x) (Mm.1 j_y)), .long r62, .long r63, .ref (qa 0 j_into)]) (rest := []) ⟨hx, hb, hml, hown, hts⟩ (c_rkW_3 l G cy L F s.heap.size o qa Mm Dd Sl Pp Kr Bk Xx hR (mx (Mm.1 j_x) (Mm.1 j_y)) r62 r63 j_into hj_into (hmx.1 c28).1) (cwV 5 hts gX8_reckon_X8_reckonWholes rfl rfl rfl (by decide +kernel) ⟨Nat.le_of_ble_eq_true rfl, Nat.le_of_ble_eq_true rfl⟩) (preV_of okQ (⟨rfl, hP, hK, hD.top⟩) (pl_recv hK hP (ci := 7) rfl hmo hFo)) rfl rfl hl.1 rfl (lv_room (Nat.le_of_ble_eq_true rfl)) dX8_reckon_91 ⟨Nat.le_of_ble_eq_true rfl, Nat.le_of_ble_eq_true rfl⟩) hS (fun q _ h => pl_free hD hS hA q h) (pl_free hD hS hA) (fun r65 F64 t H1 locs ht hvm hw hP1 hz1 hk1 hS => ?_)
          have hP1 : va_P G vwCl (va_pl L F64) t.heap := hP1
          rw [ht] at hP1
          have hP := hP1
          generalize H1 = H at hP hS ⊢
          obtain ⟨hqr65, hR66⟩ := hw
          exact W.iret (v := r65) hx hb hr (fun t ht hW => ⟨⟨r65, F64, rfl, (by have hsp : sp_reckon Mm Xx 3 (nI j_x) (nI j_y) (nI j_into) = rkW 3 Mm Xx (mx (Mm.1 j_x) (Mm.1 j_y)) r62 r63 j_into := (by unfold sp_reckon; rw [hi_x, hi_y, hi_into, ixk.2.2.2.1]; show rk Mm Xx 3 j_x j_y j_into = _; exact rk_eq (hmx.1 c28).2.1 (by rw [hr62]; exact (long_tn hok_x (hmx.1 c28).2.2.1 (hmx.1 c28).2.2.2).1) (by rw [hr63]; exact (long_tn hok_y (hmx.1 c28).2.2.2 (hmx.1 c28).2.2.1).2)); rw [hsp]; exact ⟨hqr65, hR66⟩), (by show va_P _ _ _ t.heap; rw [ht]; exact hP)⟩, hS.F ht⟩) hS.2.2 dX8_reckon_94

set_option maxHeartbeats 8000000 in
set_option maxRecDepth 100000 in
theorem m_reckon_4 (l : Launch) (G : va_G) (cy : Nat → ClassId) (L : List Nat) (F : Nat → va_E) (ad : Nat → Nat) (sz : Nat) (o : Nat) (qa : Nat → Nat → Nat) (Mm : SM) (Dd : SD) (Sl : SL) (Pp : SP) (Kr : SR) (Bk : SB) (Xx : SX) (hR : Rep cy L o qa Mm Dd Sl Pp Kr Bk Xx F) (x y into : Int32)  : Met l yX8_reckon wsX8_reckon ({ frames := 5, cells := 0, slots := 0, locals := 133 }) (va_Pc [.ref o, .int 4, .int x, .int y, .int into] (fun U => bQE G cy L F ad sz U U.heap)) (va_Qi (fun (r : Int32) (F' : Nat → va_E) => r = (sp_reckon Mm Xx 4 x y into).1 ∧ Rep cy L o qa (sp_reckon Mm Xx 4 x y into).2.1 Dd Sl Pp Kr Bk (sp_reckon Mm Xx 4 x y into).2.2 F') (fun F' t => va_P G vwCl (va_pl L F') t.heap) (va_A (va_pl L F) sz)) 0 0 (va_A (va_pl L F) sz) := by
  refine Met.ofW (cc := cX8_reckon) (maxL := 11) (ret := (some .int)) (by decide) rfl ?_
  intro p e s m args below meth c s₁ B hml hv
  obtain ⟨rfl, ⟨hsz, hP, hK, hD0⟩, hE, hN⟩ := hv
  have hx := B.exec
  have hb := B.bytes
  have hr := B.returns
  have hts := atoms_spec (ws := wsX8_reckon) B.pre
  have hown : s.vm.findClass RX8 = some m.cls := findClass_of_methodNamed B.named
  have hlocks := B.notSynchronized
  have hinX8 : ∀ w ∈ wsX80, w ∈ wsX8_reckon := by decide +kernel
  have hinX4 : ∀ w ∈ wsX40, w ∈ wsX8_reckon := by decide +kernel
  subst hsz
  have hD := hD0.self F s.heap.size
  generalize hAe : va_A (va_pl L F) s.heap.size = A at hD hE ⊢
  have hA : ∀ q : Nat, s.heap.size ≤ q → A q := fun q h => by rw [← hAe]; exact Or.inr h
  have hS : va_S A s.heap s.heap [] := va_S.rf
  obtain ⟨⟨⟨hmo, hFo⟩, ⟨hmf, hFf⟩, hms, hFs⟩, ⟨⟨hm0, hF0⟩, ⟨hm1, hF1⟩, ⟨hm2, hF2⟩, ⟨hm4, hF4⟩, hm5, hF5⟩, hRM, hRD, hRG, hRP, hRR, hRB, hRI⟩ := id hR
  have hl := lv_entry ([.ref o, .int 4, .int x, .int y, .int into]) (n := 11) (Nat.le_of_ble_eq_true rfl)
  rw [lg_entry_eq]
  generalize (lg_sl ([.ref o, .int 4, .int x, .int y, .int into]) ++ List.replicate (11 - (lg_sl ([.ref o, .int 4, .int x, .int y, .int into])).length) Slot.unset).toArray = ls at hl ⊢
  have hl : lv_has ls 11 [(0, .ref o), (1, .int 4), (2, .int x), (3, .int y), (4, .int into)] := hl
  rcases ixc 10 x with hi_x | ⟨j_x, hj_x, hi_x, ei_x⟩
  · rcases ixc 10 y with hi_y | ⟨j_y, hj_y, hi_y, ei_y⟩
    · rcases ixc 10 into with hi_into | ⟨j_into, hj_into, hi_into, ei_into⟩
      · refine lv_aload_n hx hb dX8_reckon_0 rfl (lv_at hl 0 rfl) ?_
        refine lv_iload_n hx hb dX8_reckon_1 rfl (lv_at hl 2 rfl) ?_
        refine va_csq (W.runV (As := [.int x]) (rest := []) ⟨hx, hb, hml, hown, hts⟩ (c_meterOf_no l G cy L F o qa Mm Dd Sl Pp Kr Bk Xx hR x hi_x) (cwV 1 hts gX8_reckon_X8_meterOf rfl rfl rfl (by decide +kernel) ⟨Nat.le_of_ble_eq_true rfl, Nat.le_of_ble_eq_true rfl⟩) (preV_of okP (⟨hP, hK, hD.top⟩) (pl_recv hK hP (ci := 7) rfl hmo hFo)) rfl rfl hl.1 rfl (lv_room (Nat.le_of_ble_eq_true rfl)) dX8_reckon_2 ⟨Nat.le_of_ble_eq_true rfl, Nat.le_of_ble_eq_true rfl⟩) (fun r1 hr1 => ?_)
        subst hr1
        refine W.eq (g2 := F0 m 5 ls [.null]) rfl ?_
        refine lv_astoreN (lv' := [(5, .null), (0, .ref o), (1, .int 4), (2, .int x), (3, .int y), (4, .int into)]) hx hb dX8_reckon_5 hl (by decide) rfl (fun ls hl => ?_)
        refine lv_aload_n hx hb dX8_reckon_7 rfl (lv_at hl 1 rfl) ?_
        refine lv_iload_n hx hb dX8_reckon_8 rfl (lv_at hl 4 rfl) ?_
        refine va_csq (W.runV (As := [.int y]) (rest := []) ⟨hx, hb, hml, hown, hts⟩ (c_meterOf_no l G cy L F o qa Mm Dd Sl Pp Kr Bk Xx hR y hi_y) (cwV 1 hts gX8_reckon_X8_meterOf rfl rfl rfl (by decide +kernel) ⟨Nat.le_of_ble_eq_true rfl, Nat.le_of_ble_eq_true rfl⟩) (preV_of okP (⟨hP, hK, hD.top⟩) (pl_recv hK hP (ci := 7) rfl hmo hFo)) rfl rfl hl.1 rfl (lv_room (Nat.le_of_ble_eq_true rfl)) dX8_reckon_9 ⟨Nat.le_of_ble_eq_true rfl, Nat.le_of_ble_eq_true rfl⟩) (fun r2 hr2 => ?_)
        subst hr2
        refine W.eq (g2 := F0 m 12 ls [.null]) rfl ?_
        refine lv_astoreN (lv' := [(6, .null), (5, .null), (0, .ref o), (1, .int 4), (2, .int x), (3, .int y), (4, .int into)]) hx hb dX8_reckon_12 hl (by decide) rfl (fun ls hl => ?_)
        refine lv_aload_n hx hb dX8_reckon_14 rfl (lv_at hl 2 rfl) ?_
        refine lv_iload hx hb dX8_reckon_15 (lv_at hl 6 rfl) ?_
        refine va_csq (W.runV (As := [.int into]) (rest := []) ⟨hx, hb, hml, hown, hts⟩ (c_meterOf_no l G cy L F o qa Mm Dd Sl Pp Kr Bk Xx hR into hi_into) (cwV 1 hts gX8_reckon_X8_meterOf rfl rfl rfl (by decide +kernel) ⟨Nat.le_of_ble_eq_true rfl, Nat.le_of_ble_eq_true rfl⟩) (preV_of okP (⟨hP, hK, hD.top⟩) (pl_recv hK hP (ci := 7) rfl hmo hFo)) rfl rfl hl.1 rfl (lv_room (Nat.le_of_ble_eq_true rfl)) dX8_reckon_17 ⟨Nat.le_of_ble_eq_true rfl, Nat.le_of_ble_eq_true rfl⟩) (fun r3 hr3 => ?_)
        subst hr3
        refine W.eq (g2 := F0 m 20 ls [.null]) rfl ?_
        refine lv_astoreN (lv' := [(7, .null), (6, .null), (5, .null), (0, .ref o), (1, .int 4), (2, .int x), (3, .int y), (4, .int into)]) hx hb dX8_reckon_20 hl (by decide) rfl (fun ls hl => ?_)
        refine lv_aloadN hx hb dX8_reckon_22 (lv_at hl 2 rfl) ?_
        refine lv_ifnullN (tgt := 37) hx hb dX8_reckon_24 (by decide) ?_
        refine lv_sipush (v := -1001) hx hb dX8_reckon_37 (by decide) ?_
        exact W.iret (v := -1001) hx hb hr (fun t ht hW => ⟨⟨-1001, F, rfl, (by have hsp : sp_reckon Mm Xx 4 x y into = (-1001, Mm, Xx) := (by unfold sp_reckon; rw [hi_x]); rw [hsp]; exact ⟨rfl, hR⟩), (by show va_P _ _ _ t.heap; rw [ht]; exact hP)⟩, hS.F ht⟩) hS.2.2 dX8_reckon_40
      · subst ei_into
        obtain ⟨hmm_into, nm_into, rl_into, hFm_into, hok_into⟩ := hRM j_into hj_into
        refine lv_aload_n hx hb dX8_reckon_0 rfl (lv_at hl 0 rfl) ?_
        refine lv_iload_n hx hb dX8_reckon_1 rfl (lv_at hl 2 rfl) ?_
        refine va_csq (W.runV (As := [.int x]) (rest := []) ⟨hx, hb, hml, hown, hts⟩ (c_meterOf_no l G cy L F o qa Mm Dd Sl Pp Kr Bk Xx hR x hi_x) (cwV 1 hts gX8_reckon_X8_meterOf rfl rfl rfl (by decide +kernel) ⟨Nat.le_of_ble_eq_true rfl, Nat.le_of_ble_eq_true rfl⟩) (preV_of okP (⟨hP, hK, hD.top⟩) (pl_recv hK hP (ci := 7) rfl hmo hFo)) rfl rfl hl.1 rfl (lv_room (Nat.le_of_ble_eq_true rfl)) dX8_reckon_2 ⟨Nat.le_of_ble_eq_true rfl, Nat.le_of_ble_eq_true rfl⟩) (fun r4 hr4 => ?_)
        subst hr4
        refine W.eq (g2 := F0 m 5 ls [.null]) rfl ?_
        refine lv_astoreN (lv' := [(5, .null), (0, .ref o), (1, .int 4), (2, .int x), (3, .int y), (4, .int (nI j_into))]) hx hb dX8_reckon_5 hl (by decide) rfl (fun ls hl => ?_)
        refine lv_aload_n hx hb dX8_reckon_7 rfl (lv_at hl 1 rfl) ?_
        refine lv_iload_n hx hb dX8_reckon_8 rfl (lv_at hl 4 rfl) ?_
        refine va_csq (W.runV (As := [.int y]) (rest := []) ⟨hx, hb, hml, hown, hts⟩ (c_meterOf_no l G cy L F o qa Mm Dd Sl Pp Kr Bk Xx hR y hi_y) (cwV 1 hts gX8_reckon_X8_meterOf rfl rfl rfl (by decide +kernel) ⟨Nat.le_of_ble_eq_true rfl, Nat.le_of_ble_eq_true rfl⟩) (preV_of okP (⟨hP, hK, hD.top⟩) (pl_recv hK hP (ci := 7) rfl hmo hFo)) rfl rfl hl.1 rfl (lv_room (Nat.le_of_ble_eq_true rfl)) dX8_reckon_9 ⟨Nat.le_of_ble_eq_true rfl, Nat.le_of_ble_eq_true rfl⟩) (fun r5 hr5 => ?_)
        subst hr5
        refine W.eq (g2 := F0 m 12 ls [.null]) rfl ?_
        refine lv_astoreN (lv' := [(6, .null), (5, .null), (0, .ref o), (1, .int 4), (2, .int x), (3, .int y), (4, .int (nI j_into))]) hx hb dX8_reckon_12 hl (by decide) rfl (fun ls hl => ?_)
        refine lv_aload_n hx hb dX8_reckon_14 rfl (lv_at hl 2 rfl) ?_
        refine lv_iload hx hb dX8_reckon_15 (lv_at hl 6 rfl) ?_
        refine va_csq (W.runV (As := [.int (nI j_into)]) (rest := []) ⟨hx, hb, hml, hown, hts⟩ (c_meterOf l G cy L F o qa Mm Dd Sl Pp Kr Bk Xx hR j_into hj_into) (cwV 1 hts gX8_reckon_X8_meterOf rfl rfl rfl (by decide +kernel) ⟨Nat.le_of_ble_eq_true rfl, Nat.le_of_ble_eq_true rfl⟩) (preV_of okP (⟨hP, hK, hD.top⟩) (pl_recv hK hP (ci := 7) rfl hmo hFo)) rfl rfl hl.1 rfl (lv_room (Nat.le_of_ble_eq_true rfl)) dX8_reckon_17 ⟨Nat.le_of_ble_eq_true rfl, Nat.le_of_ble_eq_true rfl⟩) (fun r6 hr6 => ?_)
        subst hr6
        refine W.eq (g2 := F0 m 20 ls [.ref (qa 0 j_into)]) rfl ?_
        refine lv_astore (lv' := [(7, .ref (qa 0 j_into)), (6, .null), (5, .null), (0, .ref o), (1, .int 4), (2, .int x), (3, .int y), (4, .int (nI j_into))]) hx hb dX8_reckon_20 hl (by decide) rfl (fun ls hl => ?_)
        refine lv_aloadN hx hb dX8_reckon_22 (lv_at hl 2 rfl) ?_
        refine lv_ifnullN (tgt := 37) hx hb dX8_reckon_24 (by decide) ?_
        refine lv_sipush (v := -1001) hx hb dX8_reckon_37 (by decide) ?_
        exact W.iret (v := -1001) hx hb hr (fun t ht hW => ⟨⟨-1001, F, rfl, (by have hsp : sp_reckon Mm Xx 4 x y (nI j_into) = (-1001, Mm, Xx) := (by unfold sp_reckon; rw [hi_x]); rw [hsp]; exact ⟨rfl, hR⟩), (by show va_P _ _ _ t.heap; rw [ht]; exact hP)⟩, hS.F ht⟩) hS.2.2 dX8_reckon_40
    · subst ei_y
      obtain ⟨hmm_y, nm_y, rl_y, hFm_y, hok_y⟩ := hRM j_y hj_y
      rcases ixc 10 into with hi_into | ⟨j_into, hj_into, hi_into, ei_into⟩
      · refine lv_aload_n hx hb dX8_reckon_0 rfl (lv_at hl 0 rfl) ?_
        refine lv_iload_n hx hb dX8_reckon_1 rfl (lv_at hl 2 rfl) ?_
        refine va_csq (W.runV (As := [.int x]) (rest := []) ⟨hx, hb, hml, hown, hts⟩ (c_meterOf_no l G cy L F o qa Mm Dd Sl Pp Kr Bk Xx hR x hi_x) (cwV 1 hts gX8_reckon_X8_meterOf rfl rfl rfl (by decide +kernel) ⟨Nat.le_of_ble_eq_true rfl, Nat.le_of_ble_eq_true rfl⟩) (preV_of okP (⟨hP, hK, hD.top⟩) (pl_recv hK hP (ci := 7) rfl hmo hFo)) rfl rfl hl.1 rfl (lv_room (Nat.le_of_ble_eq_true rfl)) dX8_reckon_2 ⟨Nat.le_of_ble_eq_true rfl, Nat.le_of_ble_eq_true rfl⟩) (fun r7 hr7 => ?_)
        subst hr7
        refine W.eq (g2 := F0 m 5 ls [.null]) rfl ?_
        refine lv_astoreN (lv' := [(5, .null), (0, .ref o), (1, .int 4), (2, .int x), (3, .int (nI j_y)), (4, .int into)]) hx hb dX8_reckon_5 hl (by decide) rfl (fun ls hl => ?_)
        refine lv_aload_n hx hb dX8_reckon_7 rfl (lv_at hl 1 rfl) ?_
        refine lv_iload_n hx hb dX8_reckon_8 rfl (lv_at hl 4 rfl) ?_
        refine va_csq (W.runV (As := [.int (nI j_y)]) (rest := []) ⟨hx, hb, hml, hown, hts⟩ (c_meterOf l G cy L F o qa Mm Dd Sl Pp Kr Bk Xx hR j_y hj_y) (cwV 1 hts gX8_reckon_X8_meterOf rfl rfl rfl (by decide +kernel) ⟨Nat.le_of_ble_eq_true rfl, Nat.le_of_ble_eq_true rfl⟩) (preV_of okP (⟨hP, hK, hD.top⟩) (pl_recv hK hP (ci := 7) rfl hmo hFo)) rfl rfl hl.1 rfl (lv_room (Nat.le_of_ble_eq_true rfl)) dX8_reckon_9 ⟨Nat.le_of_ble_eq_true rfl, Nat.le_of_ble_eq_true rfl⟩) (fun r8 hr8 => ?_)
        subst hr8
        refine W.eq (g2 := F0 m 12 ls [.ref (qa 0 j_y)]) rfl ?_
        refine lv_astore (lv' := [(6, .ref (qa 0 j_y)), (5, .null), (0, .ref o), (1, .int 4), (2, .int x), (3, .int (nI j_y)), (4, .int into)]) hx hb dX8_reckon_12 hl (by decide) rfl (fun ls hl => ?_)
        refine lv_aload_n hx hb dX8_reckon_14 rfl (lv_at hl 2 rfl) ?_
        refine lv_iload hx hb dX8_reckon_15 (lv_at hl 6 rfl) ?_
        refine va_csq (W.runV (As := [.int into]) (rest := []) ⟨hx, hb, hml, hown, hts⟩ (c_meterOf_no l G cy L F o qa Mm Dd Sl Pp Kr Bk Xx hR into hi_into) (cwV 1 hts gX8_reckon_X8_meterOf rfl rfl rfl (by decide +kernel) ⟨Nat.le_of_ble_eq_true rfl, Nat.le_of_ble_eq_true rfl⟩) (preV_of okP (⟨hP, hK, hD.top⟩) (pl_recv hK hP (ci := 7) rfl hmo hFo)) rfl rfl hl.1 rfl (lv_room (Nat.le_of_ble_eq_true rfl)) dX8_reckon_17 ⟨Nat.le_of_ble_eq_true rfl, Nat.le_of_ble_eq_true rfl⟩) (fun r9 hr9 => ?_)
        subst hr9
        refine W.eq (g2 := F0 m 20 ls [.null]) rfl ?_
        refine lv_astoreN (lv' := [(7, .null), (6, .ref (qa 0 j_y)), (5, .null), (0, .ref o), (1, .int 4), (2, .int x), (3, .int (nI j_y)), (4, .int into)]) hx hb dX8_reckon_20 hl (by decide) rfl (fun ls hl => ?_)
        refine lv_aloadN hx hb dX8_reckon_22 (lv_at hl 2 rfl) ?_
        refine lv_ifnullN (tgt := 37) hx hb dX8_reckon_24 (by decide) ?_
        refine lv_sipush (v := -1001) hx hb dX8_reckon_37 (by decide) ?_
        exact W.iret (v := -1001) hx hb hr (fun t ht hW => ⟨⟨-1001, F, rfl, (by have hsp : sp_reckon Mm Xx 4 x (nI j_y) into = (-1001, Mm, Xx) := (by unfold sp_reckon; rw [hi_x]); rw [hsp]; exact ⟨rfl, hR⟩), (by show va_P _ _ _ t.heap; rw [ht]; exact hP)⟩, hS.F ht⟩) hS.2.2 dX8_reckon_40
      · subst ei_into
        obtain ⟨hmm_into, nm_into, rl_into, hFm_into, hok_into⟩ := hRM j_into hj_into
        refine lv_aload_n hx hb dX8_reckon_0 rfl (lv_at hl 0 rfl) ?_
        refine lv_iload_n hx hb dX8_reckon_1 rfl (lv_at hl 2 rfl) ?_
        refine va_csq (W.runV (As := [.int x]) (rest := []) ⟨hx, hb, hml, hown, hts⟩ (c_meterOf_no l G cy L F o qa Mm Dd Sl Pp Kr Bk Xx hR x hi_x) (cwV 1 hts gX8_reckon_X8_meterOf rfl rfl rfl (by decide +kernel) ⟨Nat.le_of_ble_eq_true rfl, Nat.le_of_ble_eq_true rfl⟩) (preV_of okP (⟨hP, hK, hD.top⟩) (pl_recv hK hP (ci := 7) rfl hmo hFo)) rfl rfl hl.1 rfl (lv_room (Nat.le_of_ble_eq_true rfl)) dX8_reckon_2 ⟨Nat.le_of_ble_eq_true rfl, Nat.le_of_ble_eq_true rfl⟩) (fun r10 hr10 => ?_)
        subst hr10
        refine W.eq (g2 := F0 m 5 ls [.null]) rfl ?_
        refine lv_astoreN (lv' := [(5, .null), (0, .ref o), (1, .int 4), (2, .int x), (3, .int (nI j_y)), (4, .int (nI j_into))]) hx hb dX8_reckon_5 hl (by decide) rfl (fun ls hl => ?_)
        refine lv_aload_n hx hb dX8_reckon_7 rfl (lv_at hl 1 rfl) ?_
        refine lv_iload_n hx hb dX8_reckon_8 rfl (lv_at hl 4 rfl) ?_
        refine va_csq (W.runV (As := [.int (nI j_y)]) (rest := []) ⟨hx, hb, hml, hown, hts⟩ (c_meterOf l G cy L F o qa Mm Dd Sl Pp Kr Bk Xx hR j_y hj_y) (cwV 1 hts gX8_reckon_X8_meterOf rfl rfl rfl (by decide +kernel) ⟨Nat.le_of_ble_eq_true rfl, Nat.le_of_ble_eq_true rfl⟩) (preV_of okP (⟨hP, hK, hD.top⟩) (pl_recv hK hP (ci := 7) rfl hmo hFo)) rfl rfl hl.1 rfl (lv_room (Nat.le_of_ble_eq_true rfl)) dX8_reckon_9 ⟨Nat.le_of_ble_eq_true rfl, Nat.le_of_ble_eq_true rfl⟩) (fun r11 hr11 => ?_)
        subst hr11
        refine W.eq (g2 := F0 m 12 ls [.ref (qa 0 j_y)]) rfl ?_
        refine lv_astore (lv' := [(6, .ref (qa 0 j_y)), (5, .null), (0, .ref o), (1, .int 4), (2, .int x), (3, .int (nI j_y)), (4, .int (nI j_into))]) hx hb dX8_reckon_12 hl (by decide) rfl (fun ls hl => ?_)
        refine lv_aload_n hx hb dX8_reckon_14 rfl (lv_at hl 2 rfl) ?_
        refine lv_iload hx hb dX8_reckon_15 (lv_at hl 6 rfl) ?_
        refine va_csq (W.runV (As := [.int (nI j_into)]) (rest := []) ⟨hx, hb, hml, hown, hts⟩ (c_meterOf l G cy L F o qa Mm Dd Sl Pp Kr Bk Xx hR j_into hj_into) (cwV 1 hts gX8_reckon_X8_meterOf rfl rfl rfl (by decide +kernel) ⟨Nat.le_of_ble_eq_true rfl, Nat.le_of_ble_eq_true rfl⟩) (preV_of okP (⟨hP, hK, hD.top⟩) (pl_recv hK hP (ci := 7) rfl hmo hFo)) rfl rfl hl.1 rfl (lv_room (Nat.le_of_ble_eq_true rfl)) dX8_reckon_17 ⟨Nat.le_of_ble_eq_true rfl, Nat.le_of_ble_eq_true rfl⟩) (fun r12 hr12 => ?_)
        subst hr12
        refine W.eq (g2 := F0 m 20 ls [.ref (qa 0 j_into)]) rfl ?_
        refine lv_astore (lv' := [(7, .ref (qa 0 j_into)), (6, .ref (qa 0 j_y)), (5, .null), (0, .ref o), (1, .int 4), (2, .int x), (3, .int (nI j_y)), (4, .int (nI j_into))]) hx hb dX8_reckon_20 hl (by decide) rfl (fun ls hl => ?_)
        refine lv_aloadN hx hb dX8_reckon_22 (lv_at hl 2 rfl) ?_
        refine lv_ifnullN (tgt := 37) hx hb dX8_reckon_24 (by decide) ?_
        refine lv_sipush (v := -1001) hx hb dX8_reckon_37 (by decide) ?_
        exact W.iret (v := -1001) hx hb hr (fun t ht hW => ⟨⟨-1001, F, rfl, (by have hsp : sp_reckon Mm Xx 4 x (nI j_y) (nI j_into) = (-1001, Mm, Xx) := (by unfold sp_reckon; rw [hi_x]); rw [hsp]; exact ⟨rfl, hR⟩), (by show va_P _ _ _ t.heap; rw [ht]; exact hP)⟩, hS.F ht⟩) hS.2.2 dX8_reckon_40
  · subst ei_x
    obtain ⟨hmm_x, nm_x, rl_x, hFm_x, hok_x⟩ := hRM j_x hj_x
    rcases ixc 10 y with hi_y | ⟨j_y, hj_y, hi_y, ei_y⟩
    · rcases ixc 10 into with hi_into | ⟨j_into, hj_into, hi_into, ei_into⟩
      · refine lv_aload_n hx hb dX8_reckon_0 rfl (lv_at hl 0 rfl) ?_
        refine lv_iload_n hx hb dX8_reckon_1 rfl (lv_at hl 2 rfl) ?_
        refine va_csq (W.runV (As := [.int (nI j_x)]) (rest := []) ⟨hx, hb, hml, hown, hts⟩ (c_meterOf l G cy L F o qa Mm Dd Sl Pp Kr Bk Xx hR j_x hj_x) (cwV 1 hts gX8_reckon_X8_meterOf rfl rfl rfl (by decide +kernel) ⟨Nat.le_of_ble_eq_true rfl, Nat.le_of_ble_eq_true rfl⟩) (preV_of okP (⟨hP, hK, hD.top⟩) (pl_recv hK hP (ci := 7) rfl hmo hFo)) rfl rfl hl.1 rfl (lv_room (Nat.le_of_ble_eq_true rfl)) dX8_reckon_2 ⟨Nat.le_of_ble_eq_true rfl, Nat.le_of_ble_eq_true rfl⟩) (fun r13 hr13 => ?_)
        subst hr13
        refine W.eq (g2 := F0 m 5 ls [.ref (qa 0 j_x)]) rfl ?_
        refine lv_astore (lv' := [(5, .ref (qa 0 j_x)), (0, .ref o), (1, .int 4), (2, .int (nI j_x)), (3, .int y), (4, .int into)]) hx hb dX8_reckon_5 hl (by decide) rfl (fun ls hl => ?_)
        refine lv_aload_n hx hb dX8_reckon_7 rfl (lv_at hl 1 rfl) ?_
        refine lv_iload_n hx hb dX8_reckon_8 rfl (lv_at hl 4 rfl) ?_
        refine va_csq (W.runV (As := [.int y]) (rest := []) ⟨hx, hb, hml, hown, hts⟩ (c_meterOf_no l G cy L F o qa Mm Dd Sl Pp Kr Bk Xx hR y hi_y) (cwV 1 hts gX8_reckon_X8_meterOf rfl rfl rfl (by decide +kernel) ⟨Nat.le_of_ble_eq_true rfl, Nat.le_of_ble_eq_true rfl⟩) (preV_of okP (⟨hP, hK, hD.top⟩) (pl_recv hK hP (ci := 7) rfl hmo hFo)) rfl rfl hl.1 rfl (lv_room (Nat.le_of_ble_eq_true rfl)) dX8_reckon_9 ⟨Nat.le_of_ble_eq_true rfl, Nat.le_of_ble_eq_true rfl⟩) (fun r14 hr14 => ?_)
        subst hr14
        refine W.eq (g2 := F0 m 12 ls [.null]) rfl ?_
        refine lv_astoreN (lv' := [(6, .null), (5, .ref (qa 0 j_x)), (0, .ref o), (1, .int 4), (2, .int (nI j_x)), (3, .int y), (4, .int into)]) hx hb dX8_reckon_12 hl (by decide) rfl (fun ls hl => ?_)
        refine lv_aload_n hx hb dX8_reckon_14 rfl (lv_at hl 2 rfl) ?_
        refine lv_iload hx hb dX8_reckon_15 (lv_at hl 6 rfl) ?_
        refine va_csq (W.runV (As := [.int into]) (rest := []) ⟨hx, hb, hml, hown, hts⟩ (c_meterOf_no l G cy L F o qa Mm Dd Sl Pp Kr Bk Xx hR into hi_into) (cwV 1 hts gX8_reckon_X8_meterOf rfl rfl rfl (by decide +kernel) ⟨Nat.le_of_ble_eq_true rfl, Nat.le_of_ble_eq_true rfl⟩) (preV_of okP (⟨hP, hK, hD.top⟩) (pl_recv hK hP (ci := 7) rfl hmo hFo)) rfl rfl hl.1 rfl (lv_room (Nat.le_of_ble_eq_true rfl)) dX8_reckon_17 ⟨Nat.le_of_ble_eq_true rfl, Nat.le_of_ble_eq_true rfl⟩) (fun r15 hr15 => ?_)
        subst hr15
        refine W.eq (g2 := F0 m 20 ls [.null]) rfl ?_
        refine lv_astoreN (lv' := [(7, .null), (6, .null), (5, .ref (qa 0 j_x)), (0, .ref o), (1, .int 4), (2, .int (nI j_x)), (3, .int y), (4, .int into)]) hx hb dX8_reckon_20 hl (by decide) rfl (fun ls hl => ?_)
        refine lv_aload hx hb dX8_reckon_22 (lv_at hl 2 rfl) ?_
        refine lv_ifnull hx hb dX8_reckon_24 ?_
        refine lv_aloadN hx hb dX8_reckon_27 (lv_at hl 1 rfl) ?_
        refine lv_ifnullN (tgt := 37) hx hb dX8_reckon_29 (by decide) ?_
        refine lv_sipush (v := -1001) hx hb dX8_reckon_37 (by decide) ?_
        exact W.iret (v := -1001) hx hb hr (fun t ht hW => ⟨⟨-1001, F, rfl, (by have hsp : sp_reckon Mm Xx 4 (nI j_x) y into = (-1001, Mm, Xx) := (by unfold sp_reckon; rw [hi_x, hi_y]); rw [hsp]; exact ⟨rfl, hR⟩), (by show va_P _ _ _ t.heap; rw [ht]; exact hP)⟩, hS.F ht⟩) hS.2.2 dX8_reckon_40
      · subst ei_into
        obtain ⟨hmm_into, nm_into, rl_into, hFm_into, hok_into⟩ := hRM j_into hj_into
        refine lv_aload_n hx hb dX8_reckon_0 rfl (lv_at hl 0 rfl) ?_
        refine lv_iload_n hx hb dX8_reckon_1 rfl (lv_at hl 2 rfl) ?_
        refine va_csq (W.runV (As := [.int (nI j_x)]) (rest := []) ⟨hx, hb, hml, hown, hts⟩ (c_meterOf l G cy L F o qa Mm Dd Sl Pp Kr Bk Xx hR j_x hj_x) (cwV 1 hts gX8_reckon_X8_meterOf rfl rfl rfl (by decide +kernel) ⟨Nat.le_of_ble_eq_true rfl, Nat.le_of_ble_eq_true rfl⟩) (preV_of okP (⟨hP, hK, hD.top⟩) (pl_recv hK hP (ci := 7) rfl hmo hFo)) rfl rfl hl.1 rfl (lv_room (Nat.le_of_ble_eq_true rfl)) dX8_reckon_2 ⟨Nat.le_of_ble_eq_true rfl, Nat.le_of_ble_eq_true rfl⟩) (fun r16 hr16 => ?_)
        subst hr16
        refine W.eq (g2 := F0 m 5 ls [.ref (qa 0 j_x)]) rfl ?_
        refine lv_astore (lv' := [(5, .ref (qa 0 j_x)), (0, .ref o), (1, .int 4), (2, .int (nI j_x)), (3, .int y), (4, .int (nI j_into))]) hx hb dX8_reckon_5 hl (by decide) rfl (fun ls hl => ?_)
        refine lv_aload_n hx hb dX8_reckon_7 rfl (lv_at hl 1 rfl) ?_
        refine lv_iload_n hx hb dX8_reckon_8 rfl (lv_at hl 4 rfl) ?_
        refine va_csq (W.runV (As := [.int y]) (rest := []) ⟨hx, hb, hml, hown, hts⟩ (c_meterOf_no l G cy L F o qa Mm Dd Sl Pp Kr Bk Xx hR y hi_y) (cwV 1 hts gX8_reckon_X8_meterOf rfl rfl rfl (by decide +kernel) ⟨Nat.le_of_ble_eq_true rfl, Nat.le_of_ble_eq_true rfl⟩) (preV_of okP (⟨hP, hK, hD.top⟩) (pl_recv hK hP (ci := 7) rfl hmo hFo)) rfl rfl hl.1 rfl (lv_room (Nat.le_of_ble_eq_true rfl)) dX8_reckon_9 ⟨Nat.le_of_ble_eq_true rfl, Nat.le_of_ble_eq_true rfl⟩) (fun r17 hr17 => ?_)
        subst hr17
        refine W.eq (g2 := F0 m 12 ls [.null]) rfl ?_
        refine lv_astoreN (lv' := [(6, .null), (5, .ref (qa 0 j_x)), (0, .ref o), (1, .int 4), (2, .int (nI j_x)), (3, .int y), (4, .int (nI j_into))]) hx hb dX8_reckon_12 hl (by decide) rfl (fun ls hl => ?_)
        refine lv_aload_n hx hb dX8_reckon_14 rfl (lv_at hl 2 rfl) ?_
        refine lv_iload hx hb dX8_reckon_15 (lv_at hl 6 rfl) ?_
        refine va_csq (W.runV (As := [.int (nI j_into)]) (rest := []) ⟨hx, hb, hml, hown, hts⟩ (c_meterOf l G cy L F o qa Mm Dd Sl Pp Kr Bk Xx hR j_into hj_into) (cwV 1 hts gX8_reckon_X8_meterOf rfl rfl rfl (by decide +kernel) ⟨Nat.le_of_ble_eq_true rfl, Nat.le_of_ble_eq_true rfl⟩) (preV_of okP (⟨hP, hK, hD.top⟩) (pl_recv hK hP (ci := 7) rfl hmo hFo)) rfl rfl hl.1 rfl (lv_room (Nat.le_of_ble_eq_true rfl)) dX8_reckon_17 ⟨Nat.le_of_ble_eq_true rfl, Nat.le_of_ble_eq_true rfl⟩) (fun r18 hr18 => ?_)
        subst hr18
        refine W.eq (g2 := F0 m 20 ls [.ref (qa 0 j_into)]) rfl ?_
        refine lv_astore (lv' := [(7, .ref (qa 0 j_into)), (6, .null), (5, .ref (qa 0 j_x)), (0, .ref o), (1, .int 4), (2, .int (nI j_x)), (3, .int y), (4, .int (nI j_into))]) hx hb dX8_reckon_20 hl (by decide) rfl (fun ls hl => ?_)
        refine lv_aload hx hb dX8_reckon_22 (lv_at hl 2 rfl) ?_
        refine lv_ifnull hx hb dX8_reckon_24 ?_
        refine lv_aloadN hx hb dX8_reckon_27 (lv_at hl 1 rfl) ?_
        refine lv_ifnullN (tgt := 37) hx hb dX8_reckon_29 (by decide) ?_
        refine lv_sipush (v := -1001) hx hb dX8_reckon_37 (by decide) ?_
        exact W.iret (v := -1001) hx hb hr (fun t ht hW => ⟨⟨-1001, F, rfl, (by have hsp : sp_reckon Mm Xx 4 (nI j_x) y (nI j_into) = (-1001, Mm, Xx) := (by unfold sp_reckon; rw [hi_x, hi_y]); rw [hsp]; exact ⟨rfl, hR⟩), (by show va_P _ _ _ t.heap; rw [ht]; exact hP)⟩, hS.F ht⟩) hS.2.2 dX8_reckon_40
    · subst ei_y
      obtain ⟨hmm_y, nm_y, rl_y, hFm_y, hok_y⟩ := hRM j_y hj_y
      rcases ixc 10 into with hi_into | ⟨j_into, hj_into, hi_into, ei_into⟩
      · refine lv_aload_n hx hb dX8_reckon_0 rfl (lv_at hl 0 rfl) ?_
        refine lv_iload_n hx hb dX8_reckon_1 rfl (lv_at hl 2 rfl) ?_
        refine va_csq (W.runV (As := [.int (nI j_x)]) (rest := []) ⟨hx, hb, hml, hown, hts⟩ (c_meterOf l G cy L F o qa Mm Dd Sl Pp Kr Bk Xx hR j_x hj_x) (cwV 1 hts gX8_reckon_X8_meterOf rfl rfl rfl (by decide +kernel) ⟨Nat.le_of_ble_eq_true rfl, Nat.le_of_ble_eq_true rfl⟩) (preV_of okP (⟨hP, hK, hD.top⟩) (pl_recv hK hP (ci := 7) rfl hmo hFo)) rfl rfl hl.1 rfl (lv_room (Nat.le_of_ble_eq_true rfl)) dX8_reckon_2 ⟨Nat.le_of_ble_eq_true rfl, Nat.le_of_ble_eq_true rfl⟩) (fun r19 hr19 => ?_)
        subst hr19
        refine W.eq (g2 := F0 m 5 ls [.ref (qa 0 j_x)]) rfl ?_
        refine lv_astore (lv' := [(5, .ref (qa 0 j_x)), (0, .ref o), (1, .int 4), (2, .int (nI j_x)), (3, .int (nI j_y)), (4, .int into)]) hx hb dX8_reckon_5 hl (by decide) rfl (fun ls hl => ?_)
        refine lv_aload_n hx hb dX8_reckon_7 rfl (lv_at hl 1 rfl) ?_
        refine lv_iload_n hx hb dX8_reckon_8 rfl (lv_at hl 4 rfl) ?_
        refine va_csq (W.runV (As := [.int (nI j_y)]) (rest := []) ⟨hx, hb, hml, hown, hts⟩ (c_meterOf l G cy L F o qa Mm Dd Sl Pp Kr Bk Xx hR j_y hj_y) (cwV 1 hts gX8_reckon_X8_meterOf rfl rfl rfl (by decide +kernel) ⟨Nat.le_of_ble_eq_true rfl, Nat.le_of_ble_eq_true rfl⟩) (preV_of okP (⟨hP, hK, hD.top⟩) (pl_recv hK hP (ci := 7) rfl hmo hFo)) rfl rfl hl.1 rfl (lv_room (Nat.le_of_ble_eq_true rfl)) dX8_reckon_9 ⟨Nat.le_of_ble_eq_true rfl, Nat.le_of_ble_eq_true rfl⟩) (fun r20 hr20 => ?_)
        subst hr20
        refine W.eq (g2 := F0 m 12 ls [.ref (qa 0 j_y)]) rfl ?_
        refine lv_astore (lv' := [(6, .ref (qa 0 j_y)), (5, .ref (qa 0 j_x)), (0, .ref o), (1, .int 4), (2, .int (nI j_x)), (3, .int (nI j_y)), (4, .int into)]) hx hb dX8_reckon_12 hl (by decide) rfl (fun ls hl => ?_)
        refine lv_aload_n hx hb dX8_reckon_14 rfl (lv_at hl 2 rfl) ?_
        refine lv_iload hx hb dX8_reckon_15 (lv_at hl 6 rfl) ?_
        refine va_csq (W.runV (As := [.int into]) (rest := []) ⟨hx, hb, hml, hown, hts⟩ (c_meterOf_no l G cy L F o qa Mm Dd Sl Pp Kr Bk Xx hR into hi_into) (cwV 1 hts gX8_reckon_X8_meterOf rfl rfl rfl (by decide +kernel) ⟨Nat.le_of_ble_eq_true rfl, Nat.le_of_ble_eq_true rfl⟩) (preV_of okP (⟨hP, hK, hD.top⟩) (pl_recv hK hP (ci := 7) rfl hmo hFo)) rfl rfl hl.1 rfl (lv_room (Nat.le_of_ble_eq_true rfl)) dX8_reckon_17 ⟨Nat.le_of_ble_eq_true rfl, Nat.le_of_ble_eq_true rfl⟩) (fun r21 hr21 => ?_)
        subst hr21
        refine W.eq (g2 := F0 m 20 ls [.null]) rfl ?_
        refine lv_astoreN (lv' := [(7, .null), (6, .ref (qa 0 j_y)), (5, .ref (qa 0 j_x)), (0, .ref o), (1, .int 4), (2, .int (nI j_x)), (3, .int (nI j_y)), (4, .int into)]) hx hb dX8_reckon_20 hl (by decide) rfl (fun ls hl => ?_)
        refine lv_aload hx hb dX8_reckon_22 (lv_at hl 2 rfl) ?_
        refine lv_ifnull hx hb dX8_reckon_24 ?_
        refine lv_aload hx hb dX8_reckon_27 (lv_at hl 1 rfl) ?_
        refine lv_ifnull hx hb dX8_reckon_29 ?_
        refine lv_aloadN hx hb dX8_reckon_32 (lv_at hl 0 rfl) ?_
        refine lv_ifnonnullN hx hb dX8_reckon_34 ?_
        refine lv_sipush (v := -1001) hx hb dX8_reckon_37 (by decide) ?_
        exact W.iret (v := -1001) hx hb hr (fun t ht hW => ⟨⟨-1001, F, rfl, (by have hsp : sp_reckon Mm Xx 4 (nI j_x) (nI j_y) into = (-1001, Mm, Xx) := (by unfold sp_reckon; rw [hi_x, hi_y, hi_into]); rw [hsp]; exact ⟨rfl, hR⟩), (by show va_P _ _ _ t.heap; rw [ht]; exact hP)⟩, hS.F ht⟩) hS.2.2 dX8_reckon_40
      · subst ei_into
        obtain ⟨hmm_into, nm_into, rl_into, hFm_into, hok_into⟩ := hRM j_into hj_into
        refine lv_aload_n hx hb dX8_reckon_0 rfl (lv_at hl 0 rfl) ?_
        refine lv_iload_n hx hb dX8_reckon_1 rfl (lv_at hl 2 rfl) ?_
        refine va_csq (W.runV (As := [.int (nI j_x)]) (rest := []) ⟨hx, hb, hml, hown, hts⟩ (c_meterOf l G cy L F o qa Mm Dd Sl Pp Kr Bk Xx hR j_x hj_x) (cwV 1 hts gX8_reckon_X8_meterOf rfl rfl rfl (by decide +kernel) ⟨Nat.le_of_ble_eq_true rfl, Nat.le_of_ble_eq_true rfl⟩) (preV_of okP (⟨hP, hK, hD.top⟩) (pl_recv hK hP (ci := 7) rfl hmo hFo)) rfl rfl hl.1 rfl (lv_room (Nat.le_of_ble_eq_true rfl)) dX8_reckon_2 ⟨Nat.le_of_ble_eq_true rfl, Nat.le_of_ble_eq_true rfl⟩) (fun r22 hr22 => ?_)
        subst hr22
        refine W.eq (g2 := F0 m 5 ls [.ref (qa 0 j_x)]) rfl ?_
        refine lv_astore (lv' := [(5, .ref (qa 0 j_x)), (0, .ref o), (1, .int 4), (2, .int (nI j_x)), (3, .int (nI j_y)), (4, .int (nI j_into))]) hx hb dX8_reckon_5 hl (by decide) rfl (fun ls hl => ?_)
        refine lv_aload_n hx hb dX8_reckon_7 rfl (lv_at hl 1 rfl) ?_
        refine lv_iload_n hx hb dX8_reckon_8 rfl (lv_at hl 4 rfl) ?_
        refine va_csq (W.runV (As := [.int (nI j_y)]) (rest := []) ⟨hx, hb, hml, hown, hts⟩ (c_meterOf l G cy L F o qa Mm Dd Sl Pp Kr Bk Xx hR j_y hj_y) (cwV 1 hts gX8_reckon_X8_meterOf rfl rfl rfl (by decide +kernel) ⟨Nat.le_of_ble_eq_true rfl, Nat.le_of_ble_eq_true rfl⟩) (preV_of okP (⟨hP, hK, hD.top⟩) (pl_recv hK hP (ci := 7) rfl hmo hFo)) rfl rfl hl.1 rfl (lv_room (Nat.le_of_ble_eq_true rfl)) dX8_reckon_9 ⟨Nat.le_of_ble_eq_true rfl, Nat.le_of_ble_eq_true rfl⟩) (fun r23 hr23 => ?_)
        subst hr23
        refine W.eq (g2 := F0 m 12 ls [.ref (qa 0 j_y)]) rfl ?_
        refine lv_astore (lv' := [(6, .ref (qa 0 j_y)), (5, .ref (qa 0 j_x)), (0, .ref o), (1, .int 4), (2, .int (nI j_x)), (3, .int (nI j_y)), (4, .int (nI j_into))]) hx hb dX8_reckon_12 hl (by decide) rfl (fun ls hl => ?_)
        refine lv_aload_n hx hb dX8_reckon_14 rfl (lv_at hl 2 rfl) ?_
        refine lv_iload hx hb dX8_reckon_15 (lv_at hl 6 rfl) ?_
        refine va_csq (W.runV (As := [.int (nI j_into)]) (rest := []) ⟨hx, hb, hml, hown, hts⟩ (c_meterOf l G cy L F o qa Mm Dd Sl Pp Kr Bk Xx hR j_into hj_into) (cwV 1 hts gX8_reckon_X8_meterOf rfl rfl rfl (by decide +kernel) ⟨Nat.le_of_ble_eq_true rfl, Nat.le_of_ble_eq_true rfl⟩) (preV_of okP (⟨hP, hK, hD.top⟩) (pl_recv hK hP (ci := 7) rfl hmo hFo)) rfl rfl hl.1 rfl (lv_room (Nat.le_of_ble_eq_true rfl)) dX8_reckon_17 ⟨Nat.le_of_ble_eq_true rfl, Nat.le_of_ble_eq_true rfl⟩) (fun r24 hr24 => ?_)
        subst hr24
        refine W.eq (g2 := F0 m 20 ls [.ref (qa 0 j_into)]) rfl ?_
        refine lv_astore (lv' := [(7, .ref (qa 0 j_into)), (6, .ref (qa 0 j_y)), (5, .ref (qa 0 j_x)), (0, .ref o), (1, .int 4), (2, .int (nI j_x)), (3, .int (nI j_y)), (4, .int (nI j_into))]) hx hb dX8_reckon_20 hl (by decide) rfl (fun ls hl => ?_)
        refine lv_aload hx hb dX8_reckon_22 (lv_at hl 2 rfl) ?_
        refine lv_ifnull hx hb dX8_reckon_24 ?_
        refine lv_aload hx hb dX8_reckon_27 (lv_at hl 1 rfl) ?_
        refine lv_ifnull hx hb dX8_reckon_29 ?_
        refine lv_aload hx hb dX8_reckon_32 (lv_at hl 0 rfl) ?_
        refine lv_ifnonnull (tgt := 41) hx hb dX8_reckon_34 (by decide) ?_
        refine lv_iload_n hx hb dX8_reckon_41 rfl (lv_at hl 4 rfl) ?_
        refine lv_if_lt (tgt := 50) hx hb dX8_reckon_42 (by decide) (fun c25 => absurd c25 (by decide)) (fun c25 => ?_)
        refine lv_iload_n hx hb dX8_reckon_45 rfl (lv_at hl 4 rfl) ?_
        refine lv_iconst (v := 4) hx hb dX8_reckon_46 (by decide) ?_
        refine lv_icmp_le (tgt := 54) hx hb dX8_reckon_47 (by decide) (fun c26 => ?_) (fun c26 => absurd (by decide) c26)
        refine lv_aload hx hb dX8_reckon_54 (lv_at hl 2 rfl) ?_
        refine pg_get (ci := 4) (C := RX4) (T := TX4) (N := 3) hx hb hts hinX4 hown hK hP hmm_x hFm_x rfl 0 (by decide) (hts (.fieldLink RX8 103 "RopeDrums$Meter" "lane" "I") (by decide +kernel)) (fun _ h9 => h9) rfl dX8_reckon_56 ?_
        refine lv_aload hx hb dX8_reckon_59 (lv_at hl 1 rfl) ?_
        refine pg_get (ci := 4) (C := RX4) (T := TX4) (N := 3) hx hb hts hinX4 hown hK hP hmm_y hFm_y rfl 0 (by decide) (hts (.fieldLink RX8 103 "RopeDrums$Meter" "lane" "I") (by decide +kernel)) (fun _ h9 => h9) rfl dX8_reckon_61 ?_
        refine va_mmax hx hb (by rw [hml]; exact hl.1.symm) hown (hts (.methodLink RX8 117 Lib.Math.max.name) (by decide +kernel)) (hts (.static Lib.Math.max.name) (by decide +kernel)) (hts (.initialized "java/lang/Math") (by decide +kernel)) (hts (.code Lib.Math.max.name Lib.Math.max.code 2 (some .int)) (by decide +kernel)) (Nat.le_of_ble_eq_true rfl) (Nat.le_of_ble_eq_true rfl) (Nat.zero_le _) (Nat.zero_le _) dX8_reckon_64 ?_
        refine lv_topi (fun v27 ev27 => ?_)
        rw [mx_eq] at ev27
        subst ev27
        have hmx := mx_v hok_x.lane hok_y.lane
        refine lv_istore (lv' := [(8, .int (mx (Mm.1 j_x) (Mm.1 j_y))), (7, .ref (qa 0 j_into)), (6, .ref (qa 0 j_y)), (5, .ref (qa 0 j_x)), (0, .ref o), (1, .int 4), (2, .int (nI j_x)), (3, .int (nI j_y)), (4, .int (nI j_into))]) hx hb dX8_reckon_67 hl (by decide) rfl (fun ls hl => ?_)
        refine lv_iload hx hb dX8_reckon_69 (lv_at hl 0 rfl) ?_
        refine lv_iconst (v := 1) hx hb dX8_reckon_71 (by decide) ?_
        refine lv_icmp_gt (tgt := 95) hx hb dX8_reckon_72 (by decide) (fun c28 => ?_) (fun c28 => ?_)
        · rcases (hmx.2 c28).1 with hmxl | hmxl
          · refine lv_iload_n hx hb dX8_reckon_95 rfl (lv_at hl 5 rfl) ?_
            refine lv_aload hx hb dX8_reckon_96 (lv_at hl 3 rfl) ?_
            refine lv_iload hx hb dX8_reckon_98 (lv_at hl 0 rfl) ?_
            refine vp_callSd (W.runV (As := [.int (mx (Mm.1 j_x) (Mm.1 j_y))]) (rest := [.int 4]) ⟨hx, hb, hml, hown, hts⟩ (c_asReal l G cy L F (qa 0 j_x) (Mm.1 j_x) nm_x rl_x hmm_x hFm_x (mx (Mm.1 j_x) (Mm.1 j_y)) hok_x.ne) (cwV 1 hts gX8_reckon_X4_asReal rfl rfl rfl (by decide +kernel) ⟨Nat.le_of_ble_eq_true rfl, Nat.le_of_ble_eq_true rfl⟩) (preV_of okP (⟨hP, hK, hD.top⟩) (pl_recv hK hP (ci := 4) rfl hmm_x hFm_x)) rfl rfl hl.1 rfl (lv_room (Nat.le_of_ble_eq_true rfl)) dX8_reckon_100 ⟨Nat.le_of_ble_eq_true rfl, Nat.le_of_ble_eq_true rfl⟩) (fun r29 hr29 => ?_)
            refine lv_aload hx hb dX8_reckon_103 (lv_at hl 2 rfl) ?_
            refine lv_iload hx hb dX8_reckon_105 (lv_at hl 0 rfl) ?_
            refine vp_callSd (W.runV (As := [.int (mx (Mm.1 j_x) (Mm.1 j_y))]) (rest := [.double r29, .int 4]) ⟨hx, hb, hml, hown, hts⟩ (c_asReal l G cy L F (qa 0 j_y) (Mm.1 j_y) nm_y rl_y hmm_y hFm_y (mx (Mm.1 j_x) (Mm.1 j_y)) hok_y.ne) (cwV 1 hts gX8_reckon_X4_asReal rfl rfl rfl (by decide +kernel) ⟨Nat.le_of_ble_eq_true rfl, Nat.le_of_ble_eq_true rfl⟩) (preV_of okP (⟨hP, hK, hD.top⟩) (pl_recv hK hP (ci := 4) rfl hmm_y hFm_y)) rfl rfl hl.1 rfl (lv_room (Nat.le_of_ble_eq_true rfl)) dX8_reckon_107 ⟨Nat.le_of_ble_eq_true rfl, Nat.le_of_ble_eq_true rfl⟩) (fun r30 hr30 => ?_)
            refine vp_callSi (W.runS (As := [.int 4, .double r29, .double r30]) (rest := []) ⟨hx, hb, hml, hown, hts⟩ (c_isVoid_4 l r29 r30) (va_cwS 3 hts gX8_reckon_X8_isVoid rfl rfl rfl (by decide +kernel) ⟨Nat.le_of_ble_eq_true rfl, Nat.le_of_ble_eq_true rfl⟩) (preS_of okT (trivial)) rfl rfl hl.1 rfl (lv_room (Nat.le_of_ble_eq_true rfl)) dX8_reckon_110 ⟨Nat.le_of_ble_eq_true rfl, Nat.le_of_ble_eq_true rfl⟩) (fun r31 hr31 => ?_)
            rw [hr29, hr30, hmxl, (real_2 hok_x).1, (real_2 hok_y).1, vf4 (real_2 hok_x).2.1 (real_2 hok_y).2.1] at hr31
            refine lv_if_eq (tgt := 122) hx hb dX8_reckon_113 (by decide) (fun c32 => ?_) (fun c32 => ?_)
            · have hnan : FP.Core.fIsNaN (rkF 4 (fl (tn (Mm.1 j_x) (Mm.2 j_x) 2)) (fl (tn (Mm.1 j_y) (Mm.2 j_y) 2))) = false := by have hc := c32; rw [hr31] at hc; exact Bool.eq_false_iff.mpr (fun q => absurd ((if_pos (t := (1 : Int32)) (e := 0) q).symm.trans hc) (by decide))
              refine lv_iload hx hb dX8_reckon_122 (lv_at hl 0 rfl) ?_
              refine lv_iconst (v := 2) hx hb dX8_reckon_124 (by decide) ?_
              refine lv_icmp_ne (tgt := 146) hx hb dX8_reckon_125 (by decide) (fun c33 => absurd (hmxl) c33) (fun c33 => ?_)
              refine lv_iload_n hx hb dX8_reckon_128 rfl (lv_at hl 5 rfl) ?_
              refine lv_aload hx hb dX8_reckon_129 (lv_at hl 3 rfl) ?_
              refine vp_callSf (W.runV (As := []) (rest := [.int 4]) ⟨hx, hb, hml, hown, hts⟩ (c_asFloat l G cy L F (qa 0 j_x) (Mm.1 j_x) nm_x rl_x hmm_x hFm_x  hok_x.ne) (cwV 0 hts gX8_reckon_X4_asFloat rfl rfl rfl (by decide +kernel) ⟨Nat.le_of_ble_eq_true rfl, Nat.le_of_ble_eq_true rfl⟩) (preV_of okP (⟨hP, hK, hD.top⟩) (pl_recv hK hP (ci := 4) rfl hmm_x hFm_x)) rfl rfl hl.1 rfl (lv_room (Nat.le_of_ble_eq_true rfl)) dX8_reckon_131 ⟨Nat.le_of_ble_eq_true rfl, Nat.le_of_ble_eq_true rfl⟩) (fun r34 hr34 => ?_)
              refine lv_aload hx hb dX8_reckon_134 (lv_at hl 2 rfl) ?_
              refine vp_callSf (W.runV (As := []) (rest := [.float r34, .int 4]) ⟨hx, hb, hml, hown, hts⟩ (c_asFloat l G cy L F (qa 0 j_y) (Mm.1 j_y) nm_y rl_y hmm_y hFm_y  hok_y.ne) (cwV 0 hts gX8_reckon_X4_asFloat rfl rfl rfl (by decide +kernel) ⟨Nat.le_of_ble_eq_true rfl, Nat.le_of_ble_eq_true rfl⟩) (preV_of okP (⟨hP, hK, hD.top⟩) (pl_recv hK hP (ci := 4) rfl hmm_y hFm_y)) rfl rfl hl.1 rfl (lv_room (Nat.le_of_ble_eq_true rfl)) dX8_reckon_136 ⟨Nat.le_of_ble_eq_true rfl, Nat.le_of_ble_eq_true rfl⟩) (fun r35 hr35 => ?_)
              refine vp_callSf (W.runS (As := [.int 4, .float r34, .float r35]) (rest := []) ⟨hx, hb, hml, hown, hts⟩ (c_makeFloat_4 l ad r34 r35 (by rw [hr34]; exact asFloat_ok hok_x.ne) (by rw [hr35]; exact asFloat_ok hok_y.ne) (by rw [hr34, hr35, (real_2 hok_x).2.2, (real_2 hok_y).2.2]; exact hnan)) (va_cwS 3 hts gX8_reckon_X8_makeFloat rfl rfl rfl (by decide +kernel) ⟨Nat.le_of_ble_eq_true rfl, Nat.le_of_ble_eq_true rfl⟩) (preS_of okE (pE.low hE hN hS)) rfl rfl hl.1 rfl (lv_room (Nat.le_of_ble_eq_true rfl)) dX8_reckon_139 ⟨Nat.le_of_ble_eq_true rfl, Nat.le_of_ble_eq_true rfl⟩) (fun r36 hr36 => ?_)
              rw [hr34, hr35, (real_2 hok_x).2.2, (real_2 hok_y).2.2] at hr36
              refine lv_f2d hx hb dX8_reckon_142 (n64.mpr (f2d_ok (by rw [hr36]; exact (FP.Core.notNaN_iff32 _).mp hnan)).2) ?_
              refine lv_topd (fun v37 ev37 => ?_)
              refine lv_goto (tgt := 160) hx hb dX8_reckon_143 (by decide) ?_
              refine lv_dstore (lv' := [(9, .double v37), (8, .int (mx (Mm.1 j_x) (Mm.1 j_y))), (7, .ref (qa 0 j_into)), (6, .ref (qa 0 j_y)), (5, .ref (qa 0 j_x)), (0, .ref o), (1, .int 4), (2, .int (nI j_x)), (3, .int (nI j_y)), (4, .int (nI j_into))]) hx hb dX8_reckon_160 hl (by decide) rfl (fun ls hl => ?_)
              refine lv_aload hx hb dX8_reckon_162 (lv_at hl 2 rfl) ?_
              refine lv_iload hx hb dX8_reckon_164 (lv_at hl 1 rfl) ?_
              refine lv_dload hx hb dX8_reckon_166 (lv_at hl 0 rfl) ?_
              refine va_callv (va_runV (As := [.int (mx (Mm.1 j_x) (Mm.1 j_y)), .double v37]) (rest := []) ⟨hx, hb, hml, hown, hts⟩ (c_holdReal l G cy L F s.heap.size (qa 0 j_into) (Mm.1 j_into) nm_into rl_into hmm_into hFm_into (mx (Mm.1 j_x) (Mm.1 j_y)) v37) (cwV 2 hts gX8_reckon_X4_holdReal rfl rfl rfl (by decide +kernel) ⟨Nat.le_of_ble_eq_true rfl, Nat.le_of_ble_eq_true rfl⟩) (preV_of okQ (⟨rfl, hP, hK, hD.top⟩) (pl_recv hK hP (ci := 4) rfl hmm_into hFm_into)) rfl rfl hl.1 rfl (lv_room (Nat.le_of_ble_eq_true rfl)) dX8_reckon_168 ⟨Nat.le_of_ble_eq_true rfl, Nat.le_of_ble_eq_true rfl⟩) hS (fun q _ h => pl_free hD hS hA q h) (pl_free hD hS hA) (fun F38 t H1 locs ht hvm hw hP1 hz1 hk1 hS => ?_)
              have hP1 : va_P G vwCl (va_pl L F38) t.heap := hP1
              rw [ht] at hP1
              have hP := hP1
              generalize H1 = H at hP hS ⊢
              have eF38 : F38 = va_up F (qa 0 j_into) (.inr (4, [.int (mx (Mm.1 j_x) (Mm.1 j_y)), .long nm_into, .double v37])) := hw
              have hFo_38 : F38 o = .inr (7, [.ref (qa 8 0), .ref (qa 8 1), .ref (qa 8 2), .ref (qa 8 3), .ref (qa 8 4), .ref (qa 8 5), .ref (qa 8 6), .int Pp.1, .int Xx.1]) := by rw [eF38, va_up_ne _ _ (pl_ne hFo hFm_into rfl)]; exact hFo
              have hFqa80_38 : F38 (qa 8 0) = cQ (cy 7) 10 (pR 10 (qa 0)) := by rw [eF38, va_up_ne _ _ (pl_ne hF0 hFm_into rfl)]; exact hF0
              have hFqa81_38 : F38 (qa 8 1) = cQ (cy 5) 6 (pR 6 (qa 1)) := by rw [eF38, va_up_ne _ _ (pl_ne hF1 hFm_into rfl)]; exact hF1
              have hFqa82_38 : F38 (qa 8 2) = cQ (cy 6) 8 (pR 8 (qa 2)) := by rw [eF38, va_up_ne _ _ (pl_ne hF2 hFm_into rfl)]; exact hF2
              have hFqa83_38 : F38 (qa 8 3) = cQ (cy 9) 30 (pR Pp.1.toInt.toNat (qa 7)) := by rw [eF38, va_up_ne _ _ (pl_ne hFs hFm_into rfl)]; exact hFs
              have hFqa84_38 : F38 (qa 8 4) = cQ (cy 8) 5 (pR 5 (qa 4)) := by rw [eF38, va_up_ne _ _ (pl_ne hF4 hFm_into rfl)]; exact hF4
              have hFqa85_38 : F38 (qa 8 5) = cQ (cy 4) 4 (pR 4 (qa 6)) := by rw [eF38, va_up_ne _ _ (pl_ne hF5 hFm_into rfl)]; exact hF5
              have hFqa86_38 : F38 (qa 8 6) = cI (cy 1) 6 Xx.2 := by rw [eF38, va_up_ne _ _ (pl_ne hFf hFm_into rfl)]; exact hFf
              have hFqa0j_into_38 : F38 (qa 0 j_into) = .inr (4, [.int (mx (Mm.1 j_x) (Mm.1 j_y)), .long nm_into, .double v37]) := by rw [eF38]; exact va_up_self _ _ _
              have hR39 : Rep cy L o qa (setM Mm j_into 2 (rkF 4 (fl (tn (Mm.1 j_x) (Mm.2 j_x) 2)) (fl (tn (Mm.1 j_y) (Mm.2 j_y) 2))).toInt32.toInt64) Dd Sl Pp Kr Bk Xx F38 := by rw [eF38, ev37, hr36, hmxl]; exact hR.meter hj_into (real_okM2 ((FP.Core.notNaN_iff32 _).mp hnan))
              refine lv_aload_n hx hb dX8_reckon_171 rfl (lv_at hl 5 rfl) ?_
              refine lv_iload hx hb dX8_reckon_172 (lv_at hl 1 rfl) ?_
              refine va_calli (va_runV (As := [.int (mx (Mm.1 j_x) (Mm.1 j_y))]) (rest := []) ⟨hx, hb, hml, hown, hts⟩ (c_succeed l G cy L F38 H.size o qa (setM Mm j_into 2 (rkF 4 (fl (tn (Mm.1 j_x) (Mm.2 j_x) 2)) (fl (tn (Mm.1 j_y) (Mm.2 j_y) 2))).toInt32.toInt64) Dd Sl Pp Kr Bk Xx hR39 (mx (Mm.1 j_x) (Mm.1 j_y))) (cwV 1 hts gX8_reckon_X8_succeed rfl rfl rfl (by decide +kernel) ⟨Nat.le_of_ble_eq_true rfl, Nat.le_of_ble_eq_true rfl⟩) (preV_of okQ (⟨rfl, hP, hK, hD.top⟩) (pl_recv hK hP (ci := 7) rfl hmo hFo_38)) rfl rfl hl.1 rfl (lv_room (Nat.le_of_ble_eq_true rfl)) dX8_reckon_174 ⟨Nat.le_of_ble_eq_true rfl, Nat.le_of_ble_eq_true rfl⟩) hS (fun q _ h => pl_free hD hS hA q h) (pl_free hD hS hA) (fun r41 F40 t H1 locs ht hvm hw hP1 hz1 hk1 hS => ?_)
              have hP1 : va_P G vwCl (va_pl L F40) t.heap := hP1
              rw [ht] at hP1
              have hP := hP1
              generalize H1 = H at hP hS ⊢
              obtain ⟨hqr41, hR42⟩ := hw
              exact W.iret (v := r41) hx hb hr (fun t ht hW => ⟨⟨r41, F40, rfl, (by have hsp : sp_reckon Mm Xx 4 (nI j_x) (nI j_y) (nI j_into) = (2, setM Mm j_into 2 (rkF 4 (fl (tn (Mm.1 j_x) (Mm.2 j_x) 2)) (fl (tn (Mm.1 j_y) (Mm.2 j_y) 2))).toInt32.toInt64, goodX Xx) := (by unfold sp_reckon; rw [hi_x, hi_y, hi_into, ixk.2.2.2.2]; show rk Mm Xx 4 j_x j_y j_into = _; unfold rk; rw [if_neg (hmx.2 c28).2, if_pos hmxl]; exact if_neg (by rw [hnan]; decide)); rw [hsp]; exact ⟨(by rw [hqr41]; exact hmxl), hR42⟩), (by show va_P _ _ _ t.heap; rw [ht]; exact hP)⟩, hS.F ht⟩) hS.2.2 dX8_reckon_177
            · have hnan : FP.Core.fIsNaN (rkF 4 (fl (tn (Mm.1 j_x) (Mm.2 j_x) 2)) (fl (tn (Mm.1 j_y) (Mm.2 j_y) 2))) = true := Decidable.byContradiction (fun q => c32 (by rw [hr31]; exact if_neg q))
              refine lv_aload_n hx hb dX8_reckon_116 rfl (lv_at hl 4 rfl) ?_
              refine lv_iconst (v := 5) hx hb dX8_reckon_117 (by decide) ?_
              refine va_calli (va_runV (As := [.int 5]) (rest := []) ⟨hx, hb, hml, hown, hts⟩ (c_fail_5 l G cy L F s.heap.size o qa Mm Dd Sl Pp Kr Bk Xx hR) (cwV 1 hts gX8_reckon_X8_fail rfl rfl rfl (by decide +kernel) ⟨Nat.le_of_ble_eq_true rfl, Nat.le_of_ble_eq_true rfl⟩) (preV_of okQ (⟨rfl, hP, hK, hD.top⟩) (pl_recv hK hP (ci := 7) rfl hmo hFo)) rfl rfl hl.1 rfl (lv_room (Nat.le_of_ble_eq_true rfl)) dX8_reckon_118 ⟨Nat.le_of_ble_eq_true rfl, Nat.le_of_ble_eq_true rfl⟩) hS (fun q _ h => pl_free hD hS hA q h) (pl_free hD hS hA) (fun r44 F43 t H1 locs ht hvm hw hP1 hz1 hk1 hS => ?_)
              have hP1 : va_P G vwCl (va_pl L F43) t.heap := hP1
              rw [ht] at hP1
              have hP := hP1
              generalize H1 = H at hP hS ⊢
              obtain ⟨hqr44, hR45⟩ := hw
              exact W.iret (v := r44) hx hb hr (fun t ht hW => ⟨⟨r44, F43, rfl, (by have hsp : sp_reckon Mm Xx 4 (nI j_x) (nI j_y) (nI j_into) = (-15, Mm, failX Xx 5) := (by unfold sp_reckon; rw [hi_x, hi_y, hi_into, ixk.2.2.2.2]; show rk Mm Xx 4 j_x j_y j_into = _; unfold rk; rw [if_neg (hmx.2 c28).2, if_pos hmxl]; exact if_pos hnan); rw [hsp]; exact ⟨hqr44, hR45⟩), (by show va_P _ _ _ t.heap; rw [ht]; exact hP)⟩, hS.F ht⟩) hS.2.2 dX8_reckon_121
          · refine lv_iload_n hx hb dX8_reckon_95 rfl (lv_at hl 5 rfl) ?_
            refine lv_aload hx hb dX8_reckon_96 (lv_at hl 3 rfl) ?_
            refine lv_iload hx hb dX8_reckon_98 (lv_at hl 0 rfl) ?_
            refine vp_callSd (W.runV (As := [.int (mx (Mm.1 j_x) (Mm.1 j_y))]) (rest := [.int 4]) ⟨hx, hb, hml, hown, hts⟩ (c_asReal l G cy L F (qa 0 j_x) (Mm.1 j_x) nm_x rl_x hmm_x hFm_x (mx (Mm.1 j_x) (Mm.1 j_y)) hok_x.ne) (cwV 1 hts gX8_reckon_X4_asReal rfl rfl rfl (by decide +kernel) ⟨Nat.le_of_ble_eq_true rfl, Nat.le_of_ble_eq_true rfl⟩) (preV_of okP (⟨hP, hK, hD.top⟩) (pl_recv hK hP (ci := 4) rfl hmm_x hFm_x)) rfl rfl hl.1 rfl (lv_room (Nat.le_of_ble_eq_true rfl)) dX8_reckon_100 ⟨Nat.le_of_ble_eq_true rfl, Nat.le_of_ble_eq_true rfl⟩) (fun r46 hr46 => ?_)
            refine lv_aload hx hb dX8_reckon_103 (lv_at hl 2 rfl) ?_
            refine lv_iload hx hb dX8_reckon_105 (lv_at hl 0 rfl) ?_
            refine vp_callSd (W.runV (As := [.int (mx (Mm.1 j_x) (Mm.1 j_y))]) (rest := [.double r46, .int 4]) ⟨hx, hb, hml, hown, hts⟩ (c_asReal l G cy L F (qa 0 j_y) (Mm.1 j_y) nm_y rl_y hmm_y hFm_y (mx (Mm.1 j_x) (Mm.1 j_y)) hok_y.ne) (cwV 1 hts gX8_reckon_X4_asReal rfl rfl rfl (by decide +kernel) ⟨Nat.le_of_ble_eq_true rfl, Nat.le_of_ble_eq_true rfl⟩) (preV_of okP (⟨hP, hK, hD.top⟩) (pl_recv hK hP (ci := 4) rfl hmm_y hFm_y)) rfl rfl hl.1 rfl (lv_room (Nat.le_of_ble_eq_true rfl)) dX8_reckon_107 ⟨Nat.le_of_ble_eq_true rfl, Nat.le_of_ble_eq_true rfl⟩) (fun r47 hr47 => ?_)
            refine vp_callSi (W.runS (As := [.int 4, .double r46, .double r47]) (rest := []) ⟨hx, hb, hml, hown, hts⟩ (c_isVoid_4 l r46 r47) (va_cwS 3 hts gX8_reckon_X8_isVoid rfl rfl rfl (by decide +kernel) ⟨Nat.le_of_ble_eq_true rfl, Nat.le_of_ble_eq_true rfl⟩) (preS_of okT (trivial)) rfl rfl hl.1 rfl (lv_room (Nat.le_of_ble_eq_true rfl)) dX8_reckon_110 ⟨Nat.le_of_ble_eq_true rfl, Nat.le_of_ble_eq_true rfl⟩) (fun r48 hr48 => ?_)
            rw [hr46, hr47, hmxl, (real_3 hok_x).1, (real_3 hok_y).1, void4 (real_3 hok_x).2.1 (real_3 hok_y).2.1] at hr48
            refine lv_if_eq (tgt := 122) hx hb dX8_reckon_113 (by decide) (fun c49 => ?_) (fun c49 => ?_)
            · have hnan : FP.Core.dIsNaN (rkD 4 (db (tn (Mm.1 j_x) (Mm.2 j_x) 3)) (db (tn (Mm.1 j_y) (Mm.2 j_y) 3))) = false := by have hc := c49; rw [hr48] at hc; exact Bool.eq_false_iff.mpr (fun q => absurd ((if_pos (t := (1 : Int32)) (e := 0) q).symm.trans hc) (by decide))
              refine lv_iload hx hb dX8_reckon_122 (lv_at hl 0 rfl) ?_
              refine lv_iconst (v := 2) hx hb dX8_reckon_124 (by decide) ?_
              refine lv_icmp_ne (tgt := 146) hx hb dX8_reckon_125 (by decide) (fun c50 => ?_) (fun c50 => absurd c50 (by rw [hmxl]; decide))
              refine lv_iload_n hx hb dX8_reckon_146 rfl (lv_at hl 5 rfl) ?_
              refine lv_aload hx hb dX8_reckon_147 (lv_at hl 3 rfl) ?_
              refine vp_callSd (W.runV (As := []) (rest := [.int 4]) ⟨hx, hb, hml, hown, hts⟩ (c_asDouble l G cy L F (qa 0 j_x) (Mm.1 j_x) nm_x rl_x hmm_x hFm_x ) (cwV 0 hts gX8_reckon_X4_asDouble rfl rfl rfl (by decide +kernel) ⟨Nat.le_of_ble_eq_true rfl, Nat.le_of_ble_eq_true rfl⟩) (preV_of okP (⟨hP, hK, hD.top⟩) (pl_recv hK hP (ci := 4) rfl hmm_x hFm_x)) rfl rfl hl.1 rfl (lv_room (Nat.le_of_ble_eq_true rfl)) dX8_reckon_149 ⟨Nat.le_of_ble_eq_true rfl, Nat.le_of_ble_eq_true rfl⟩) (fun r51 hr51 => ?_)
              refine lv_aload hx hb dX8_reckon_152 (lv_at hl 2 rfl) ?_
              refine vp_callSd (W.runV (As := []) (rest := [.double r51, .int 4]) ⟨hx, hb, hml, hown, hts⟩ (c_asDouble l G cy L F (qa 0 j_y) (Mm.1 j_y) nm_y rl_y hmm_y hFm_y ) (cwV 0 hts gX8_reckon_X4_asDouble rfl rfl rfl (by decide +kernel) ⟨Nat.le_of_ble_eq_true rfl, Nat.le_of_ble_eq_true rfl⟩) (preV_of okP (⟨hP, hK, hD.top⟩) (pl_recv hK hP (ci := 4) rfl hmm_y hFm_y)) rfl rfl hl.1 rfl (lv_room (Nat.le_of_ble_eq_true rfl)) dX8_reckon_154 ⟨Nat.le_of_ble_eq_true rfl, Nat.le_of_ble_eq_true rfl⟩) (fun r52 hr52 => ?_)
              refine vp_callSd (W.runS (As := [.int 4, .double r51, .double r52]) (rest := []) ⟨hx, hb, hml, hown, hts⟩ (c_makeDouble_4 l ad r51 r52 (by rw [hr51]; exact asDouble_ok hok_x.ne) (by rw [hr52]; exact asDouble_ok hok_y.ne) (by rw [hr51, hr52, (real_3 hok_x).2.2, (real_3 hok_y).2.2]; exact hnan)) (va_cwS 3 hts gX8_reckon_X8_makeDouble rfl rfl rfl (by decide +kernel) ⟨Nat.le_of_ble_eq_true rfl, Nat.le_of_ble_eq_true rfl⟩) (preS_of okE (pE.low hE hN hS)) rfl rfl hl.1 rfl (lv_room (Nat.le_of_ble_eq_true rfl)) dX8_reckon_157 ⟨Nat.le_of_ble_eq_true rfl, Nat.le_of_ble_eq_true rfl⟩) (fun r53 hr53 => ?_)
              rw [hr51, hr52, (real_3 hok_x).2.2, (real_3 hok_y).2.2] at hr53
              refine lv_dstore (lv' := [(9, .double r53), (8, .int (mx (Mm.1 j_x) (Mm.1 j_y))), (7, .ref (qa 0 j_into)), (6, .ref (qa 0 j_y)), (5, .ref (qa 0 j_x)), (0, .ref o), (1, .int 4), (2, .int (nI j_x)), (3, .int (nI j_y)), (4, .int (nI j_into))]) hx hb dX8_reckon_160 hl (by decide) rfl (fun ls hl => ?_)
              refine lv_aload hx hb dX8_reckon_162 (lv_at hl 2 rfl) ?_
              refine lv_iload hx hb dX8_reckon_164 (lv_at hl 1 rfl) ?_
              refine lv_dload hx hb dX8_reckon_166 (lv_at hl 0 rfl) ?_
              refine va_callv (va_runV (As := [.int (mx (Mm.1 j_x) (Mm.1 j_y)), .double r53]) (rest := []) ⟨hx, hb, hml, hown, hts⟩ (c_holdReal l G cy L F s.heap.size (qa 0 j_into) (Mm.1 j_into) nm_into rl_into hmm_into hFm_into (mx (Mm.1 j_x) (Mm.1 j_y)) r53) (cwV 2 hts gX8_reckon_X4_holdReal rfl rfl rfl (by decide +kernel) ⟨Nat.le_of_ble_eq_true rfl, Nat.le_of_ble_eq_true rfl⟩) (preV_of okQ (⟨rfl, hP, hK, hD.top⟩) (pl_recv hK hP (ci := 4) rfl hmm_into hFm_into)) rfl rfl hl.1 rfl (lv_room (Nat.le_of_ble_eq_true rfl)) dX8_reckon_168 ⟨Nat.le_of_ble_eq_true rfl, Nat.le_of_ble_eq_true rfl⟩) hS (fun q _ h => pl_free hD hS hA q h) (pl_free hD hS hA) (fun F54 t H1 locs ht hvm hw hP1 hz1 hk1 hS => ?_)
              have hP1 : va_P G vwCl (va_pl L F54) t.heap := hP1
              rw [ht] at hP1
              have hP := hP1
              generalize H1 = H at hP hS ⊢
              have eF54 : F54 = va_up F (qa 0 j_into) (.inr (4, [.int (mx (Mm.1 j_x) (Mm.1 j_y)), .long nm_into, .double r53])) := hw
              have hFo_54 : F54 o = .inr (7, [.ref (qa 8 0), .ref (qa 8 1), .ref (qa 8 2), .ref (qa 8 3), .ref (qa 8 4), .ref (qa 8 5), .ref (qa 8 6), .int Pp.1, .int Xx.1]) := by rw [eF54, va_up_ne _ _ (pl_ne hFo hFm_into rfl)]; exact hFo
              have hFqa80_54 : F54 (qa 8 0) = cQ (cy 7) 10 (pR 10 (qa 0)) := by rw [eF54, va_up_ne _ _ (pl_ne hF0 hFm_into rfl)]; exact hF0
              have hFqa81_54 : F54 (qa 8 1) = cQ (cy 5) 6 (pR 6 (qa 1)) := by rw [eF54, va_up_ne _ _ (pl_ne hF1 hFm_into rfl)]; exact hF1
              have hFqa82_54 : F54 (qa 8 2) = cQ (cy 6) 8 (pR 8 (qa 2)) := by rw [eF54, va_up_ne _ _ (pl_ne hF2 hFm_into rfl)]; exact hF2
              have hFqa83_54 : F54 (qa 8 3) = cQ (cy 9) 30 (pR Pp.1.toInt.toNat (qa 7)) := by rw [eF54, va_up_ne _ _ (pl_ne hFs hFm_into rfl)]; exact hFs
              have hFqa84_54 : F54 (qa 8 4) = cQ (cy 8) 5 (pR 5 (qa 4)) := by rw [eF54, va_up_ne _ _ (pl_ne hF4 hFm_into rfl)]; exact hF4
              have hFqa85_54 : F54 (qa 8 5) = cQ (cy 4) 4 (pR 4 (qa 6)) := by rw [eF54, va_up_ne _ _ (pl_ne hF5 hFm_into rfl)]; exact hF5
              have hFqa86_54 : F54 (qa 8 6) = cI (cy 1) 6 Xx.2 := by rw [eF54, va_up_ne _ _ (pl_ne hFf hFm_into rfl)]; exact hFf
              have hFqa0j_into_54 : F54 (qa 0 j_into) = .inr (4, [.int (mx (Mm.1 j_x) (Mm.1 j_y)), .long nm_into, .double r53]) := by rw [eF54]; exact va_up_self _ _ _
              have hR55 : Rep cy L o qa (setM Mm j_into 3 (rkD 4 (db (tn (Mm.1 j_x) (Mm.2 j_x) 3)) (db (tn (Mm.1 j_y) (Mm.2 j_y) 3))).toInt64) Dd Sl Pp Kr Bk Xx F54 := by rw [eF54, hr53, hmxl]; exact hR.meter hj_into (real_okM3 ((FP.Core.notNaN_iff _).mp hnan))
              refine lv_aload_n hx hb dX8_reckon_171 rfl (lv_at hl 5 rfl) ?_
              refine lv_iload hx hb dX8_reckon_172 (lv_at hl 1 rfl) ?_
              refine va_calli (va_runV (As := [.int (mx (Mm.1 j_x) (Mm.1 j_y))]) (rest := []) ⟨hx, hb, hml, hown, hts⟩ (c_succeed l G cy L F54 H.size o qa (setM Mm j_into 3 (rkD 4 (db (tn (Mm.1 j_x) (Mm.2 j_x) 3)) (db (tn (Mm.1 j_y) (Mm.2 j_y) 3))).toInt64) Dd Sl Pp Kr Bk Xx hR55 (mx (Mm.1 j_x) (Mm.1 j_y))) (cwV 1 hts gX8_reckon_X8_succeed rfl rfl rfl (by decide +kernel) ⟨Nat.le_of_ble_eq_true rfl, Nat.le_of_ble_eq_true rfl⟩) (preV_of okQ (⟨rfl, hP, hK, hD.top⟩) (pl_recv hK hP (ci := 7) rfl hmo hFo_54)) rfl rfl hl.1 rfl (lv_room (Nat.le_of_ble_eq_true rfl)) dX8_reckon_174 ⟨Nat.le_of_ble_eq_true rfl, Nat.le_of_ble_eq_true rfl⟩) hS (fun q _ h => pl_free hD hS hA q h) (pl_free hD hS hA) (fun r57 F56 t H1 locs ht hvm hw hP1 hz1 hk1 hS => ?_)
              have hP1 : va_P G vwCl (va_pl L F56) t.heap := hP1
              rw [ht] at hP1
              have hP := hP1
              generalize H1 = H at hP hS ⊢
              obtain ⟨hqr57, hR58⟩ := hw
              exact W.iret (v := r57) hx hb hr (fun t ht hW => ⟨⟨r57, F56, rfl, (by have hsp : sp_reckon Mm Xx 4 (nI j_x) (nI j_y) (nI j_into) = (3, setM Mm j_into 3 (rkD 4 (db (tn (Mm.1 j_x) (Mm.2 j_x) 3)) (db (tn (Mm.1 j_y) (Mm.2 j_y) 3))).toInt64, goodX Xx) := (by unfold sp_reckon; rw [hi_x, hi_y, hi_into, ixk.2.2.2.2]; show rk Mm Xx 4 j_x j_y j_into = _; unfold rk; rw [if_neg (hmx.2 c28).2, if_neg (by rw [hmxl]; decide)]; exact if_neg (by rw [hnan]; decide)); rw [hsp]; exact ⟨(by rw [hqr57]; exact hmxl), hR58⟩), (by show va_P _ _ _ t.heap; rw [ht]; exact hP)⟩, hS.F ht⟩) hS.2.2 dX8_reckon_177
            · have hnan : FP.Core.dIsNaN (rkD 4 (db (tn (Mm.1 j_x) (Mm.2 j_x) 3)) (db (tn (Mm.1 j_y) (Mm.2 j_y) 3))) = true := Decidable.byContradiction (fun q => c49 (by rw [hr48]; exact if_neg q))
              refine lv_aload_n hx hb dX8_reckon_116 rfl (lv_at hl 4 rfl) ?_
              refine lv_iconst (v := 5) hx hb dX8_reckon_117 (by decide) ?_
              refine va_calli (va_runV (As := [.int 5]) (rest := []) ⟨hx, hb, hml, hown, hts⟩ (c_fail_5 l G cy L F s.heap.size o qa Mm Dd Sl Pp Kr Bk Xx hR) (cwV 1 hts gX8_reckon_X8_fail rfl rfl rfl (by decide +kernel) ⟨Nat.le_of_ble_eq_true rfl, Nat.le_of_ble_eq_true rfl⟩) (preV_of okQ (⟨rfl, hP, hK, hD.top⟩) (pl_recv hK hP (ci := 7) rfl hmo hFo)) rfl rfl hl.1 rfl (lv_room (Nat.le_of_ble_eq_true rfl)) dX8_reckon_118 ⟨Nat.le_of_ble_eq_true rfl, Nat.le_of_ble_eq_true rfl⟩) hS (fun q _ h => pl_free hD hS hA q h) (pl_free hD hS hA) (fun r60 F59 t H1 locs ht hvm hw hP1 hz1 hk1 hS => ?_)
              have hP1 : va_P G vwCl (va_pl L F59) t.heap := hP1
              rw [ht] at hP1
              have hP := hP1
              generalize H1 = H at hP hS ⊢
              obtain ⟨hqr60, hR61⟩ := hw
              exact W.iret (v := r60) hx hb hr (fun t ht hW => ⟨⟨r60, F59, rfl, (by have hsp : sp_reckon Mm Xx 4 (nI j_x) (nI j_y) (nI j_into) = (-15, Mm, failX Xx 5) := (by unfold sp_reckon; rw [hi_x, hi_y, hi_into, ixk.2.2.2.2]; show rk Mm Xx 4 j_x j_y j_into = _; unfold rk; rw [if_neg (hmx.2 c28).2, if_neg (by rw [hmxl]; decide)]; exact if_pos hnan); rw [hsp]; exact ⟨hqr60, hR61⟩), (by show va_P _ _ _ t.heap; rw [ht]; exact hP)⟩, hS.F ht⟩) hS.2.2 dX8_reckon_121
        · refine lv_aload_n hx hb dX8_reckon_75 rfl (lv_at hl 4 rfl) ?_
          refine lv_iload_n hx hb dX8_reckon_76 rfl (lv_at hl 5 rfl) ?_
          refine lv_iload hx hb dX8_reckon_77 (lv_at hl 0 rfl) ?_
          refine lv_aload hx hb dX8_reckon_79 (lv_at hl 3 rfl) ?_
          refine vp_callSl (W.runV (As := []) (rest := [.int (mx (Mm.1 j_x) (Mm.1 j_y)), .int 4, .ref o]) ⟨hx, hb, hml, hown, hts⟩ (c_asLong l G cy L F (qa 0 j_x) (Mm.1 j_x) nm_x rl_x hmm_x hFm_x ) (cwV 0 hts gX8_reckon_X4_asLong rfl rfl rfl (by decide +kernel) ⟨Nat.le_of_ble_eq_true rfl, Nat.le_of_ble_eq_true rfl⟩) (preV_of okP (⟨hP, hK, hD.top⟩) (pl_recv hK hP (ci := 4) rfl hmm_x hFm_x)) rfl rfl hl.1 rfl (lv_room (Nat.le_of_ble_eq_true rfl)) dX8_reckon_81 ⟨Nat.le_of_ble_eq_true rfl, Nat.le_of_ble_eq_true rfl⟩) (fun r62 hr62 => ?_)
          refine lv_aload hx hb dX8_reckon_84 (lv_at hl 2 rfl) ?_
          refine vp_callSl (W.runV (As := []) (rest := [.long r62, .int (mx (Mm.1 j_x) (Mm.1 j_y)), .int 4, .ref o]) ⟨hx, hb, hml, hown, hts⟩ (c_asLong l G cy L F (qa 0 j_y) (Mm.1 j_y) nm_y rl_y hmm_y hFm_y ) (cwV 0 hts gX8_reckon_X4_asLong rfl rfl rfl (by decide +kernel) ⟨Nat.le_of_ble_eq_true rfl, Nat.le_of_ble_eq_true rfl⟩) (preV_of okP (⟨hP, hK, hD.top⟩) (pl_recv hK hP (ci := 4) rfl hmm_y hFm_y)) rfl rfl hl.1 rfl (lv_room (Nat.le_of_ble_eq_true rfl)) dX8_reckon_86 ⟨Nat.le_of_ble_eq_true rfl, Nat.le_of_ble_eq_true rfl⟩) (fun r63 hr63 => ?_)
          refine lv_aload hx hb dX8_reckon_89 (lv_at hl 1 rfl) ?_
          refine va_calli (va_runV (As := [.int 4, .int (mx (Mm.1 j_x) (Mm.1 j_y)), .long r62, .long r63, .ref (qa 0 j_into)]) (rest := []) ⟨hx, hb, hml, hown, hts⟩ (c_rkW_4 l G cy L F s.heap.size o qa Mm Dd Sl Pp Kr Bk Xx hR (mx (Mm.1 j_x) (Mm.1 j_y)) r62 r63 j_into hj_into (hmx.1 c28).1) (cwV 5 hts gX8_reckon_X8_reckonWholes rfl rfl rfl (by decide +kernel) ⟨Nat.le_of_ble_eq_true rfl, Nat.le_of_ble_eq_true rfl⟩) (preV_of okQ (⟨rfl, hP, hK, hD.top⟩) (pl_recv hK hP (ci := 7) rfl hmo hFo)) rfl rfl hl.1 rfl (lv_room (Nat.le_of_ble_eq_true rfl)) dX8_reckon_91 ⟨Nat.le_of_ble_eq_true rfl, Nat.le_of_ble_eq_true rfl⟩) hS (fun q _ h => pl_free hD hS hA q h) (pl_free hD hS hA) (fun r65 F64 t H1 locs ht hvm hw hP1 hz1 hk1 hS => ?_)
          have hP1 : va_P G vwCl (va_pl L F64) t.heap := hP1
          rw [ht] at hP1
          have hP := hP1
          generalize H1 = H at hP hS ⊢
          obtain ⟨hqr65, hR66⟩ := hw
          exact W.iret (v := r65) hx hb hr (fun t ht hW => ⟨⟨r65, F64, rfl, (by have hsp : sp_reckon Mm Xx 4 (nI j_x) (nI j_y) (nI j_into) = rkW 4 Mm Xx (mx (Mm.1 j_x) (Mm.1 j_y)) r62 r63 j_into := (by unfold sp_reckon; rw [hi_x, hi_y, hi_into, ixk.2.2.2.2]; show rk Mm Xx 4 j_x j_y j_into = _; exact rk_eq (hmx.1 c28).2.1 (by rw [hr62]; exact (long_tn hok_x (hmx.1 c28).2.2.1 (hmx.1 c28).2.2.2).1) (by rw [hr63]; exact (long_tn hok_y (hmx.1 c28).2.2.2 (hmx.1 c28).2.2.1).2)); rw [hsp]; exact ⟨hqr65, hR66⟩), (by show va_P _ _ _ t.heap; rw [ht]; exact hP)⟩, hS.F ht⟩) hS.2.2 dX8_reckon_94
