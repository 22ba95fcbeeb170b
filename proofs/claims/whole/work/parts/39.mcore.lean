theorem okV.ex {ln : Int32} {b : Int64} (h : okV ln b) : ∃ nm rl, okM ln b nm rl := by
  rcases h with ⟨h1, h2⟩ | h1 | ⟨h1, h2, h3⟩ | ⟨h1, h2⟩
  · exact ⟨b, 0, by decide +kernel, Or.inl ⟨h1, h2, rfl⟩⟩
  · exact ⟨b, 0, by decide +kernel, Or.inr (Or.inl ⟨h1, rfl⟩)⟩
  · exact ⟨b, FP.f2d (fl b), (f2d_ok h3).2, Or.inr (Or.inr (Or.inl ⟨h1, h2, h3, rfl⟩))⟩
  · exact ⟨b, db b, h2, Or.inr (Or.inr (Or.inr ⟨h1, h2, rfl⟩))⟩
theorem okV_tn {fr to : Int32} {b : Int64} (h : okV fr b) (ht : laneB to = true) : okV to (tn fr b to) := by
  obtain ⟨nm, rl, h1⟩ := h.ex
  exact (turn_ok h1 ht).okV
theorem tn3_ok {fr : Int32} {b : Int64} (h : okV fr b) : FP.Core.val64 (db (tn fr b 3)) ≠ .nan := okV3 (okV_tn h (by decide)) (by decide) (by decide)
theorem tn2_ok {fr : Int32} {b : Int64} (h : okV fr b) : FP.Core.val32 (fl (tn fr b 2)) ≠ .nan := okV2 (okV_tn h (by decide)) rfl
theorem subI1 {x : Int32} (h : 0 ≤ x.toInt) : (x - 1).toInt = x.toInt - 1 := by
  have hr := fb_rng x
  have e : x = nI x.toInt.toNat := by rw [fa_eq, nI_toInt (by omega)]; omega
  cases hn : x.toInt.toNat with
  | zero =>
    rw [hn] at e
    subst e
    decide
  | succ n =>
    rw [hn] at e
    rw [e, nI_succ, Int32.add_sub_cancel, ← nI_succ, nI_toInt (by omega), nI_toInt (by omega)]
    omega
theorem pz1 {P : Prop} [Decidable P] {r : Int32} (h : r = if P then 1 else 0) (c : r = 0) : ¬ P := fun q => by
  rw [h, if_pos q] at c
  exact absurd c (by decide)
theorem pz2 {P : Prop} [Decidable P] {r : Int32} (h : r = if P then 1 else 0) (c : ¬ r = 0) : P := Decidable.byContradiction (fun q => c (by rw [h, if_neg q]))
theorem frem_inf32 {x y : UInt32} (hx : FP.Core.val32 x ≠ .nan) (hy : FP.Core.val32 y ≠ .nan) (hv : FP.Core.fIsNaN (FP.frem x y) = false) (h : y.toNat % 2 ^ 31 = 2139095040) : FP.frem x y = x := by
  obtain ⟨g1, g2⟩ := rem_fin32 hx hy hv
  have h1 := frem_f2d g1 hy g2
  rw [← drem_inf (f2d_DFin g1) (f2d_ok hy).2 (f2d_nz hy g2) ((f2d_pat hy).1.mpr h)] at h1
  have h2 := congrArg FP.d2f h1
  rw [d2f_f2d' ((FP.Core.notNaN_iff32 _).mp hv), d2f_f2d' hx] at h2
  exact h2
theorem drem_inf64 {x y : UInt64} (hx : FP.Core.val64 x ≠ .nan) (hy : FP.Core.val64 y ≠ .nan) (hv : FP.Core.dIsNaN (FP.drem x y) = false) (h : y.toNat % 2 ^ 63 = 9218868437227405312) : FP.drem x y = x := by
  obtain ⟨g1, g2⟩ := rem_fin hx hy hv
  exact (drem_inf g1 hy g2 h).symm

set_option maxHeartbeats 8000000 in
set_option maxRecDepth 100000 in
theorem c9_asDouble (l : Launch) (G : va_G) (cy : Nat → ClassId) (L : List Nat) (F : Nat → va_E) (o : Nat) (qm : Nat → Nat) (th sp fa : Int32) (oc : Int64) (hmo : o ∈ L) (hFo : F o = .inr (8, [.int th, .ref (qm 0), .ref (qm 1), .ref (qm 2), .ref (qm 3), .ref (qm 4), .ref (qm 5), .ref (qm 6), .ref (qm 7), .int sp, .ref (qm 8), .ref (qm 9), .ref (qm 10), .ref (qm 11), .ref (qm 12), .ref (qm 13), .ref (qm 14), .int fa, .ref (qm 15), .long oc])) (f0 : Nat → Int32) (hm0 : qm 0 ∈ L) (hF0 : F (qm 0) = cI (cy 1) 10 f0) (f1 : Nat → Int64) (hm1 : qm 1 ∈ L) (hF1 : F (qm 1) = cJ (cy 2) 10 f1) (j : Nat) (hj : j < 10) (hok : okV (f0 j) (f1 j))  : Met l yX9_asDouble wsX9_asDouble ({ frames := 3, cells := 0, slots := 0, locals := 70 }) (va_Pc [.ref o, .int (nI j)] (fun U => bP G cy L F U U.heap)) (vp_Sd (fun r : UInt64 => r = db (tn (f0 j) (f1 j) 3))) 0 0 (fun _ => False) := by
  refine Met.ofW (cc := cX9_asDouble) (maxL := 2) (ret := (some .double)) (by decide) rfl ?_
  intro p e s m args below meth c s₁ B hml hv
  obtain ⟨rfl, hP, hK, hD⟩ := hv
  have hx := B.exec
  have hb := B.bytes
  have hr := B.returns
  have hts := atoms_spec (ws := wsX9_asDouble) B.pre
  have hown : s.vm.findClass RX9 = some m.cls := findClass_of_methodNamed B.named
  have hlocks := B.notSynchronized
  have hinX9 : ∀ w ∈ wsX90, w ∈ wsX9_asDouble := by decide +kernel
  have hS : va_S (fun _ => False) s.heap s.heap [] := va_S.rf
  have hl := lv_entry ([.ref o, .int (nI j)]) (n := 2) (Nat.le_of_ble_eq_true rfl)
  rw [lg_entry_eq]
  generalize (lg_sl ([.ref o, .int (nI j)]) ++ List.replicate (2 - (lg_sl ([.ref o, .int (nI j)])).length) Slot.unset).toArray = ls at hl ⊢
  have hl : lv_has ls 2 [(0, .ref o), (1, .int (nI j))] := hl
  refine lv_aload_n hx hb dX9_asDouble_0 rfl (lv_at hl 0 rfl) ?_
  refine pg_get (ci := 8) (C := RX9) (T := TX9) (N := 20) hx hb hts hinX9 hown hK hP hmo hFo rfl 1 (by decide) (hts (.fieldLink RX9 7 "RopeDrumsModel" "laneOf" "[I") (by decide +kernel)) (fun _ h9 => h9) rfl dX9_asDouble_1 ?_
  refine lv_iload_n hx hb dX9_asDouble_4 rfl (lv_at hl 1 rfl) ?_
  refine pg_iald hx hb hK hP 1 hm0 hF0 rfl (vp_in_nI hj (by decide)) dX9_asDouble_5 ?_
  refine lv_topi (fun v1 ev1 => ?_)
  rw [nI_clamp (by omega)] at ev1
  refine lv_aload_n hx hb dX9_asDouble_6 rfl (lv_at hl 0 rfl) ?_
  refine pg_get (ci := 8) (C := RX9) (T := TX9) (N := 20) hx hb hts hinX9 hown hK hP hmo hFo rfl 2 (by decide) (hts (.fieldLink RX9 13 "RopeDrumsModel" "held" "[J") (by decide +kernel)) (fun _ h9 => h9) rfl dX9_asDouble_7 ?_
  refine lv_iload_n hx hb dX9_asDouble_10 rfl (lv_at hl 1 rfl) ?_
  refine pg_lald hx hb hK hP 2 hm1 hF1 rfl (vp_in_nI hj (by decide)) dX9_asDouble_11 ?_
  refine lv_topl (fun v2 ev2 => ?_)
  rw [nI_clamp (by omega)] at ev2
  refine lv_iconst (v := 3) hx hb dX9_asDouble_12 (by decide) ?_
  refine vp_callSl (W.runS (As := [.int v1, .long v2, .int 3]) (rest := []) ⟨hx, hb, hml, hown, hts⟩ (c9_turned l v1 3 v2 (by rw [ev1, ev2]; exact hok)) (va_cwS 3 hts gX9_asDouble_X9_turned rfl rfl rfl (by decide +kernel) ⟨Nat.le_of_ble_eq_true rfl, Nat.le_of_ble_eq_true rfl⟩) (preS_of okT (trivial)) rfl rfl hl.1 rfl (lv_room (Nat.le_of_ble_eq_true rfl)) dX9_asDouble_13 ⟨Nat.le_of_ble_eq_true rfl, Nat.le_of_ble_eq_true rfl⟩) (fun r3 hr3 => ?_)
  refine vp_callSd (W.runS (As := [.long r3]) (rest := []) ⟨hx, hb, hml, hown, hts⟩ (c9_doubleOf l r3 (by rw [hr3, ev1, ev2]; exact tn3_ok hok)) (va_cwS 1 hts gX9_asDouble_X9_doubleOf rfl rfl rfl (by decide +kernel) ⟨Nat.le_of_ble_eq_true rfl, Nat.le_of_ble_eq_true rfl⟩) (preS_of okT (trivial)) rfl rfl hl.1 rfl (lv_room (Nat.le_of_ble_eq_true rfl)) dX9_asDouble_16 ⟨Nat.le_of_ble_eq_true rfl, Nat.le_of_ble_eq_true rfl⟩) (fun r4 hr4 => ?_)
  exact W.dret (v := r4) hx hb hr (fun t ht hW => ⟨r4, rfl, (by rw [hr4, hr3, ev1, ev2]), ht⟩) (fun q hq => absurd hq List.not_mem_nil) dX9_asDouble_19

set_option maxHeartbeats 8000000 in
set_option maxRecDepth 100000 in
theorem c9_logCause (l : Launch) (G : va_G) (cy : Nat → ClassId) (L : List Nat) (F : Nat → va_E) (o : Nat) (qm : Nat → Nat) (th sp fa : Int32) (oc : Int64) (hmo : o ∈ L) (hFo : F o = .inr (8, [.int th, .ref (qm 0), .ref (qm 1), .ref (qm 2), .ref (qm 3), .ref (qm 4), .ref (qm 5), .ref (qm 6), .ref (qm 7), .int sp, .ref (qm 8), .ref (qm 9), .ref (qm 10), .ref (qm 11), .ref (qm 12), .ref (qm 13), .ref (qm 14), .int fa, .ref (qm 15), .long oc])) (fz0 : Nat → Int32) (hm6 : qm 6 ∈ L) (hF6 : F (qm 6) = cI (cy 1) 8 fz0) (j : Nat) (hj : j < 8) (i : Int32) (hsz1 : szOK 16 (fz0 j))  : Met l yX9_logCause wsX9_logCause ({ frames := 1, cells := 0, slots := 0, locals := 25 }) (va_Pc [.ref o, .int (nI j), .int i] (fun U => bP G cy L F U U.heap)) (vp_Si (fun r : Int32 => r = nI (pl0 (fz0 j) i))) 0 0 (fun _ => False) := by
  refine Met.ofW (cc := cX9_logCause) (maxL := 3) (ret := (some .int)) (by decide) rfl ?_
  intro p e s m args below meth c s₁ B hml hv
  obtain ⟨rfl, hP, hK, hD⟩ := hv
  have hx := B.exec
  have hb := B.bytes
  have hr := B.returns
  have hts := atoms_spec (ws := wsX9_logCause) B.pre
  have hown : s.vm.findClass RX9 = some m.cls := findClass_of_methodNamed B.named
  have hlocks := B.notSynchronized
  have hinX9 : ∀ w ∈ wsX90, w ∈ wsX9_logCause := by decide +kernel
  have hS : va_S (fun _ => False) s.heap s.heap [] := va_S.rf
  have hl := lv_entry ([.ref o, .int (nI j), .int i]) (n := 3) (Nat.le_of_ble_eq_true rfl)
  rw [lg_entry_eq]
  generalize (lg_sl ([.ref o, .int (nI j), .int i]) ++ List.replicate (3 - (lg_sl ([.ref o, .int (nI j), .int i])).length) Slot.unset).toArray = ls at hl ⊢
  have hl : lv_has ls 3 [(0, .ref o), (1, .int (nI j)), (2, .int i)] := hl
  refine lv_aload_n hx hb dX9_logCause_0 rfl (lv_at hl 0 rfl) ?_
  refine pg_get (ci := 8) (C := RX9) (T := TX9) (N := 20) hx hb hts hinX9 hown hK hP hmo hFo rfl 7 (by decide) (hts (.fieldLink RX9 30 "RopeDrumsModel" "logSize" "[I") (by decide +kernel)) (fun _ h9 => h9) rfl dX9_logCause_1 ?_
  refine lv_iload_n hx hb dX9_logCause_4 rfl (lv_at hl 1 rfl) ?_
  refine pg_iald hx hb hK hP 1 hm6 hF6 rfl (vp_in_nI hj (by decide)) dX9_logCause_5 ?_
  refine lv_topi (fun v1 ev1 => ?_)
  rw [nI_clamp (by omega)] at ev1
  refine lv_iconst (v := -1) hx hb dX9_logCause_6 (by decide) ?_
  refine lv_icmp_ne (tgt := 14) hx hb dX9_logCause_7 (by decide) (fun c2 => ?_) (fun c2 => ?_)
  · refine lv_iload_n hx hb dX9_logCause_14 rfl (lv_at hl 2 rfl) ?_
    refine lv_i2l hx hb dX9_logCause_15 rfl ?_
    refine lv_topl (fun v3 ev3 => ?_)
    refine lv_lconst (v := 0) hx hb dX9_logCause_16 (by decide) ?_
    refine lv_aload_n hx hb dX9_logCause_17 rfl (lv_at hl 0 rfl) ?_
    refine pg_get (ci := 8) (C := RX9) (T := TX9) (N := 20) hx hb hts hinX9 hown hK hP hmo hFo rfl 7 (by decide) (hts (.fieldLink RX9 30 "RopeDrumsModel" "logSize" "[I") (by decide +kernel)) (fun _ h9 => h9) rfl dX9_logCause_18 ?_
    refine lv_iload_n hx hb dX9_logCause_21 rfl (lv_at hl 1 rfl) ?_
    refine pg_iald hx hb hK hP 1 hm6 hF6 rfl (vp_in_nI hj (by decide)) dX9_logCause_22 ?_
    refine lv_topi (fun v4 ev4 => ?_)
    rw [nI_clamp (by omega)] at ev4
    refine lv_iconst (v := 1) hx hb dX9_logCause_23 (by decide) ?_
    refine lv_isub hx hb dX9_logCause_24 ?_
    refine lv_topi (fun v5 ev5 => ?_)
    refine lv_i2l hx hb dX9_logCause_25 rfl ?_
    refine lv_topl (fun v6 ev6 => ?_)
    refine vp_callSi (W.runS (As := [.long v3, .long 0, .long v6]) (rest := []) ⟨hx, hb, hml, hown, hts⟩ (c9_in l v3 0 v6) (va_cwS 3 hts gX9_logCause_X9_in rfl rfl rfl (by decide +kernel) ⟨Nat.le_of_ble_eq_true rfl, Nat.le_of_ble_eq_true rfl⟩) (preS_of okT (trivial)) rfl rfl hl.1 rfl (lv_room (Nat.le_of_ble_eq_true rfl)) dX9_logCause_26 ⟨Nat.le_of_ble_eq_true rfl, Nat.le_of_ble_eq_true rfl⟩) (fun r7 hr7 => ?_)
    have hz : 0 ≤ (fz0 j).toInt := by have hc := c2; rw [ev1, fa_eq] at hc; have h1 : (-1 : Int32).toInt = -1 := (by decide); unfold szOK at hsz1; omega
    have hin9 : r7 = if 0 ≤ i.toInt ∧ i.toInt ≤ (fz0 j).toInt - 1 then 1 else 0 := by rw [hr7, ev3]; exact inq_i (by decide) (by rw [ev6, ev5, Int32.toInt_toInt64, ev4]; exact subI1 hz)
    refine lv_if_eq (tgt := 36) hx hb dX9_logCause_29 (by decide) (fun c8 => ?_) (fun c8 => ?_)
    · refine lv_iconst (v := 2) hx hb dX9_logCause_36 (by decide) ?_
      exact W.iret (v := 2) hx hb hr (fun t ht hW => ⟨2, rfl, (by have h9 := pz1 hin9 c8; rw [show pl0 (fz0 j) i = 2 from (if_neg (by have hc := c2; rw [ev1] at hc; exact hc)).trans (if_neg (by omega))]; rfl), ht⟩) (fun q hq => absurd hq List.not_mem_nil) dX9_logCause_37
    · refine lv_iconst (v := 0) hx hb dX9_logCause_32 (by decide) ?_
      refine lv_goto (tgt := 37) hx hb dX9_logCause_33 (by decide) ?_
      exact W.iret (v := 0) hx hb hr (fun t ht hW => ⟨0, rfl, (by have h9 := pz2 hin9 c8; rw [show pl0 (fz0 j) i = 0 from (if_neg (by have hc := c2; rw [ev1] at hc; exact hc)).trans (if_pos (by omega))]; rfl), ht⟩) (fun q hq => absurd hq List.not_mem_nil) dX9_logCause_37
  · refine lv_iconst (v := 1) hx hb dX9_logCause_10 (by decide) ?_
    refine lv_goto (tgt := 37) hx hb dX9_logCause_11 (by decide) ?_
    exact W.iret (v := 1) hx hb hr (fun t ht hW => ⟨1, rfl, (by have hc := c2; rw [ev1] at hc; rw [show pl0 (fz0 j) i = 1 from if_pos hc]; rfl), ht⟩) (fun q hq => absurd hq List.not_mem_nil) dX9_logCause_37

set_option maxHeartbeats 8000000 in
set_option maxRecDepth 100000 in
theorem c9_rackCause (l : Launch) (G : va_G) (cy : Nat → ClassId) (L : List Nat) (F : Nat → va_E) (o : Nat) (qm : Nat → Nat) (th sp fa : Int32) (oc : Int64) (hmo : o ∈ L) (hFo : F o = .inr (8, [.int th, .ref (qm 0), .ref (qm 1), .ref (qm 2), .ref (qm 3), .ref (qm 4), .ref (qm 5), .ref (qm 6), .ref (qm 7), .int sp, .ref (qm 8), .ref (qm 9), .ref (qm 10), .ref (qm 11), .ref (qm 12), .ref (qm 13), .ref (qm 14), .int fa, .ref (qm 15), .long oc])) (fz0 : Nat → Int32) (hm10 : qm 10 ∈ L) (hF10 : F (qm 10) = cI (cy 1) 5 fz0) (j : Nat) (hj : j < 5) (i : Int32) (hsz1 : szOK 12 (fz0 j))  : Met l yX9_rackCause wsX9_rackCause ({ frames := 1, cells := 0, slots := 0, locals := 25 }) (va_Pc [.ref o, .int (nI j), .int i] (fun U => bP G cy L F U U.heap)) (vp_Si (fun r : Int32 => r = nI (pl0 (fz0 j) i))) 0 0 (fun _ => False) := by
  refine Met.ofW (cc := cX9_rackCause) (maxL := 3) (ret := (some .int)) (by decide) rfl ?_
  intro p e s m args below meth c s₁ B hml hv
  obtain ⟨rfl, hP, hK, hD⟩ := hv
  have hx := B.exec
  have hb := B.bytes
  have hr := B.returns
  have hts := atoms_spec (ws := wsX9_rackCause) B.pre
  have hown : s.vm.findClass RX9 = some m.cls := findClass_of_methodNamed B.named
  have hlocks := B.notSynchronized
  have hinX9 : ∀ w ∈ wsX90, w ∈ wsX9_rackCause := by decide +kernel
  have hS : va_S (fun _ => False) s.heap s.heap [] := va_S.rf
  have hl := lv_entry ([.ref o, .int (nI j), .int i]) (n := 3) (Nat.le_of_ble_eq_true rfl)
  rw [lg_entry_eq]
  generalize (lg_sl ([.ref o, .int (nI j), .int i]) ++ List.replicate (3 - (lg_sl ([.ref o, .int (nI j), .int i])).length) Slot.unset).toArray = ls at hl ⊢
  have hl : lv_has ls 3 [(0, .ref o), (1, .int (nI j)), (2, .int i)] := hl
  refine lv_aload_n hx hb dX9_rackCause_0 rfl (lv_at hl 0 rfl) ?_
  refine pg_get (ci := 8) (C := RX9) (T := TX9) (N := 20) hx hb hts hinX9 hown hK hP hmo hFo rfl 12 (by decide) (hts (.fieldLink RX9 43 "RopeDrumsModel" "rackSize" "[I") (by decide +kernel)) (fun _ h9 => h9) rfl dX9_rackCause_1 ?_
  refine lv_iload_n hx hb dX9_rackCause_4 rfl (lv_at hl 1 rfl) ?_
  refine pg_iald hx hb hK hP 1 hm10 hF10 rfl (vp_in_nI hj (by decide)) dX9_rackCause_5 ?_
  refine lv_topi (fun v1 ev1 => ?_)
  rw [nI_clamp (by omega)] at ev1
  refine lv_iconst (v := -1) hx hb dX9_rackCause_6 (by decide) ?_
  refine lv_icmp_ne (tgt := 14) hx hb dX9_rackCause_7 (by decide) (fun c2 => ?_) (fun c2 => ?_)
  · refine lv_iload_n hx hb dX9_rackCause_14 rfl (lv_at hl 2 rfl) ?_
    refine lv_i2l hx hb dX9_rackCause_15 rfl ?_
    refine lv_topl (fun v3 ev3 => ?_)
    refine lv_lconst (v := 0) hx hb dX9_rackCause_16 (by decide) ?_
    refine lv_aload_n hx hb dX9_rackCause_17 rfl (lv_at hl 0 rfl) ?_
    refine pg_get (ci := 8) (C := RX9) (T := TX9) (N := 20) hx hb hts hinX9 hown hK hP hmo hFo rfl 12 (by decide) (hts (.fieldLink RX9 43 "RopeDrumsModel" "rackSize" "[I") (by decide +kernel)) (fun _ h9 => h9) rfl dX9_rackCause_18 ?_
    refine lv_iload_n hx hb dX9_rackCause_21 rfl (lv_at hl 1 rfl) ?_
    refine pg_iald hx hb hK hP 1 hm10 hF10 rfl (vp_in_nI hj (by decide)) dX9_rackCause_22 ?_
    refine lv_topi (fun v4 ev4 => ?_)
    rw [nI_clamp (by omega)] at ev4
    refine lv_iconst (v := 1) hx hb dX9_rackCause_23 (by decide) ?_
    refine lv_isub hx hb dX9_rackCause_24 ?_
    refine lv_topi (fun v5 ev5 => ?_)
    refine lv_i2l hx hb dX9_rackCause_25 rfl ?_
    refine lv_topl (fun v6 ev6 => ?_)
    refine vp_callSi (W.runS (As := [.long v3, .long 0, .long v6]) (rest := []) ⟨hx, hb, hml, hown, hts⟩ (c9_in l v3 0 v6) (va_cwS 3 hts gX9_rackCause_X9_in rfl rfl rfl (by decide +kernel) ⟨Nat.le_of_ble_eq_true rfl, Nat.le_of_ble_eq_true rfl⟩) (preS_of okT (trivial)) rfl rfl hl.1 rfl (lv_room (Nat.le_of_ble_eq_true rfl)) dX9_rackCause_26 ⟨Nat.le_of_ble_eq_true rfl, Nat.le_of_ble_eq_true rfl⟩) (fun r7 hr7 => ?_)
    have hz : 0 ≤ (fz0 j).toInt := by have hc := c2; rw [ev1, fa_eq] at hc; have h1 : (-1 : Int32).toInt = -1 := (by decide); unfold szOK at hsz1; omega
    have hin9 : r7 = if 0 ≤ i.toInt ∧ i.toInt ≤ (fz0 j).toInt - 1 then 1 else 0 := by rw [hr7, ev3]; exact inq_i (by decide) (by rw [ev6, ev5, Int32.toInt_toInt64, ev4]; exact subI1 hz)
    refine lv_if_eq (tgt := 36) hx hb dX9_rackCause_29 (by decide) (fun c8 => ?_) (fun c8 => ?_)
    · refine lv_iconst (v := 2) hx hb dX9_rackCause_36 (by decide) ?_
      exact W.iret (v := 2) hx hb hr (fun t ht hW => ⟨2, rfl, (by have h9 := pz1 hin9 c8; rw [show pl0 (fz0 j) i = 2 from (if_neg (by have hc := c2; rw [ev1] at hc; exact hc)).trans (if_neg (by omega))]; rfl), ht⟩) (fun q hq => absurd hq List.not_mem_nil) dX9_rackCause_37
    · refine lv_iconst (v := 0) hx hb dX9_rackCause_32 (by decide) ?_
      refine lv_goto (tgt := 37) hx hb dX9_rackCause_33 (by decide) ?_
      exact W.iret (v := 0) hx hb hr (fun t ht hW => ⟨0, rfl, (by have h9 := pz2 hin9 c8; rw [show pl0 (fz0 j) i = 0 from (if_neg (by have hc := c2; rw [ev1] at hc; exact hc)).trans (if_pos (by omega))]; rfl), ht⟩) (fun q hq => absurd hq List.not_mem_nil) dX9_rackCause_37
  · refine lv_iconst (v := 1) hx hb dX9_rackCause_10 (by decide) ?_
    refine lv_goto (tgt := 37) hx hb dX9_rackCause_11 (by decide) ?_
    exact W.iret (v := 1) hx hb hr (fun t ht hW => ⟨1, rfl, (by have hc := c2; rw [ev1] at hc; rw [show pl0 (fz0 j) i = 1 from if_pos hc]; rfl), ht⟩) (fun q hq => absurd hq List.not_mem_nil) dX9_rackCause_37

set_option maxHeartbeats 8000000 in
set_option maxRecDepth 100000 in
theorem c9_isSpool (l : Launch) (G : va_G) (cy : Nat → ClassId) (L : List Nat) (F : Nat → va_E) (o : Nat) (qm : Nat → Nat) (th sp fa : Int32) (oc : Int64) (hmo : o ∈ L) (hFo : F o = .inr (8, [.int th, .ref (qm 0), .ref (qm 1), .ref (qm 2), .ref (qm 3), .ref (qm 4), .ref (qm 5), .ref (qm 6), .ref (qm 7), .int sp, .ref (qm 8), .ref (qm 9), .ref (qm 10), .ref (qm 11), .ref (qm 12), .ref (qm 13), .ref (qm 14), .int fa, .ref (qm 15), .long oc])) (x : Int32) (hsp0 : 0 ≤ sp.toInt)  : Met l yX9_isSpool wsX9_isSpool ({ frames := 1, cells := 0, slots := 0, locals := 25 }) (va_Pc [.ref o, .int x] (fun U => bP G cy L F U U.heap)) (vp_Si (fun r : Int32 => r = if 0 ≤ x.toInt ∧ x.toInt < sp.toInt then 1 else 0)) 0 0 (fun _ => False) := by
  refine Met.ofW (cc := cX9_isSpool) (maxL := 2) (ret := (some .boolean)) (by decide) rfl ?_
  intro p e s m args below meth c s₁ B hml hv
  obtain ⟨rfl, hP, hK, hD⟩ := hv
  have hx := B.exec
  have hb := B.bytes
  have hr := B.returns
  have hts := atoms_spec (ws := wsX9_isSpool) B.pre
  have hown : s.vm.findClass RX9 = some m.cls := findClass_of_methodNamed B.named
  have hlocks := B.notSynchronized
  have hinX9 : ∀ w ∈ wsX90, w ∈ wsX9_isSpool := by decide +kernel
  have hS : va_S (fun _ => False) s.heap s.heap [] := va_S.rf
  have hl := lv_entry ([.ref o, .int x]) (n := 2) (Nat.le_of_ble_eq_true rfl)
  rw [lg_entry_eq]
  generalize (lg_sl ([.ref o, .int x]) ++ List.replicate (2 - (lg_sl ([.ref o, .int x])).length) Slot.unset).toArray = ls at hl ⊢
  have hl : lv_has ls 2 [(0, .ref o), (1, .int x)] := hl
  refine lv_iload_n hx hb dX9_isSpool_0 rfl (lv_at hl 1 rfl) ?_
  refine lv_i2l hx hb dX9_isSpool_1 rfl ?_
  refine lv_topl (fun v1 ev1 => ?_)
  refine lv_lconst (v := 0) hx hb dX9_isSpool_2 (by decide) ?_
  refine lv_aload_n hx hb dX9_isSpool_3 rfl (lv_at hl 0 rfl) ?_
  refine pg_get (ci := 8) (C := RX9) (T := TX9) (N := 20) hx hb hts hinX9 hown hK hP hmo hFo rfl 9 (by decide) (hts (.fieldLink RX9 192 "RopeDrumsModel" "spools" "I") (by decide +kernel)) (fun _ h9 => h9) rfl dX9_isSpool_4 ?_
  refine lv_iconst (v := 1) hx hb dX9_isSpool_7 (by decide) ?_
  refine lv_isub hx hb dX9_isSpool_8 ?_
  refine lv_topi (fun v2 ev2 => ?_)
  refine lv_i2l hx hb dX9_isSpool_9 rfl ?_
  refine lv_topl (fun v3 ev3 => ?_)
  refine vp_callSi (W.runS (As := [.long v1, .long 0, .long v3]) (rest := []) ⟨hx, hb, hml, hown, hts⟩ (c9_in l v1 0 v3) (va_cwS 3 hts gX9_isSpool_X9_in rfl rfl rfl (by decide +kernel) ⟨Nat.le_of_ble_eq_true rfl, Nat.le_of_ble_eq_true rfl⟩) (preS_of okT (trivial)) rfl rfl hl.1 rfl (lv_room (Nat.le_of_ble_eq_true rfl)) dX9_isSpool_10 ⟨Nat.le_of_ble_eq_true rfl, Nat.le_of_ble_eq_true rfl⟩) (fun r4 hr4 => ?_)
  exact W.zret (v := r4) hx hb hr ((by rw [hr4]; unfold inq; split <;> rfl)) (fun t ht hW => ⟨r4, rfl, (by rw [hr4, ev1, inq_i (y := 0) (z := sp.toInt - 1) (by decide) (by rw [ev3, ev2, Int32.toInt_toInt64]; exact subI1 hsp0)]; by_cases hq : 0 ≤ x.toInt ∧ x.toInt < sp.toInt; (rw [if_pos hq, if_pos (by omega)]); rw [if_neg hq, if_neg (by omega)]), ht⟩) (fun q hq => absurd hq List.not_mem_nil) dX9_isSpool_13

set_option maxHeartbeats 8000000 in
set_option maxRecDepth 100000 in
theorem c9_answers_0 (l : Launch) (G : va_G) (cy : Nat → ClassId) (L : List Nat) (F : Nat → va_E) (sz : Nat) (o : Nat) (qm : Nat → Nat) (th sp : Int32) (oc : Int64) (hmo : o ∈ L) (hFo : F o = .inr (8, [.int th, .ref (qm 0), .ref (qm 1), .ref (qm 2), .ref (qm 3), .ref (qm 4), .ref (qm 5), .ref (qm 6), .ref (qm 7), .int sp, .ref (qm 8), .ref (qm 9), .ref (qm 10), .ref (qm 11), .ref (qm 12), .ref (qm 13), .ref (qm 14), .int 0, .ref (qm 15), .long oc])) (f15 : Nat → Int32) (hm15 : qm 15 ∈ L) (hF15 : F (qm 15) = cI (cy 1) 6 f15) (x : Int32)  : Met l yX9_answers wsX9_answers ({ frames := 0, cells := 0, slots := 0, locals := 0 }) (va_Pc [.ref o, .int x] (fun U => bQ G cy L F sz U U.heap)) (va_Qi (fun (r : Int32) (F' : Nat → va_E) => r = x ∧ F' = F) (fun F' t => va_P G vwCl (va_pl L F') t.heap) (va_A (va_pl L F) sz)) 0 0 (va_A (va_pl L F) sz) := by
  refine Met.ofW (cc := cX9_answers) (maxL := 2) (ret := (some .int)) (by decide) rfl ?_
  intro p e s m args below meth c s₁ B hml hv
  obtain ⟨rfl, hsz, hP, hK, hD0⟩ := hv
  have hx := B.exec
  have hb := B.bytes
  have hr := B.returns
  have hts := atoms_spec (ws := wsX9_answers) B.pre
  have hown : s.vm.findClass RX9 = some m.cls := findClass_of_methodNamed B.named
  have hlocks := B.notSynchronized
  have hinX9 : ∀ w ∈ wsX90, w ∈ wsX9_answers := by decide +kernel
  subst hsz
  have hD := hD0.self F s.heap.size
  generalize hAe : va_A (va_pl L F) s.heap.size = A at hD ⊢
  have hA : ∀ q : Nat, s.heap.size ≤ q → A q := fun q h => by rw [← hAe]; exact Or.inr h
  have hS : va_S A s.heap s.heap [] := va_S.rf
  have hl := lv_entry ([.ref o, .int x]) (n := 2) (Nat.le_of_ble_eq_true rfl)
  rw [lg_entry_eq]
  generalize (lg_sl ([.ref o, .int x]) ++ List.replicate (2 - (lg_sl ([.ref o, .int x])).length) Slot.unset).toArray = ls at hl ⊢
  have hl : lv_has ls 2 [(0, .ref o), (1, .int x)] := hl
  refine lv_aload_n hx hb dX9_answers_0 rfl (lv_at hl 0 rfl) ?_
  refine pg_get (ci := 8) (C := RX9) (T := TX9) (N := 20) hx hb hts hinX9 hown hK hP hmo hFo rfl 17 (by decide) (hts (.fieldLink RX9 65 "RopeDrumsModel" "failed" "I") (by decide +kernel)) (fun _ h9 => h9) rfl dX9_answers_1 ?_
  refine lv_if_ne (tgt := 9) hx hb dX9_answers_4 (by decide) (fun c1 => absurd (by decide) c1) (fun c1 => ?_)
  refine lv_iload_n hx hb dX9_answers_7 rfl (lv_at hl 1 rfl) ?_
  exact W.iret (v := x) hx hb hr (fun t ht hW => ⟨⟨x, F, rfl, ⟨rfl, rfl⟩, (by show va_P _ _ _ t.heap; rw [ht]; exact hP)⟩, hS.F ht⟩) hS.2.2 dX9_answers_8

set_option maxHeartbeats 8000000 in
set_option maxRecDepth 100000 in
theorem c9_answers_1 (l : Launch) (G : va_G) (cy : Nat → ClassId) (L : List Nat) (F : Nat → va_E) (sz : Nat) (o : Nat) (qm : Nat → Nat) (th sp : Int32) (oc : Int64) (hmo : o ∈ L) (hFo : F o = .inr (8, [.int th, .ref (qm 0), .ref (qm 1), .ref (qm 2), .ref (qm 3), .ref (qm 4), .ref (qm 5), .ref (qm 6), .ref (qm 7), .int sp, .ref (qm 8), .ref (qm 9), .ref (qm 10), .ref (qm 11), .ref (qm 12), .ref (qm 13), .ref (qm 14), .int 1, .ref (qm 15), .long oc])) (f15 : Nat → Int32) (hm15 : qm 15 ∈ L) (hF15 : F (qm 15) = cI (cy 1) 6 f15) (x : Int32)  : Met l yX9_answers wsX9_answers ({ frames := 0, cells := 0, slots := 0, locals := 0 }) (va_Pc [.ref o, .int x] (fun U => bQ G cy L F sz U U.heap)) (va_Qi (fun (r : Int32) (F' : Nat → va_E) => r = -10 - 1 ∧ F' = va_up F (qm 15) (cI (cy 1) 6 (upd f15 1 (f15 1 + 1)))) (fun F' t => va_P G vwCl (va_pl L F') t.heap) (va_A (va_pl L F) sz)) 0 0 (va_A (va_pl L F) sz) := by
  refine Met.ofW (cc := cX9_answers) (maxL := 2) (ret := (some .int)) (by decide) rfl ?_
  intro p e s m args below meth c s₁ B hml hv
  obtain ⟨rfl, hsz, hP, hK, hD0⟩ := hv
  have hx := B.exec
  have hb := B.bytes
  have hr := B.returns
  have hts := atoms_spec (ws := wsX9_answers) B.pre
  have hown : s.vm.findClass RX9 = some m.cls := findClass_of_methodNamed B.named
  have hlocks := B.notSynchronized
  have hinX9 : ∀ w ∈ wsX90, w ∈ wsX9_answers := by decide +kernel
  subst hsz
  have hD := hD0.self F s.heap.size
  generalize hAe : va_A (va_pl L F) s.heap.size = A at hD ⊢
  have hA : ∀ q : Nat, s.heap.size ≤ q → A q := fun q h => by rw [← hAe]; exact Or.inr h
  have hS : va_S A s.heap s.heap [] := va_S.rf
  have hl := lv_entry ([.ref o, .int x]) (n := 2) (Nat.le_of_ble_eq_true rfl)
  rw [lg_entry_eq]
  generalize (lg_sl ([.ref o, .int x]) ++ List.replicate (2 - (lg_sl ([.ref o, .int x])).length) Slot.unset).toArray = ls at hl ⊢
  have hl : lv_has ls 2 [(0, .ref o), (1, .int x)] := hl
  refine lv_aload_n hx hb dX9_answers_0 rfl (lv_at hl 0 rfl) ?_
  refine pg_get (ci := 8) (C := RX9) (T := TX9) (N := 20) hx hb hts hinX9 hown hK hP hmo hFo rfl 17 (by decide) (hts (.fieldLink RX9 65 "RopeDrumsModel" "failed" "I") (by decide +kernel)) (fun _ h9 => h9) rfl dX9_answers_1 ?_
  refine lv_if_ne (tgt := 9) hx hb dX9_answers_4 (by decide) (fun c1 => ?_) (fun c1 => absurd c1 (by decide))
  refine lv_aload_n hx hb dX9_answers_9 rfl (lv_at hl 0 rfl) ?_
  refine pg_get (ci := 8) (C := RX9) (T := TX9) (N := 20) hx hb hts hinX9 hown hK hP hmo hFo rfl 18 (by decide) (hts (.fieldLink RX9 58 "RopeDrumsModel" "counted" "[I") (by decide +kernel)) (fun _ h9 => h9) rfl dX9_answers_10 ?_
  refine lv_aload_n hx hb dX9_answers_13 rfl (lv_at hl 0 rfl) ?_
  refine pg_get (ci := 8) (C := RX9) (T := TX9) (N := 20) hx hb hts hinX9 hown hK hP hmo hFo rfl 17 (by decide) (hts (.fieldLink RX9 65 "RopeDrumsModel" "failed" "I") (by decide +kernel)) (fun _ h9 => h9) rfl dX9_answers_14 ?_
  refine lv_dup2_11 hx hb dX9_answers_17 rfl rfl ?_
  refine pg_iald hx hb hK hP 1 hm15 hF15 rfl (vp_in_nI (n := 1) (N := 6) (by decide) (by decide)) dX9_answers_18 ?_
  refine lv_topi (fun v2 ev2 => ?_)
  refine lv_iconst (v := 1) hx hb dX9_answers_19 (by decide) ?_
  refine lv_iadd hx hb dX9_answers_20 ?_
  refine lv_topi (fun v3 ev3 => ?_)
  refine pg_iast hx hb hK hP hD hS 1 hm15 hF15 rfl (vp_in_nI (n := 1) (N := 6) (by decide) (by decide)) dX9_answers_21 (fun H locs F4 eF4 hP hS => ?_)
  have hFo_4 : F4 o = .inr (8, [.int th, .ref (qm 0), .ref (qm 1), .ref (qm 2), .ref (qm 3), .ref (qm 4), .ref (qm 5), .ref (qm 6), .ref (qm 7), .int sp, .ref (qm 8), .ref (qm 9), .ref (qm 10), .ref (qm 11), .ref (qm 12), .ref (qm 13), .ref (qm 14), .int 1, .ref (qm 15), .long oc]) := by rw [eF4, va_up_ne _ _ (pl_ne hFo hF15 rfl)]; exact hFo
  have hFqm15_4 : F4 (qm 15) = cI (cy 1) 6 (upd f15 (1 : Int32).toNatClampNeg v3) := by rw [eF4]; exact va_up_self _ _ _
  refine lv_bipush (v := -10) hx hb dX9_answers_22 (by decide) ?_
  refine lv_aload_n hx hb dX9_answers_24 rfl (lv_at hl 0 rfl) ?_
  refine pg_get (ci := 8) (C := RX9) (T := TX9) (N := 20) hx hb hts hinX9 hown hK hP hmo hFo_4 rfl 17 (by decide) (hts (.fieldLink RX9 65 "RopeDrumsModel" "failed" "I") (by decide +kernel)) (fun _ h9 => h9) rfl dX9_answers_25 ?_
  refine lv_isub hx hb dX9_answers_28 ?_
  refine lv_topi (fun v5 ev5 => ?_)
  exact W.iret (v := v5) hx hb hr (fun t ht hW => ⟨⟨v5, F4, rfl, ⟨by subst ev5 ev3 ev2; rfl, by subst ev5 ev3 ev2; rw [eF4]; rfl⟩, (by show va_P _ _ _ t.heap; rw [ht]; exact hP)⟩, hS.F ht⟩) hS.2.2 dX9_answers_29

set_option maxHeartbeats 8000000 in
set_option maxRecDepth 100000 in
theorem c9_answers_2 (l : Launch) (G : va_G) (cy : Nat → ClassId) (L : List Nat) (F : Nat → va_E) (sz : Nat) (o : Nat) (qm : Nat → Nat) (th sp : Int32) (oc : Int64) (hmo : o ∈ L) (hFo : F o = .inr (8, [.int th, .ref (qm 0), .ref (qm 1), .ref (qm 2), .ref (qm 3), .ref (qm 4), .ref (qm 5), .ref (qm 6), .ref (qm 7), .int sp, .ref (qm 8), .ref (qm 9), .ref (qm 10), .ref (qm 11), .ref (qm 12), .ref (qm 13), .ref (qm 14), .int 2, .ref (qm 15), .long oc])) (f15 : Nat → Int32) (hm15 : qm 15 ∈ L) (hF15 : F (qm 15) = cI (cy 1) 6 f15) (x : Int32)  : Met l yX9_answers wsX9_answers ({ frames := 0, cells := 0, slots := 0, locals := 0 }) (va_Pc [.ref o, .int x] (fun U => bQ G cy L F sz U U.heap)) (va_Qi (fun (r : Int32) (F' : Nat → va_E) => r = -10 - 2 ∧ F' = va_up F (qm 15) (cI (cy 1) 6 (upd f15 2 (f15 2 + 1)))) (fun F' t => va_P G vwCl (va_pl L F') t.heap) (va_A (va_pl L F) sz)) 0 0 (va_A (va_pl L F) sz) := by
  refine Met.ofW (cc := cX9_answers) (maxL := 2) (ret := (some .int)) (by decide) rfl ?_
  intro p e s m args below meth c s₁ B hml hv
  obtain ⟨rfl, hsz, hP, hK, hD0⟩ := hv
  have hx := B.exec
  have hb := B.bytes
  have hr := B.returns
  have hts := atoms_spec (ws := wsX9_answers) B.pre
  have hown : s.vm.findClass RX9 = some m.cls := findClass_of_methodNamed B.named
  have hlocks := B.notSynchronized
  have hinX9 : ∀ w ∈ wsX90, w ∈ wsX9_answers := by decide +kernel
  subst hsz
  have hD := hD0.self F s.heap.size
  generalize hAe : va_A (va_pl L F) s.heap.size = A at hD ⊢
  have hA : ∀ q : Nat, s.heap.size ≤ q → A q := fun q h => by rw [← hAe]; exact Or.inr h
  have hS : va_S A s.heap s.heap [] := va_S.rf
  have hl := lv_entry ([.ref o, .int x]) (n := 2) (Nat.le_of_ble_eq_true rfl)
  rw [lg_entry_eq]
  generalize (lg_sl ([.ref o, .int x]) ++ List.replicate (2 - (lg_sl ([.ref o, .int x])).length) Slot.unset).toArray = ls at hl ⊢
  have hl : lv_has ls 2 [(0, .ref o), (1, .int x)] := hl
  refine lv_aload_n hx hb dX9_answers_0 rfl (lv_at hl 0 rfl) ?_
  refine pg_get (ci := 8) (C := RX9) (T := TX9) (N := 20) hx hb hts hinX9 hown hK hP hmo hFo rfl 17 (by decide) (hts (.fieldLink RX9 65 "RopeDrumsModel" "failed" "I") (by decide +kernel)) (fun _ h9 => h9) rfl dX9_answers_1 ?_
  refine lv_if_ne (tgt := 9) hx hb dX9_answers_4 (by decide) (fun c1 => ?_) (fun c1 => absurd c1 (by decide))
  refine lv_aload_n hx hb dX9_answers_9 rfl (lv_at hl 0 rfl) ?_
  refine pg_get (ci := 8) (C := RX9) (T := TX9) (N := 20) hx hb hts hinX9 hown hK hP hmo hFo rfl 18 (by decide) (hts (.fieldLink RX9 58 "RopeDrumsModel" "counted" "[I") (by decide +kernel)) (fun _ h9 => h9) rfl dX9_answers_10 ?_
  refine lv_aload_n hx hb dX9_answers_13 rfl (lv_at hl 0 rfl) ?_
  refine pg_get (ci := 8) (C := RX9) (T := TX9) (N := 20) hx hb hts hinX9 hown hK hP hmo hFo rfl 17 (by decide) (hts (.fieldLink RX9 65 "RopeDrumsModel" "failed" "I") (by decide +kernel)) (fun _ h9 => h9) rfl dX9_answers_14 ?_
  refine lv_dup2_11 hx hb dX9_answers_17 rfl rfl ?_
  refine pg_iald hx hb hK hP 1 hm15 hF15 rfl (vp_in_nI (n := 2) (N := 6) (by decide) (by decide)) dX9_answers_18 ?_
  refine lv_topi (fun v2 ev2 => ?_)
  refine lv_iconst (v := 1) hx hb dX9_answers_19 (by decide) ?_
  refine lv_iadd hx hb dX9_answers_20 ?_
  refine lv_topi (fun v3 ev3 => ?_)
  refine pg_iast hx hb hK hP hD hS 1 hm15 hF15 rfl (vp_in_nI (n := 2) (N := 6) (by decide) (by decide)) dX9_answers_21 (fun H locs F4 eF4 hP hS => ?_)
  have hFo_4 : F4 o = .inr (8, [.int th, .ref (qm 0), .ref (qm 1), .ref (qm 2), .ref (qm 3), .ref (qm 4), .ref (qm 5), .ref (qm 6), .ref (qm 7), .int sp, .ref (qm 8), .ref (qm 9), .ref (qm 10), .ref (qm 11), .ref (qm 12), .ref (qm 13), .ref (qm 14), .int 2, .ref (qm 15), .long oc]) := by rw [eF4, va_up_ne _ _ (pl_ne hFo hF15 rfl)]; exact hFo
  have hFqm15_4 : F4 (qm 15) = cI (cy 1) 6 (upd f15 (2 : Int32).toNatClampNeg v3) := by rw [eF4]; exact va_up_self _ _ _
  refine lv_bipush (v := -10) hx hb dX9_answers_22 (by decide) ?_
  refine lv_aload_n hx hb dX9_answers_24 rfl (lv_at hl 0 rfl) ?_
  refine pg_get (ci := 8) (C := RX9) (T := TX9) (N := 20) hx hb hts hinX9 hown hK hP hmo hFo_4 rfl 17 (by decide) (hts (.fieldLink RX9 65 "RopeDrumsModel" "failed" "I") (by decide +kernel)) (fun _ h9 => h9) rfl dX9_answers_25 ?_
  refine lv_isub hx hb dX9_answers_28 ?_
  refine lv_topi (fun v5 ev5 => ?_)
  exact W.iret (v := v5) hx hb hr (fun t ht hW => ⟨⟨v5, F4, rfl, ⟨by subst ev5 ev3 ev2; rfl, by subst ev5 ev3 ev2; rw [eF4]; rfl⟩, (by show va_P _ _ _ t.heap; rw [ht]; exact hP)⟩, hS.F ht⟩) hS.2.2 dX9_answers_29

set_option maxHeartbeats 8000000 in
set_option maxRecDepth 100000 in
theorem c9_answers_3 (l : Launch) (G : va_G) (cy : Nat → ClassId) (L : List Nat) (F : Nat → va_E) (sz : Nat) (o : Nat) (qm : Nat → Nat) (th sp : Int32) (oc : Int64) (hmo : o ∈ L) (hFo : F o = .inr (8, [.int th, .ref (qm 0), .ref (qm 1), .ref (qm 2), .ref (qm 3), .ref (qm 4), .ref (qm 5), .ref (qm 6), .ref (qm 7), .int sp, .ref (qm 8), .ref (qm 9), .ref (qm 10), .ref (qm 11), .ref (qm 12), .ref (qm 13), .ref (qm 14), .int 3, .ref (qm 15), .long oc])) (f15 : Nat → Int32) (hm15 : qm 15 ∈ L) (hF15 : F (qm 15) = cI (cy 1) 6 f15) (x : Int32)  : Met l yX9_answers wsX9_answers ({ frames := 0, cells := 0, slots := 0, locals := 0 }) (va_Pc [.ref o, .int x] (fun U => bQ G cy L F sz U U.heap)) (va_Qi (fun (r : Int32) (F' : Nat → va_E) => r = -10 - 3 ∧ F' = va_up F (qm 15) (cI (cy 1) 6 (upd f15 3 (f15 3 + 1)))) (fun F' t => va_P G vwCl (va_pl L F') t.heap) (va_A (va_pl L F) sz)) 0 0 (va_A (va_pl L F) sz) := by
  refine Met.ofW (cc := cX9_answers) (maxL := 2) (ret := (some .int)) (by decide) rfl ?_
  intro p e s m args below meth c s₁ B hml hv
  obtain ⟨rfl, hsz, hP, hK, hD0⟩ := hv
  have hx := B.exec
  have hb := B.bytes
  have hr := B.returns
  have hts := atoms_spec (ws := wsX9_answers) B.pre
  have hown : s.vm.findClass RX9 = some m.cls := findClass_of_methodNamed B.named
  have hlocks := B.notSynchronized
  have hinX9 : ∀ w ∈ wsX90, w ∈ wsX9_answers := by decide +kernel
  subst hsz
  have hD := hD0.self F s.heap.size
  generalize hAe : va_A (va_pl L F) s.heap.size = A at hD ⊢
  have hA : ∀ q : Nat, s.heap.size ≤ q → A q := fun q h => by rw [← hAe]; exact Or.inr h
  have hS : va_S A s.heap s.heap [] := va_S.rf
  have hl := lv_entry ([.ref o, .int x]) (n := 2) (Nat.le_of_ble_eq_true rfl)
  rw [lg_entry_eq]
  generalize (lg_sl ([.ref o, .int x]) ++ List.replicate (2 - (lg_sl ([.ref o, .int x])).length) Slot.unset).toArray = ls at hl ⊢
  have hl : lv_has ls 2 [(0, .ref o), (1, .int x)] := hl
  refine lv_aload_n hx hb dX9_answers_0 rfl (lv_at hl 0 rfl) ?_
  refine pg_get (ci := 8) (C := RX9) (T := TX9) (N := 20) hx hb hts hinX9 hown hK hP hmo hFo rfl 17 (by decide) (hts (.fieldLink RX9 65 "RopeDrumsModel" "failed" "I") (by decide +kernel)) (fun _ h9 => h9) rfl dX9_answers_1 ?_
  refine lv_if_ne (tgt := 9) hx hb dX9_answers_4 (by decide) (fun c1 => ?_) (fun c1 => absurd c1 (by decide))
  refine lv_aload_n hx hb dX9_answers_9 rfl (lv_at hl 0 rfl) ?_
  refine pg_get (ci := 8) (C := RX9) (T := TX9) (N := 20) hx hb hts hinX9 hown hK hP hmo hFo rfl 18 (by decide) (hts (.fieldLink RX9 58 "RopeDrumsModel" "counted" "[I") (by decide +kernel)) (fun _ h9 => h9) rfl dX9_answers_10 ?_
  refine lv_aload_n hx hb dX9_answers_13 rfl (lv_at hl 0 rfl) ?_
  refine pg_get (ci := 8) (C := RX9) (T := TX9) (N := 20) hx hb hts hinX9 hown hK hP hmo hFo rfl 17 (by decide) (hts (.fieldLink RX9 65 "RopeDrumsModel" "failed" "I") (by decide +kernel)) (fun _ h9 => h9) rfl dX9_answers_14 ?_
  refine lv_dup2_11 hx hb dX9_answers_17 rfl rfl ?_
  refine pg_iald hx hb hK hP 1 hm15 hF15 rfl (vp_in_nI (n := 3) (N := 6) (by decide) (by decide)) dX9_answers_18 ?_
  refine lv_topi (fun v2 ev2 => ?_)
  refine lv_iconst (v := 1) hx hb dX9_answers_19 (by decide) ?_
  refine lv_iadd hx hb dX9_answers_20 ?_
  refine lv_topi (fun v3 ev3 => ?_)
  refine pg_iast hx hb hK hP hD hS 1 hm15 hF15 rfl (vp_in_nI (n := 3) (N := 6) (by decide) (by decide)) dX9_answers_21 (fun H locs F4 eF4 hP hS => ?_)
  have hFo_4 : F4 o = .inr (8, [.int th, .ref (qm 0), .ref (qm 1), .ref (qm 2), .ref (qm 3), .ref (qm 4), .ref (qm 5), .ref (qm 6), .ref (qm 7), .int sp, .ref (qm 8), .ref (qm 9), .ref (qm 10), .ref (qm 11), .ref (qm 12), .ref (qm 13), .ref (qm 14), .int 3, .ref (qm 15), .long oc]) := by rw [eF4, va_up_ne _ _ (pl_ne hFo hF15 rfl)]; exact hFo
  have hFqm15_4 : F4 (qm 15) = cI (cy 1) 6 (upd f15 (3 : Int32).toNatClampNeg v3) := by rw [eF4]; exact va_up_self _ _ _
  refine lv_bipush (v := -10) hx hb dX9_answers_22 (by decide) ?_
  refine lv_aload_n hx hb dX9_answers_24 rfl (lv_at hl 0 rfl) ?_
  refine pg_get (ci := 8) (C := RX9) (T := TX9) (N := 20) hx hb hts hinX9 hown hK hP hmo hFo_4 rfl 17 (by decide) (hts (.fieldLink RX9 65 "RopeDrumsModel" "failed" "I") (by decide +kernel)) (fun _ h9 => h9) rfl dX9_answers_25 ?_
  refine lv_isub hx hb dX9_answers_28 ?_
  refine lv_topi (fun v5 ev5 => ?_)
  exact W.iret (v := v5) hx hb hr (fun t ht hW => ⟨⟨v5, F4, rfl, ⟨by subst ev5 ev3 ev2; rfl, by subst ev5 ev3 ev2; rw [eF4]; rfl⟩, (by show va_P _ _ _ t.heap; rw [ht]; exact hP)⟩, hS.F ht⟩) hS.2.2 dX9_answers_29

set_option maxHeartbeats 8000000 in
set_option maxRecDepth 100000 in
theorem c9_answers_4 (l : Launch) (G : va_G) (cy : Nat → ClassId) (L : List Nat) (F : Nat → va_E) (sz : Nat) (o : Nat) (qm : Nat → Nat) (th sp : Int32) (oc : Int64) (hmo : o ∈ L) (hFo : F o = .inr (8, [.int th, .ref (qm 0), .ref (qm 1), .ref (qm 2), .ref (qm 3), .ref (qm 4), .ref (qm 5), .ref (qm 6), .ref (qm 7), .int sp, .ref (qm 8), .ref (qm 9), .ref (qm 10), .ref (qm 11), .ref (qm 12), .ref (qm 13), .ref (qm 14), .int 4, .ref (qm 15), .long oc])) (f15 : Nat → Int32) (hm15 : qm 15 ∈ L) (hF15 : F (qm 15) = cI (cy 1) 6 f15) (x : Int32)  : Met l yX9_answers wsX9_answers ({ frames := 0, cells := 0, slots := 0, locals := 0 }) (va_Pc [.ref o, .int x] (fun U => bQ G cy L F sz U U.heap)) (va_Qi (fun (r : Int32) (F' : Nat → va_E) => r = -10 - 4 ∧ F' = va_up F (qm 15) (cI (cy 1) 6 (upd f15 4 (f15 4 + 1)))) (fun F' t => va_P G vwCl (va_pl L F') t.heap) (va_A (va_pl L F) sz)) 0 0 (va_A (va_pl L F) sz) := by
  refine Met.ofW (cc := cX9_answers) (maxL := 2) (ret := (some .int)) (by decide) rfl ?_
  intro p e s m args below meth c s₁ B hml hv
  obtain ⟨rfl, hsz, hP, hK, hD0⟩ := hv
  have hx := B.exec
  have hb := B.bytes
  have hr := B.returns
  have hts := atoms_spec (ws := wsX9_answers) B.pre
  have hown : s.vm.findClass RX9 = some m.cls := findClass_of_methodNamed B.named
  have hlocks := B.notSynchronized
  have hinX9 : ∀ w ∈ wsX90, w ∈ wsX9_answers := by decide +kernel
  subst hsz
  have hD := hD0.self F s.heap.size
  generalize hAe : va_A (va_pl L F) s.heap.size = A at hD ⊢
  have hA : ∀ q : Nat, s.heap.size ≤ q → A q := fun q h => by rw [← hAe]; exact Or.inr h
  have hS : va_S A s.heap s.heap [] := va_S.rf
  have hl := lv_entry ([.ref o, .int x]) (n := 2) (Nat.le_of_ble_eq_true rfl)
  rw [lg_entry_eq]
  generalize (lg_sl ([.ref o, .int x]) ++ List.replicate (2 - (lg_sl ([.ref o, .int x])).length) Slot.unset).toArray = ls at hl ⊢
  have hl : lv_has ls 2 [(0, .ref o), (1, .int x)] := hl
  refine lv_aload_n hx hb dX9_answers_0 rfl (lv_at hl 0 rfl) ?_
  refine pg_get (ci := 8) (C := RX9) (T := TX9) (N := 20) hx hb hts hinX9 hown hK hP hmo hFo rfl 17 (by decide) (hts (.fieldLink RX9 65 "RopeDrumsModel" "failed" "I") (by decide +kernel)) (fun _ h9 => h9) rfl dX9_answers_1 ?_
  refine lv_if_ne (tgt := 9) hx hb dX9_answers_4 (by decide) (fun c1 => ?_) (fun c1 => absurd c1 (by decide))
  refine lv_aload_n hx hb dX9_answers_9 rfl (lv_at hl 0 rfl) ?_
  refine pg_get (ci := 8) (C := RX9) (T := TX9) (N := 20) hx hb hts hinX9 hown hK hP hmo hFo rfl 18 (by decide) (hts (.fieldLink RX9 58 "RopeDrumsModel" "counted" "[I") (by decide +kernel)) (fun _ h9 => h9) rfl dX9_answers_10 ?_
  refine lv_aload_n hx hb dX9_answers_13 rfl (lv_at hl 0 rfl) ?_
  refine pg_get (ci := 8) (C := RX9) (T := TX9) (N := 20) hx hb hts hinX9 hown hK hP hmo hFo rfl 17 (by decide) (hts (.fieldLink RX9 65 "RopeDrumsModel" "failed" "I") (by decide +kernel)) (fun _ h9 => h9) rfl dX9_answers_14 ?_
  refine lv_dup2_11 hx hb dX9_answers_17 rfl rfl ?_
  refine pg_iald hx hb hK hP 1 hm15 hF15 rfl (vp_in_nI (n := 4) (N := 6) (by decide) (by decide)) dX9_answers_18 ?_
  refine lv_topi (fun v2 ev2 => ?_)
  refine lv_iconst (v := 1) hx hb dX9_answers_19 (by decide) ?_
  refine lv_iadd hx hb dX9_answers_20 ?_
  refine lv_topi (fun v3 ev3 => ?_)
  refine pg_iast hx hb hK hP hD hS 1 hm15 hF15 rfl (vp_in_nI (n := 4) (N := 6) (by decide) (by decide)) dX9_answers_21 (fun H locs F4 eF4 hP hS => ?_)
  have hFo_4 : F4 o = .inr (8, [.int th, .ref (qm 0), .ref (qm 1), .ref (qm 2), .ref (qm 3), .ref (qm 4), .ref (qm 5), .ref (qm 6), .ref (qm 7), .int sp, .ref (qm 8), .ref (qm 9), .ref (qm 10), .ref (qm 11), .ref (qm 12), .ref (qm 13), .ref (qm 14), .int 4, .ref (qm 15), .long oc]) := by rw [eF4, va_up_ne _ _ (pl_ne hFo hF15 rfl)]; exact hFo
  have hFqm15_4 : F4 (qm 15) = cI (cy 1) 6 (upd f15 (4 : Int32).toNatClampNeg v3) := by rw [eF4]; exact va_up_self _ _ _
  refine lv_bipush (v := -10) hx hb dX9_answers_22 (by decide) ?_
  refine lv_aload_n hx hb dX9_answers_24 rfl (lv_at hl 0 rfl) ?_
  refine pg_get (ci := 8) (C := RX9) (T := TX9) (N := 20) hx hb hts hinX9 hown hK hP hmo hFo_4 rfl 17 (by decide) (hts (.fieldLink RX9 65 "RopeDrumsModel" "failed" "I") (by decide +kernel)) (fun _ h9 => h9) rfl dX9_answers_25 ?_
  refine lv_isub hx hb dX9_answers_28 ?_
  refine lv_topi (fun v5 ev5 => ?_)
  exact W.iret (v := v5) hx hb hr (fun t ht hW => ⟨⟨v5, F4, rfl, ⟨by subst ev5 ev3 ev2; rfl, by subst ev5 ev3 ev2; rw [eF4]; rfl⟩, (by show va_P _ _ _ t.heap; rw [ht]; exact hP)⟩, hS.F ht⟩) hS.2.2 dX9_answers_29

set_option maxHeartbeats 8000000 in
set_option maxRecDepth 100000 in
theorem c9_answers_5 (l : Launch) (G : va_G) (cy : Nat → ClassId) (L : List Nat) (F : Nat → va_E) (sz : Nat) (o : Nat) (qm : Nat → Nat) (th sp : Int32) (oc : Int64) (hmo : o ∈ L) (hFo : F o = .inr (8, [.int th, .ref (qm 0), .ref (qm 1), .ref (qm 2), .ref (qm 3), .ref (qm 4), .ref (qm 5), .ref (qm 6), .ref (qm 7), .int sp, .ref (qm 8), .ref (qm 9), .ref (qm 10), .ref (qm 11), .ref (qm 12), .ref (qm 13), .ref (qm 14), .int 5, .ref (qm 15), .long oc])) (f15 : Nat → Int32) (hm15 : qm 15 ∈ L) (hF15 : F (qm 15) = cI (cy 1) 6 f15) (x : Int32)  : Met l yX9_answers wsX9_answers ({ frames := 0, cells := 0, slots := 0, locals := 0 }) (va_Pc [.ref o, .int x] (fun U => bQ G cy L F sz U U.heap)) (va_Qi (fun (r : Int32) (F' : Nat → va_E) => r = -10 - 5 ∧ F' = va_up F (qm 15) (cI (cy 1) 6 (upd f15 5 (f15 5 + 1)))) (fun F' t => va_P G vwCl (va_pl L F') t.heap) (va_A (va_pl L F) sz)) 0 0 (va_A (va_pl L F) sz) := by
  refine Met.ofW (cc := cX9_answers) (maxL := 2) (ret := (some .int)) (by decide) rfl ?_
  intro p e s m args below meth c s₁ B hml hv
  obtain ⟨rfl, hsz, hP, hK, hD0⟩ := hv
  have hx := B.exec
  have hb := B.bytes
  have hr := B.returns
  have hts := atoms_spec (ws := wsX9_answers) B.pre
  have hown : s.vm.findClass RX9 = some m.cls := findClass_of_methodNamed B.named
  have hlocks := B.notSynchronized
  have hinX9 : ∀ w ∈ wsX90, w ∈ wsX9_answers := by decide +kernel
  subst hsz
  have hD := hD0.self F s.heap.size
  generalize hAe : va_A (va_pl L F) s.heap.size = A at hD ⊢
  have hA : ∀ q : Nat, s.heap.size ≤ q → A q := fun q h => by rw [← hAe]; exact Or.inr h
  have hS : va_S A s.heap s.heap [] := va_S.rf
  have hl := lv_entry ([.ref o, .int x]) (n := 2) (Nat.le_of_ble_eq_true rfl)
  rw [lg_entry_eq]
  generalize (lg_sl ([.ref o, .int x]) ++ List.replicate (2 - (lg_sl ([.ref o, .int x])).length) Slot.unset).toArray = ls at hl ⊢
  have hl : lv_has ls 2 [(0, .ref o), (1, .int x)] := hl
  refine lv_aload_n hx hb dX9_answers_0 rfl (lv_at hl 0 rfl) ?_
  refine pg_get (ci := 8) (C := RX9) (T := TX9) (N := 20) hx hb hts hinX9 hown hK hP hmo hFo rfl 17 (by decide) (hts (.fieldLink RX9 65 "RopeDrumsModel" "failed" "I") (by decide +kernel)) (fun _ h9 => h9) rfl dX9_answers_1 ?_
  refine lv_if_ne (tgt := 9) hx hb dX9_answers_4 (by decide) (fun c1 => ?_) (fun c1 => absurd c1 (by decide))
  refine lv_aload_n hx hb dX9_answers_9 rfl (lv_at hl 0 rfl) ?_
  refine pg_get (ci := 8) (C := RX9) (T := TX9) (N := 20) hx hb hts hinX9 hown hK hP hmo hFo rfl 18 (by decide) (hts (.fieldLink RX9 58 "RopeDrumsModel" "counted" "[I") (by decide +kernel)) (fun _ h9 => h9) rfl dX9_answers_10 ?_
  refine lv_aload_n hx hb dX9_answers_13 rfl (lv_at hl 0 rfl) ?_
  refine pg_get (ci := 8) (C := RX9) (T := TX9) (N := 20) hx hb hts hinX9 hown hK hP hmo hFo rfl 17 (by decide) (hts (.fieldLink RX9 65 "RopeDrumsModel" "failed" "I") (by decide +kernel)) (fun _ h9 => h9) rfl dX9_answers_14 ?_
  refine lv_dup2_11 hx hb dX9_answers_17 rfl rfl ?_
  refine pg_iald hx hb hK hP 1 hm15 hF15 rfl (vp_in_nI (n := 5) (N := 6) (by decide) (by decide)) dX9_answers_18 ?_
  refine lv_topi (fun v2 ev2 => ?_)
  refine lv_iconst (v := 1) hx hb dX9_answers_19 (by decide) ?_
  refine lv_iadd hx hb dX9_answers_20 ?_
  refine lv_topi (fun v3 ev3 => ?_)
  refine pg_iast hx hb hK hP hD hS 1 hm15 hF15 rfl (vp_in_nI (n := 5) (N := 6) (by decide) (by decide)) dX9_answers_21 (fun H locs F4 eF4 hP hS => ?_)
  have hFo_4 : F4 o = .inr (8, [.int th, .ref (qm 0), .ref (qm 1), .ref (qm 2), .ref (qm 3), .ref (qm 4), .ref (qm 5), .ref (qm 6), .ref (qm 7), .int sp, .ref (qm 8), .ref (qm 9), .ref (qm 10), .ref (qm 11), .ref (qm 12), .ref (qm 13), .ref (qm 14), .int 5, .ref (qm 15), .long oc]) := by rw [eF4, va_up_ne _ _ (pl_ne hFo hF15 rfl)]; exact hFo
  have hFqm15_4 : F4 (qm 15) = cI (cy 1) 6 (upd f15 (5 : Int32).toNatClampNeg v3) := by rw [eF4]; exact va_up_self _ _ _
  refine lv_bipush (v := -10) hx hb dX9_answers_22 (by decide) ?_
  refine lv_aload_n hx hb dX9_answers_24 rfl (lv_at hl 0 rfl) ?_
  refine pg_get (ci := 8) (C := RX9) (T := TX9) (N := 20) hx hb hts hinX9 hown hK hP hmo hFo_4 rfl 17 (by decide) (hts (.fieldLink RX9 65 "RopeDrumsModel" "failed" "I") (by decide +kernel)) (fun _ h9 => h9) rfl dX9_answers_25 ?_
  refine lv_isub hx hb dX9_answers_28 ?_
  refine lv_topi (fun v5 ev5 => ?_)
  exact W.iret (v := v5) hx hb hr (fun t ht hW => ⟨⟨v5, F4, rfl, ⟨by subst ev5 ev3 ev2; rfl, by subst ev5 ev3 ev2; rw [eF4]; rfl⟩, (by show va_P _ _ _ t.heap; rw [ht]; exact hP)⟩, hS.F ht⟩) hS.2.2 dX9_answers_29

set_option maxHeartbeats 8000000 in
set_option maxRecDepth 100000 in
theorem c9_rL_0 (l : Launch) (G : va_G) (cy : Nat → ClassId) (L : List Nat) (F : Nat → va_E) (sz : Nat) (o : Nat) (qm : Nat → Nat) (th sp fa : Int32) (oc : Int64) (hmo : o ∈ L) (hFo : F o = .inr (8, [.int th, .ref (qm 0), .ref (qm 1), .ref (qm 2), .ref (qm 3), .ref (qm 4), .ref (qm 5), .ref (qm 6), .ref (qm 7), .int sp, .ref (qm 8), .ref (qm 9), .ref (qm 10), .ref (qm 11), .ref (qm 12), .ref (qm 13), .ref (qm 14), .int fa, .ref (qm 15), .long oc])) (x y : Int64)  : Met l yX9_reckonLongs wsX9_reckonLongs ({ frames := 0, cells := 0, slots := 0, locals := 0 }) (va_Pc [.ref o, .int 0, .long x, .long y] (fun U => bQ G cy L F sz U U.heap)) (va_Qv (fun F' : Nat → va_E => F' = va_up F o (.inr (8, [.int th, .ref (qm 0), .ref (qm 1), .ref (qm 2), .ref (qm 3), .ref (qm 4), .ref (qm 5), .ref (qm 6), .ref (qm 7), .int sp, .ref (qm 8), .ref (qm 9), .ref (qm 10), .ref (qm 11), .ref (qm 12), .ref (qm 13), .ref (qm 14), .int fa, .ref (qm 15), .long (rkL 0 x y)]))) (fun F' t => va_P G vwCl (va_pl L F') t.heap) (va_A (va_pl L F) sz)) 0 0 (va_A (va_pl L F) sz) := by
  refine Met.ofW (cc := cX9_reckonLongs) (maxL := 6) (ret := none) (by decide) rfl ?_
  intro p e s m args below meth c s₁ B hml hv
  obtain ⟨rfl, hsz, hP, hK, hD0⟩ := hv
  have hx := B.exec
  have hb := B.bytes
  have hr := B.returns
  have hts := atoms_spec (ws := wsX9_reckonLongs) B.pre
  have hown : s.vm.findClass RX9 = some m.cls := findClass_of_methodNamed B.named
  have hlocks := B.notSynchronized
  have hinX9 : ∀ w ∈ wsX90, w ∈ wsX9_reckonLongs := by decide +kernel
  subst hsz
  have hD := hD0.self F s.heap.size
  generalize hAe : va_A (va_pl L F) s.heap.size = A at hD ⊢
  have hA : ∀ q : Nat, s.heap.size ≤ q → A q := fun q h => by rw [← hAe]; exact Or.inr h
  have hS : va_S A s.heap s.heap [] := va_S.rf
  have hl := lv_entry ([.ref o, .int 0, .long x, .long y]) (n := 6) (Nat.le_of_ble_eq_true rfl)
  rw [lg_entry_eq]
  generalize (lg_sl ([.ref o, .int 0, .long x, .long y]) ++ List.replicate (6 - (lg_sl ([.ref o, .int 0, .long x, .long y])).length) Slot.unset).toArray = ls at hl ⊢
  have hl : lv_has ls 6 [(0, .ref o), (1, .int 0), (2, .long x), (4, .long y)] := hl
  refine lv_iload_n hx hb dX9_reckonLongs_0 rfl (lv_at hl 1 rfl) ?_
  refine lv_iconst (v := 2) hx hb dX9_reckonLongs_1 (by decide) ?_
  refine lv_icmp_le (tgt := 18) hx hb dX9_reckonLongs_2 (by decide) (fun c1 => ?_) (fun c1 => absurd (by decide) c1)
  refine lv_aload_n hx hb dX9_reckonLongs_18 rfl (lv_at hl 0 rfl) ?_
  refine lv_iload_n hx hb dX9_reckonLongs_19 rfl (lv_at hl 1 rfl) ?_
  refine lv_if_ne (tgt := 30) hx hb dX9_reckonLongs_20 (by decide) (fun c2 => absurd (by decide) c2) (fun c2 => ?_)
  refine lv_lload_n hx hb dX9_reckonLongs_23 rfl (lv_at hl 2 rfl) ?_
  refine lv_lload hx hb dX9_reckonLongs_24 (lv_at hl 3 rfl) ?_
  refine lv_ladd hx hb dX9_reckonLongs_26 ?_
  refine lv_topl (fun v3 ev3 => ?_)
  refine lv_goto (tgt := 70) hx hb dX9_reckonLongs_27 (by decide) ?_
  refine pg_put (ci := 8) (v := .long v3) (ty := .long) (C := RX9) (T := TX9) (N := 20) hx hb hts hinX9 tyX9 tyX9_ok nmX9 hown hK hP hD hS hmo hFo rfl 19 (by decide) (hts (.fieldLink RX9 131 "RopeDrumsModel" "outcome" "J") (by decide +kernel)) (fun _ h9 => h9) rfl (by decide +kernel) (rfl) (rfl) (Nat.le_of_ble_eq_true rfl) dX9_reckonLongs_70 (fun H locs F4 eF4 hP hS => ?_)
  have eF4 : F4 = va_up F o (.inr (8, [.int th, .ref (qm 0), .ref (qm 1), .ref (qm 2), .ref (qm 3), .ref (qm 4), .ref (qm 5), .ref (qm 6), .ref (qm 7), .int sp, .ref (qm 8), .ref (qm 9), .ref (qm 10), .ref (qm 11), .ref (qm 12), .ref (qm 13), .ref (qm 14), .int fa, .ref (qm 15), .long v3])) := eF4
  have hFo_4 : F4 o = .inr (8, [.int th, .ref (qm 0), .ref (qm 1), .ref (qm 2), .ref (qm 3), .ref (qm 4), .ref (qm 5), .ref (qm 6), .ref (qm 7), .int sp, .ref (qm 8), .ref (qm 9), .ref (qm 10), .ref (qm 11), .ref (qm 12), .ref (qm 13), .ref (qm 14), .int fa, .ref (qm 15), .long v3]) := by rw [eF4]; exact va_up_self _ _ _
  exact W.vret hx hb hr (fun t ht hW => ⟨⟨F4, rfl, (by subst ev3; rw [eF4]; rfl), (by show va_P _ _ _ t.heap; rw [ht]; exact hP)⟩, hS.F ht⟩) hS.2.2 dX9_reckonLongs_73

set_option maxHeartbeats 8000000 in
set_option maxRecDepth 100000 in
theorem c9_rL_1 (l : Launch) (G : va_G) (cy : Nat → ClassId) (L : List Nat) (F : Nat → va_E) (sz : Nat) (o : Nat) (qm : Nat → Nat) (th sp fa : Int32) (oc : Int64) (hmo : o ∈ L) (hFo : F o = .inr (8, [.int th, .ref (qm 0), .ref (qm 1), .ref (qm 2), .ref (qm 3), .ref (qm 4), .ref (qm 5), .ref (qm 6), .ref (qm 7), .int sp, .ref (qm 8), .ref (qm 9), .ref (qm 10), .ref (qm 11), .ref (qm 12), .ref (qm 13), .ref (qm 14), .int fa, .ref (qm 15), .long oc])) (x y : Int64)  : Met l yX9_reckonLongs wsX9_reckonLongs ({ frames := 0, cells := 0, slots := 0, locals := 0 }) (va_Pc [.ref o, .int 1, .long x, .long y] (fun U => bQ G cy L F sz U U.heap)) (va_Qv (fun F' : Nat → va_E => F' = va_up F o (.inr (8, [.int th, .ref (qm 0), .ref (qm 1), .ref (qm 2), .ref (qm 3), .ref (qm 4), .ref (qm 5), .ref (qm 6), .ref (qm 7), .int sp, .ref (qm 8), .ref (qm 9), .ref (qm 10), .ref (qm 11), .ref (qm 12), .ref (qm 13), .ref (qm 14), .int fa, .ref (qm 15), .long (rkL 1 x y)]))) (fun F' t => va_P G vwCl (va_pl L F') t.heap) (va_A (va_pl L F) sz)) 0 0 (va_A (va_pl L F) sz) := by
  refine Met.ofW (cc := cX9_reckonLongs) (maxL := 6) (ret := none) (by decide) rfl ?_
  intro p e s m args below meth c s₁ B hml hv
  obtain ⟨rfl, hsz, hP, hK, hD0⟩ := hv
  have hx := B.exec
  have hb := B.bytes
  have hr := B.returns
  have hts := atoms_spec (ws := wsX9_reckonLongs) B.pre
  have hown : s.vm.findClass RX9 = some m.cls := findClass_of_methodNamed B.named
  have hlocks := B.notSynchronized
  have hinX9 : ∀ w ∈ wsX90, w ∈ wsX9_reckonLongs := by decide +kernel
  subst hsz
  have hD := hD0.self F s.heap.size
  generalize hAe : va_A (va_pl L F) s.heap.size = A at hD ⊢
  have hA : ∀ q : Nat, s.heap.size ≤ q → A q := fun q h => by rw [← hAe]; exact Or.inr h
  have hS : va_S A s.heap s.heap [] := va_S.rf
  have hl := lv_entry ([.ref o, .int 1, .long x, .long y]) (n := 6) (Nat.le_of_ble_eq_true rfl)
  rw [lg_entry_eq]
  generalize (lg_sl ([.ref o, .int 1, .long x, .long y]) ++ List.replicate (6 - (lg_sl ([.ref o, .int 1, .long x, .long y])).length) Slot.unset).toArray = ls at hl ⊢
  have hl : lv_has ls 6 [(0, .ref o), (1, .int 1), (2, .long x), (4, .long y)] := hl
  refine lv_iload_n hx hb dX9_reckonLongs_0 rfl (lv_at hl 1 rfl) ?_
  refine lv_iconst (v := 2) hx hb dX9_reckonLongs_1 (by decide) ?_
  refine lv_icmp_le (tgt := 18) hx hb dX9_reckonLongs_2 (by decide) (fun c1 => ?_) (fun c1 => absurd (by decide) c1)
  refine lv_aload_n hx hb dX9_reckonLongs_18 rfl (lv_at hl 0 rfl) ?_
  refine lv_iload_n hx hb dX9_reckonLongs_19 rfl (lv_at hl 1 rfl) ?_
  refine lv_if_ne (tgt := 30) hx hb dX9_reckonLongs_20 (by decide) (fun c2 => ?_) (fun c2 => absurd c2 (by decide))
  refine lv_iload_n hx hb dX9_reckonLongs_30 rfl (lv_at hl 1 rfl) ?_
  refine lv_iconst (v := 1) hx hb dX9_reckonLongs_31 (by decide) ?_
  refine lv_icmp_ne (tgt := 42) hx hb dX9_reckonLongs_32 (by decide) (fun c3 => absurd (by decide) c3) (fun c3 => ?_)
  refine lv_lload_n hx hb dX9_reckonLongs_35 rfl (lv_at hl 2 rfl) ?_
  refine lv_lload hx hb dX9_reckonLongs_36 (lv_at hl 3 rfl) ?_
  refine lv_lsub hx hb dX9_reckonLongs_38 ?_
  refine lv_topl (fun v4 ev4 => ?_)
  refine lv_goto (tgt := 70) hx hb dX9_reckonLongs_39 (by decide) ?_
  refine pg_put (ci := 8) (v := .long v4) (ty := .long) (C := RX9) (T := TX9) (N := 20) hx hb hts hinX9 tyX9 tyX9_ok nmX9 hown hK hP hD hS hmo hFo rfl 19 (by decide) (hts (.fieldLink RX9 131 "RopeDrumsModel" "outcome" "J") (by decide +kernel)) (fun _ h9 => h9) rfl (by decide +kernel) (rfl) (rfl) (Nat.le_of_ble_eq_true rfl) dX9_reckonLongs_70 (fun H locs F5 eF5 hP hS => ?_)
  have eF5 : F5 = va_up F o (.inr (8, [.int th, .ref (qm 0), .ref (qm 1), .ref (qm 2), .ref (qm 3), .ref (qm 4), .ref (qm 5), .ref (qm 6), .ref (qm 7), .int sp, .ref (qm 8), .ref (qm 9), .ref (qm 10), .ref (qm 11), .ref (qm 12), .ref (qm 13), .ref (qm 14), .int fa, .ref (qm 15), .long v4])) := eF5
  have hFo_5 : F5 o = .inr (8, [.int th, .ref (qm 0), .ref (qm 1), .ref (qm 2), .ref (qm 3), .ref (qm 4), .ref (qm 5), .ref (qm 6), .ref (qm 7), .int sp, .ref (qm 8), .ref (qm 9), .ref (qm 10), .ref (qm 11), .ref (qm 12), .ref (qm 13), .ref (qm 14), .int fa, .ref (qm 15), .long v4]) := by rw [eF5]; exact va_up_self _ _ _
  exact W.vret hx hb hr (fun t ht hW => ⟨⟨F5, rfl, (by subst ev4; rw [eF5]; rfl), (by show va_P _ _ _ t.heap; rw [ht]; exact hP)⟩, hS.F ht⟩) hS.2.2 dX9_reckonLongs_73

set_option maxHeartbeats 8000000 in
set_option maxRecDepth 100000 in
theorem c9_rL_2 (l : Launch) (G : va_G) (cy : Nat → ClassId) (L : List Nat) (F : Nat → va_E) (sz : Nat) (o : Nat) (qm : Nat → Nat) (th sp fa : Int32) (oc : Int64) (hmo : o ∈ L) (hFo : F o = .inr (8, [.int th, .ref (qm 0), .ref (qm 1), .ref (qm 2), .ref (qm 3), .ref (qm 4), .ref (qm 5), .ref (qm 6), .ref (qm 7), .int sp, .ref (qm 8), .ref (qm 9), .ref (qm 10), .ref (qm 11), .ref (qm 12), .ref (qm 13), .ref (qm 14), .int fa, .ref (qm 15), .long oc])) (x y : Int64)  : Met l yX9_reckonLongs wsX9_reckonLongs ({ frames := 0, cells := 0, slots := 0, locals := 0 }) (va_Pc [.ref o, .int 2, .long x, .long y] (fun U => bQ G cy L F sz U U.heap)) (va_Qv (fun F' : Nat → va_E => F' = va_up F o (.inr (8, [.int th, .ref (qm 0), .ref (qm 1), .ref (qm 2), .ref (qm 3), .ref (qm 4), .ref (qm 5), .ref (qm 6), .ref (qm 7), .int sp, .ref (qm 8), .ref (qm 9), .ref (qm 10), .ref (qm 11), .ref (qm 12), .ref (qm 13), .ref (qm 14), .int fa, .ref (qm 15), .long (rkL 2 x y)]))) (fun F' t => va_P G vwCl (va_pl L F') t.heap) (va_A (va_pl L F) sz)) 0 0 (va_A (va_pl L F) sz) := by
  refine Met.ofW (cc := cX9_reckonLongs) (maxL := 6) (ret := none) (by decide) rfl ?_
  intro p e s m args below meth c s₁ B hml hv
  obtain ⟨rfl, hsz, hP, hK, hD0⟩ := hv
  have hx := B.exec
  have hb := B.bytes
  have hr := B.returns
  have hts := atoms_spec (ws := wsX9_reckonLongs) B.pre
  have hown : s.vm.findClass RX9 = some m.cls := findClass_of_methodNamed B.named
  have hlocks := B.notSynchronized
  have hinX9 : ∀ w ∈ wsX90, w ∈ wsX9_reckonLongs := by decide +kernel
  subst hsz
  have hD := hD0.self F s.heap.size
  generalize hAe : va_A (va_pl L F) s.heap.size = A at hD ⊢
  have hA : ∀ q : Nat, s.heap.size ≤ q → A q := fun q h => by rw [← hAe]; exact Or.inr h
  have hS : va_S A s.heap s.heap [] := va_S.rf
  have hl := lv_entry ([.ref o, .int 2, .long x, .long y]) (n := 6) (Nat.le_of_ble_eq_true rfl)
  rw [lg_entry_eq]
  generalize (lg_sl ([.ref o, .int 2, .long x, .long y]) ++ List.replicate (6 - (lg_sl ([.ref o, .int 2, .long x, .long y])).length) Slot.unset).toArray = ls at hl ⊢
  have hl : lv_has ls 6 [(0, .ref o), (1, .int 2), (2, .long x), (4, .long y)] := hl
  refine lv_iload_n hx hb dX9_reckonLongs_0 rfl (lv_at hl 1 rfl) ?_
  refine lv_iconst (v := 2) hx hb dX9_reckonLongs_1 (by decide) ?_
  refine lv_icmp_le (tgt := 18) hx hb dX9_reckonLongs_2 (by decide) (fun c1 => ?_) (fun c1 => absurd (by decide) c1)
  refine lv_aload_n hx hb dX9_reckonLongs_18 rfl (lv_at hl 0 rfl) ?_
  refine lv_iload_n hx hb dX9_reckonLongs_19 rfl (lv_at hl 1 rfl) ?_
  refine lv_if_ne (tgt := 30) hx hb dX9_reckonLongs_20 (by decide) (fun c2 => ?_) (fun c2 => absurd c2 (by decide))
  refine lv_iload_n hx hb dX9_reckonLongs_30 rfl (lv_at hl 1 rfl) ?_
  refine lv_iconst (v := 1) hx hb dX9_reckonLongs_31 (by decide) ?_
  refine lv_icmp_ne (tgt := 42) hx hb dX9_reckonLongs_32 (by decide) (fun c3 => ?_) (fun c3 => absurd c3 (by decide))
  refine lv_iload_n hx hb dX9_reckonLongs_42 rfl (lv_at hl 1 rfl) ?_
  refine lv_iconst (v := 2) hx hb dX9_reckonLongs_43 (by decide) ?_
  refine lv_icmp_ne (tgt := 54) hx hb dX9_reckonLongs_44 (by decide) (fun c4 => absurd (by decide) c4) (fun c4 => ?_)
  refine lv_lload_n hx hb dX9_reckonLongs_47 rfl (lv_at hl 2 rfl) ?_
  refine lv_lload hx hb dX9_reckonLongs_48 (lv_at hl 3 rfl) ?_
  refine lv_lmul hx hb dX9_reckonLongs_50 ?_
  refine lv_topl (fun v5 ev5 => ?_)
  refine lv_goto (tgt := 70) hx hb dX9_reckonLongs_51 (by decide) ?_
  refine pg_put (ci := 8) (v := .long v5) (ty := .long) (C := RX9) (T := TX9) (N := 20) hx hb hts hinX9 tyX9 tyX9_ok nmX9 hown hK hP hD hS hmo hFo rfl 19 (by decide) (hts (.fieldLink RX9 131 "RopeDrumsModel" "outcome" "J") (by decide +kernel)) (fun _ h9 => h9) rfl (by decide +kernel) (rfl) (rfl) (Nat.le_of_ble_eq_true rfl) dX9_reckonLongs_70 (fun H locs F6 eF6 hP hS => ?_)
  have eF6 : F6 = va_up F o (.inr (8, [.int th, .ref (qm 0), .ref (qm 1), .ref (qm 2), .ref (qm 3), .ref (qm 4), .ref (qm 5), .ref (qm 6), .ref (qm 7), .int sp, .ref (qm 8), .ref (qm 9), .ref (qm 10), .ref (qm 11), .ref (qm 12), .ref (qm 13), .ref (qm 14), .int fa, .ref (qm 15), .long v5])) := eF6
  have hFo_6 : F6 o = .inr (8, [.int th, .ref (qm 0), .ref (qm 1), .ref (qm 2), .ref (qm 3), .ref (qm 4), .ref (qm 5), .ref (qm 6), .ref (qm 7), .int sp, .ref (qm 8), .ref (qm 9), .ref (qm 10), .ref (qm 11), .ref (qm 12), .ref (qm 13), .ref (qm 14), .int fa, .ref (qm 15), .long v5]) := by rw [eF6]; exact va_up_self _ _ _
  exact W.vret hx hb hr (fun t ht hW => ⟨⟨F6, rfl, (by subst ev5; rw [eF6]; rfl), (by show va_P _ _ _ t.heap; rw [ht]; exact hP)⟩, hS.F ht⟩) hS.2.2 dX9_reckonLongs_73

set_option maxHeartbeats 8000000 in
set_option maxRecDepth 100000 in
theorem c9_rL_3 (l : Launch) (G : va_G) (cy : Nat → ClassId) (L : List Nat) (F : Nat → va_E) (sz : Nat) (o : Nat) (qm : Nat → Nat) (th sp fa : Int32) (oc : Int64) (hmo : o ∈ L) (hFo : F o = .inr (8, [.int th, .ref (qm 0), .ref (qm 1), .ref (qm 2), .ref (qm 3), .ref (qm 4), .ref (qm 5), .ref (qm 6), .ref (qm 7), .int sp, .ref (qm 8), .ref (qm 9), .ref (qm 10), .ref (qm 11), .ref (qm 12), .ref (qm 13), .ref (qm 14), .int fa, .ref (qm 15), .long oc])) (x y : Int64) (hy : ¬ y = 0)  : Met l yX9_reckonLongs wsX9_reckonLongs ({ frames := 0, cells := 0, slots := 0, locals := 0 }) (va_Pc [.ref o, .int 3, .long x, .long y] (fun U => bQ G cy L F sz U U.heap)) (va_Qv (fun F' : Nat → va_E => F' = va_up F o (.inr (8, [.int th, .ref (qm 0), .ref (qm 1), .ref (qm 2), .ref (qm 3), .ref (qm 4), .ref (qm 5), .ref (qm 6), .ref (qm 7), .int sp, .ref (qm 8), .ref (qm 9), .ref (qm 10), .ref (qm 11), .ref (qm 12), .ref (qm 13), .ref (qm 14), .int fa, .ref (qm 15), .long (rkL 3 x y)]))) (fun F' t => va_P G vwCl (va_pl L F') t.heap) (va_A (va_pl L F) sz)) 0 0 (va_A (va_pl L F) sz) := by
  refine Met.ofW (cc := cX9_reckonLongs) (maxL := 6) (ret := none) (by decide) rfl ?_
  intro p e s m args below meth c s₁ B hml hv
  obtain ⟨rfl, hsz, hP, hK, hD0⟩ := hv
  have hx := B.exec
  have hb := B.bytes
  have hr := B.returns
  have hts := atoms_spec (ws := wsX9_reckonLongs) B.pre
  have hown : s.vm.findClass RX9 = some m.cls := findClass_of_methodNamed B.named
  have hlocks := B.notSynchronized
  have hinX9 : ∀ w ∈ wsX90, w ∈ wsX9_reckonLongs := by decide +kernel
  subst hsz
  have hD := hD0.self F s.heap.size
  generalize hAe : va_A (va_pl L F) s.heap.size = A at hD ⊢
  have hA : ∀ q : Nat, s.heap.size ≤ q → A q := fun q h => by rw [← hAe]; exact Or.inr h
  have hS : va_S A s.heap s.heap [] := va_S.rf
  have hl := lv_entry ([.ref o, .int 3, .long x, .long y]) (n := 6) (Nat.le_of_ble_eq_true rfl)
  rw [lg_entry_eq]
  generalize (lg_sl ([.ref o, .int 3, .long x, .long y]) ++ List.replicate (6 - (lg_sl ([.ref o, .int 3, .long x, .long y])).length) Slot.unset).toArray = ls at hl ⊢
  have hl : lv_has ls 6 [(0, .ref o), (1, .int 3), (2, .long x), (4, .long y)] := hl
  refine lv_iload_n hx hb dX9_reckonLongs_0 rfl (lv_at hl 1 rfl) ?_
  refine lv_iconst (v := 2) hx hb dX9_reckonLongs_1 (by decide) ?_
  refine lv_icmp_le (tgt := 18) hx hb dX9_reckonLongs_2 (by decide) (fun c1 => absurd c1 (by decide)) (fun c1 => ?_)
  refine lv_lload hx hb dX9_reckonLongs_5 (lv_at hl 3 rfl) ?_
  refine lv_lconst (v := 0) hx hb dX9_reckonLongs_7 (by decide) ?_
  refine W.lcmp hx hb dX9_reckonLongs_8 ?_
  refine lv_if_ne (tgt := 18) hx hb dX9_reckonLongs_9 (by decide) (fun c2 => ?_) (fun c2 => absurd c2 (fun q => hy ((lg_cmp_eq _ _).mp q)))
  refine lv_aload_n hx hb dX9_reckonLongs_18 rfl (lv_at hl 0 rfl) ?_
  refine lv_iload_n hx hb dX9_reckonLongs_19 rfl (lv_at hl 1 rfl) ?_
  refine lv_if_ne (tgt := 30) hx hb dX9_reckonLongs_20 (by decide) (fun c3 => ?_) (fun c3 => absurd c3 (by decide))
  refine lv_iload_n hx hb dX9_reckonLongs_30 rfl (lv_at hl 1 rfl) ?_
  refine lv_iconst (v := 1) hx hb dX9_reckonLongs_31 (by decide) ?_
  refine lv_icmp_ne (tgt := 42) hx hb dX9_reckonLongs_32 (by decide) (fun c4 => ?_) (fun c4 => absurd c4 (by decide))
  refine lv_iload_n hx hb dX9_reckonLongs_42 rfl (lv_at hl 1 rfl) ?_
  refine lv_iconst (v := 2) hx hb dX9_reckonLongs_43 (by decide) ?_
  refine lv_icmp_ne (tgt := 54) hx hb dX9_reckonLongs_44 (by decide) (fun c5 => ?_) (fun c5 => absurd c5 (by decide))
  refine lv_iload_n hx hb dX9_reckonLongs_54 rfl (lv_at hl 1 rfl) ?_
  refine lv_iconst (v := 3) hx hb dX9_reckonLongs_55 (by decide) ?_
  refine lv_icmp_ne (tgt := 66) hx hb dX9_reckonLongs_56 (by decide) (fun c6 => absurd (by decide) c6) (fun c6 => ?_)
  refine lv_lload_n hx hb dX9_reckonLongs_59 rfl (lv_at hl 2 rfl) ?_
  refine lv_lload hx hb dX9_reckonLongs_60 (lv_at hl 3 rfl) ?_
  refine lv_ldiv hx hb dX9_reckonLongs_62 (hy) ?_
  refine lv_topl (fun v7 ev7 => ?_)
  refine lv_goto (tgt := 70) hx hb dX9_reckonLongs_63 (by decide) ?_
  refine pg_put (ci := 8) (v := .long v7) (ty := .long) (C := RX9) (T := TX9) (N := 20) hx hb hts hinX9 tyX9 tyX9_ok nmX9 hown hK hP hD hS hmo hFo rfl 19 (by decide) (hts (.fieldLink RX9 131 "RopeDrumsModel" "outcome" "J") (by decide +kernel)) (fun _ h9 => h9) rfl (by decide +kernel) (rfl) (rfl) (Nat.le_of_ble_eq_true rfl) dX9_reckonLongs_70 (fun H locs F8 eF8 hP hS => ?_)
  have eF8 : F8 = va_up F o (.inr (8, [.int th, .ref (qm 0), .ref (qm 1), .ref (qm 2), .ref (qm 3), .ref (qm 4), .ref (qm 5), .ref (qm 6), .ref (qm 7), .int sp, .ref (qm 8), .ref (qm 9), .ref (qm 10), .ref (qm 11), .ref (qm 12), .ref (qm 13), .ref (qm 14), .int fa, .ref (qm 15), .long v7])) := eF8
  have hFo_8 : F8 o = .inr (8, [.int th, .ref (qm 0), .ref (qm 1), .ref (qm 2), .ref (qm 3), .ref (qm 4), .ref (qm 5), .ref (qm 6), .ref (qm 7), .int sp, .ref (qm 8), .ref (qm 9), .ref (qm 10), .ref (qm 11), .ref (qm 12), .ref (qm 13), .ref (qm 14), .int fa, .ref (qm 15), .long v7]) := by rw [eF8]; exact va_up_self _ _ _
  exact W.vret hx hb hr (fun t ht hW => ⟨⟨F8, rfl, (by subst ev7; rw [eF8]; rfl), (by show va_P _ _ _ t.heap; rw [ht]; exact hP)⟩, hS.F ht⟩) hS.2.2 dX9_reckonLongs_73

set_option maxHeartbeats 8000000 in
set_option maxRecDepth 100000 in
theorem c9_rL_3_no (l : Launch) (G : va_G) (cy : Nat → ClassId) (L : List Nat) (F : Nat → va_E) (sz : Nat) (o : Nat) (qm : Nat → Nat) (th sp fa : Int32) (oc : Int64) (hmo : o ∈ L) (hFo : F o = .inr (8, [.int th, .ref (qm 0), .ref (qm 1), .ref (qm 2), .ref (qm 3), .ref (qm 4), .ref (qm 5), .ref (qm 6), .ref (qm 7), .int sp, .ref (qm 8), .ref (qm 9), .ref (qm 10), .ref (qm 11), .ref (qm 12), .ref (qm 13), .ref (qm 14), .int fa, .ref (qm 15), .long oc])) (x y : Int64) (hy : y = 0)  : Met l yX9_reckonLongs wsX9_reckonLongs ({ frames := 0, cells := 0, slots := 0, locals := 0 }) (va_Pc [.ref o, .int 3, .long x, .long y] (fun U => bQ G cy L F sz U U.heap)) (va_Qv (fun F' : Nat → va_E => F' = va_up F o (.inr (8, [.int th, .ref (qm 0), .ref (qm 1), .ref (qm 2), .ref (qm 3), .ref (qm 4), .ref (qm 5), .ref (qm 6), .ref (qm 7), .int sp, .ref (qm 8), .ref (qm 9), .ref (qm 10), .ref (qm 11), .ref (qm 12), .ref (qm 13), .ref (qm 14), .int 4, .ref (qm 15), .long oc]))) (fun F' t => va_P G vwCl (va_pl L F') t.heap) (va_A (va_pl L F) sz)) 0 0 (va_A (va_pl L F) sz) := by
  refine Met.ofW (cc := cX9_reckonLongs) (maxL := 6) (ret := none) (by decide) rfl ?_
  intro p e s m args below meth c s₁ B hml hv
  obtain ⟨rfl, hsz, hP, hK, hD0⟩ := hv
  have hx := B.exec
  have hb := B.bytes
  have hr := B.returns
  have hts := atoms_spec (ws := wsX9_reckonLongs) B.pre
  have hown : s.vm.findClass RX9 = some m.cls := findClass_of_methodNamed B.named
  have hlocks := B.notSynchronized
  have hinX9 : ∀ w ∈ wsX90, w ∈ wsX9_reckonLongs := by decide +kernel
  subst hsz
  have hD := hD0.self F s.heap.size
  generalize hAe : va_A (va_pl L F) s.heap.size = A at hD ⊢
  have hA : ∀ q : Nat, s.heap.size ≤ q → A q := fun q h => by rw [← hAe]; exact Or.inr h
  have hS : va_S A s.heap s.heap [] := va_S.rf
  have hl := lv_entry ([.ref o, .int 3, .long x, .long y]) (n := 6) (Nat.le_of_ble_eq_true rfl)
  rw [lg_entry_eq]
  generalize (lg_sl ([.ref o, .int 3, .long x, .long y]) ++ List.replicate (6 - (lg_sl ([.ref o, .int 3, .long x, .long y])).length) Slot.unset).toArray = ls at hl ⊢
  have hl : lv_has ls 6 [(0, .ref o), (1, .int 3), (2, .long x), (4, .long y)] := hl
  refine lv_iload_n hx hb dX9_reckonLongs_0 rfl (lv_at hl 1 rfl) ?_
  refine lv_iconst (v := 2) hx hb dX9_reckonLongs_1 (by decide) ?_
  refine lv_icmp_le (tgt := 18) hx hb dX9_reckonLongs_2 (by decide) (fun c1 => absurd c1 (by decide)) (fun c1 => ?_)
  refine lv_lload hx hb dX9_reckonLongs_5 (lv_at hl 3 rfl) ?_
  refine lv_lconst (v := 0) hx hb dX9_reckonLongs_7 (by decide) ?_
  refine W.lcmp hx hb dX9_reckonLongs_8 ?_
  refine lv_if_ne (tgt := 18) hx hb dX9_reckonLongs_9 (by decide) (fun c2 => absurd ((lg_cmp_eq _ _).mpr hy) c2) (fun c2 => ?_)
  refine lv_aload_n hx hb dX9_reckonLongs_12 rfl (lv_at hl 0 rfl) ?_
  refine lv_iconst (v := 4) hx hb dX9_reckonLongs_13 (by decide) ?_
  refine pg_put (ci := 8) (v := .int 4) (ty := .int) (C := RX9) (T := TX9) (N := 20) hx hb hts hinX9 tyX9 tyX9_ok nmX9 hown hK hP hD hS hmo hFo rfl 17 (by decide) (hts (.fieldLink RX9 65 "RopeDrumsModel" "failed" "I") (by decide +kernel)) (fun _ h9 => h9) rfl (by decide +kernel) (rfl) (rfl) (Nat.le_of_ble_eq_true rfl) dX9_reckonLongs_14 (fun H locs F3 eF3 hP hS => ?_)
  have eF3 : F3 = va_up F o (.inr (8, [.int th, .ref (qm 0), .ref (qm 1), .ref (qm 2), .ref (qm 3), .ref (qm 4), .ref (qm 5), .ref (qm 6), .ref (qm 7), .int sp, .ref (qm 8), .ref (qm 9), .ref (qm 10), .ref (qm 11), .ref (qm 12), .ref (qm 13), .ref (qm 14), .int 4, .ref (qm 15), .long oc])) := eF3
  have hFo_3 : F3 o = .inr (8, [.int th, .ref (qm 0), .ref (qm 1), .ref (qm 2), .ref (qm 3), .ref (qm 4), .ref (qm 5), .ref (qm 6), .ref (qm 7), .int sp, .ref (qm 8), .ref (qm 9), .ref (qm 10), .ref (qm 11), .ref (qm 12), .ref (qm 13), .ref (qm 14), .int 4, .ref (qm 15), .long oc]) := by rw [eF3]; exact va_up_self _ _ _
  exact W.vret hx hb hr (fun t ht hW => ⟨⟨F3, rfl, (by rw [eF3]), (by show va_P _ _ _ t.heap; rw [ht]; exact hP)⟩, hS.F ht⟩) hS.2.2 dX9_reckonLongs_17

set_option maxHeartbeats 8000000 in
set_option maxRecDepth 100000 in
theorem c9_rL_4 (l : Launch) (G : va_G) (cy : Nat → ClassId) (L : List Nat) (F : Nat → va_E) (sz : Nat) (o : Nat) (qm : Nat → Nat) (th sp fa : Int32) (oc : Int64) (hmo : o ∈ L) (hFo : F o = .inr (8, [.int th, .ref (qm 0), .ref (qm 1), .ref (qm 2), .ref (qm 3), .ref (qm 4), .ref (qm 5), .ref (qm 6), .ref (qm 7), .int sp, .ref (qm 8), .ref (qm 9), .ref (qm 10), .ref (qm 11), .ref (qm 12), .ref (qm 13), .ref (qm 14), .int fa, .ref (qm 15), .long oc])) (x y : Int64) (hy : ¬ y = 0)  : Met l yX9_reckonLongs wsX9_reckonLongs ({ frames := 0, cells := 0, slots := 0, locals := 0 }) (va_Pc [.ref o, .int 4, .long x, .long y] (fun U => bQ G cy L F sz U U.heap)) (va_Qv (fun F' : Nat → va_E => F' = va_up F o (.inr (8, [.int th, .ref (qm 0), .ref (qm 1), .ref (qm 2), .ref (qm 3), .ref (qm 4), .ref (qm 5), .ref (qm 6), .ref (qm 7), .int sp, .ref (qm 8), .ref (qm 9), .ref (qm 10), .ref (qm 11), .ref (qm 12), .ref (qm 13), .ref (qm 14), .int fa, .ref (qm 15), .long (rkL 4 x y)]))) (fun F' t => va_P G vwCl (va_pl L F') t.heap) (va_A (va_pl L F) sz)) 0 0 (va_A (va_pl L F) sz) := by
  refine Met.ofW (cc := cX9_reckonLongs) (maxL := 6) (ret := none) (by decide) rfl ?_
  intro p e s m args below meth c s₁ B hml hv
  obtain ⟨rfl, hsz, hP, hK, hD0⟩ := hv
  have hx := B.exec
  have hb := B.bytes
  have hr := B.returns
  have hts := atoms_spec (ws := wsX9_reckonLongs) B.pre
  have hown : s.vm.findClass RX9 = some m.cls := findClass_of_methodNamed B.named
  have hlocks := B.notSynchronized
  have hinX9 : ∀ w ∈ wsX90, w ∈ wsX9_reckonLongs := by decide +kernel
  subst hsz
  have hD := hD0.self F s.heap.size
  generalize hAe : va_A (va_pl L F) s.heap.size = A at hD ⊢
  have hA : ∀ q : Nat, s.heap.size ≤ q → A q := fun q h => by rw [← hAe]; exact Or.inr h
  have hS : va_S A s.heap s.heap [] := va_S.rf
  have hl := lv_entry ([.ref o, .int 4, .long x, .long y]) (n := 6) (Nat.le_of_ble_eq_true rfl)
  rw [lg_entry_eq]
  generalize (lg_sl ([.ref o, .int 4, .long x, .long y]) ++ List.replicate (6 - (lg_sl ([.ref o, .int 4, .long x, .long y])).length) Slot.unset).toArray = ls at hl ⊢
  have hl : lv_has ls 6 [(0, .ref o), (1, .int 4), (2, .long x), (4, .long y)] := hl
  refine lv_iload_n hx hb dX9_reckonLongs_0 rfl (lv_at hl 1 rfl) ?_
  refine lv_iconst (v := 2) hx hb dX9_reckonLongs_1 (by decide) ?_
  refine lv_icmp_le (tgt := 18) hx hb dX9_reckonLongs_2 (by decide) (fun c1 => absurd c1 (by decide)) (fun c1 => ?_)
  refine lv_lload hx hb dX9_reckonLongs_5 (lv_at hl 3 rfl) ?_
  refine lv_lconst (v := 0) hx hb dX9_reckonLongs_7 (by decide) ?_
  refine W.lcmp hx hb dX9_reckonLongs_8 ?_
  refine lv_if_ne (tgt := 18) hx hb dX9_reckonLongs_9 (by decide) (fun c2 => ?_) (fun c2 => absurd c2 (fun q => hy ((lg_cmp_eq _ _).mp q)))
  refine lv_aload_n hx hb dX9_reckonLongs_18 rfl (lv_at hl 0 rfl) ?_
  refine lv_iload_n hx hb dX9_reckonLongs_19 rfl (lv_at hl 1 rfl) ?_
  refine lv_if_ne (tgt := 30) hx hb dX9_reckonLongs_20 (by decide) (fun c3 => ?_) (fun c3 => absurd c3 (by decide))
  refine lv_iload_n hx hb dX9_reckonLongs_30 rfl (lv_at hl 1 rfl) ?_
  refine lv_iconst (v := 1) hx hb dX9_reckonLongs_31 (by decide) ?_
  refine lv_icmp_ne (tgt := 42) hx hb dX9_reckonLongs_32 (by decide) (fun c4 => ?_) (fun c4 => absurd c4 (by decide))
  refine lv_iload_n hx hb dX9_reckonLongs_42 rfl (lv_at hl 1 rfl) ?_
  refine lv_iconst (v := 2) hx hb dX9_reckonLongs_43 (by decide) ?_
  refine lv_icmp_ne (tgt := 54) hx hb dX9_reckonLongs_44 (by decide) (fun c5 => ?_) (fun c5 => absurd c5 (by decide))
  refine lv_iload_n hx hb dX9_reckonLongs_54 rfl (lv_at hl 1 rfl) ?_
  refine lv_iconst (v := 3) hx hb dX9_reckonLongs_55 (by decide) ?_
  refine lv_icmp_ne (tgt := 66) hx hb dX9_reckonLongs_56 (by decide) (fun c6 => ?_) (fun c6 => absurd c6 (by decide))
  refine lv_lload_n hx hb dX9_reckonLongs_66 rfl (lv_at hl 2 rfl) ?_
  refine lv_lload hx hb dX9_reckonLongs_67 (lv_at hl 3 rfl) ?_
  refine lv_lrem hx hb dX9_reckonLongs_69 (hy) ?_
  refine lv_topl (fun v7 ev7 => ?_)
  refine pg_put (ci := 8) (v := .long v7) (ty := .long) (C := RX9) (T := TX9) (N := 20) hx hb hts hinX9 tyX9 tyX9_ok nmX9 hown hK hP hD hS hmo hFo rfl 19 (by decide) (hts (.fieldLink RX9 131 "RopeDrumsModel" "outcome" "J") (by decide +kernel)) (fun _ h9 => h9) rfl (by decide +kernel) (rfl) (rfl) (Nat.le_of_ble_eq_true rfl) dX9_reckonLongs_70 (fun H locs F8 eF8 hP hS => ?_)
  have eF8 : F8 = va_up F o (.inr (8, [.int th, .ref (qm 0), .ref (qm 1), .ref (qm 2), .ref (qm 3), .ref (qm 4), .ref (qm 5), .ref (qm 6), .ref (qm 7), .int sp, .ref (qm 8), .ref (qm 9), .ref (qm 10), .ref (qm 11), .ref (qm 12), .ref (qm 13), .ref (qm 14), .int fa, .ref (qm 15), .long v7])) := eF8
  have hFo_8 : F8 o = .inr (8, [.int th, .ref (qm 0), .ref (qm 1), .ref (qm 2), .ref (qm 3), .ref (qm 4), .ref (qm 5), .ref (qm 6), .ref (qm 7), .int sp, .ref (qm 8), .ref (qm 9), .ref (qm 10), .ref (qm 11), .ref (qm 12), .ref (qm 13), .ref (qm 14), .int fa, .ref (qm 15), .long v7]) := by rw [eF8]; exact va_up_self _ _ _
  exact W.vret hx hb hr (fun t ht hW => ⟨⟨F8, rfl, (by subst ev7; rw [eF8]; rfl), (by show va_P _ _ _ t.heap; rw [ht]; exact hP)⟩, hS.F ht⟩) hS.2.2 dX9_reckonLongs_73

set_option maxHeartbeats 8000000 in
set_option maxRecDepth 100000 in
theorem c9_rL_4_no (l : Launch) (G : va_G) (cy : Nat → ClassId) (L : List Nat) (F : Nat → va_E) (sz : Nat) (o : Nat) (qm : Nat → Nat) (th sp fa : Int32) (oc : Int64) (hmo : o ∈ L) (hFo : F o = .inr (8, [.int th, .ref (qm 0), .ref (qm 1), .ref (qm 2), .ref (qm 3), .ref (qm 4), .ref (qm 5), .ref (qm 6), .ref (qm 7), .int sp, .ref (qm 8), .ref (qm 9), .ref (qm 10), .ref (qm 11), .ref (qm 12), .ref (qm 13), .ref (qm 14), .int fa, .ref (qm 15), .long oc])) (x y : Int64) (hy : y = 0)  : Met l yX9_reckonLongs wsX9_reckonLongs ({ frames := 0, cells := 0, slots := 0, locals := 0 }) (va_Pc [.ref o, .int 4, .long x, .long y] (fun U => bQ G cy L F sz U U.heap)) (va_Qv (fun F' : Nat → va_E => F' = va_up F o (.inr (8, [.int th, .ref (qm 0), .ref (qm 1), .ref (qm 2), .ref (qm 3), .ref (qm 4), .ref (qm 5), .ref (qm 6), .ref (qm 7), .int sp, .ref (qm 8), .ref (qm 9), .ref (qm 10), .ref (qm 11), .ref (qm 12), .ref (qm 13), .ref (qm 14), .int 4, .ref (qm 15), .long oc]))) (fun F' t => va_P G vwCl (va_pl L F') t.heap) (va_A (va_pl L F) sz)) 0 0 (va_A (va_pl L F) sz) := by
  refine Met.ofW (cc := cX9_reckonLongs) (maxL := 6) (ret := none) (by decide) rfl ?_
  intro p e s m args below meth c s₁ B hml hv
  obtain ⟨rfl, hsz, hP, hK, hD0⟩ := hv
  have hx := B.exec
  have hb := B.bytes
  have hr := B.returns
  have hts := atoms_spec (ws := wsX9_reckonLongs) B.pre
  have hown : s.vm.findClass RX9 = some m.cls := findClass_of_methodNamed B.named
  have hlocks := B.notSynchronized
  have hinX9 : ∀ w ∈ wsX90, w ∈ wsX9_reckonLongs := by decide +kernel
  subst hsz
  have hD := hD0.self F s.heap.size
  generalize hAe : va_A (va_pl L F) s.heap.size = A at hD ⊢
  have hA : ∀ q : Nat, s.heap.size ≤ q → A q := fun q h => by rw [← hAe]; exact Or.inr h
  have hS : va_S A s.heap s.heap [] := va_S.rf
  have hl := lv_entry ([.ref o, .int 4, .long x, .long y]) (n := 6) (Nat.le_of_ble_eq_true rfl)
  rw [lg_entry_eq]
  generalize (lg_sl ([.ref o, .int 4, .long x, .long y]) ++ List.replicate (6 - (lg_sl ([.ref o, .int 4, .long x, .long y])).length) Slot.unset).toArray = ls at hl ⊢
  have hl : lv_has ls 6 [(0, .ref o), (1, .int 4), (2, .long x), (4, .long y)] := hl
  refine lv_iload_n hx hb dX9_reckonLongs_0 rfl (lv_at hl 1 rfl) ?_
  refine lv_iconst (v := 2) hx hb dX9_reckonLongs_1 (by decide) ?_
  refine lv_icmp_le (tgt := 18) hx hb dX9_reckonLongs_2 (by decide) (fun c1 => absurd c1 (by decide)) (fun c1 => ?_)
  refine lv_lload hx hb dX9_reckonLongs_5 (lv_at hl 3 rfl) ?_
  refine lv_lconst (v := 0) hx hb dX9_reckonLongs_7 (by decide) ?_
  refine W.lcmp hx hb dX9_reckonLongs_8 ?_
  refine lv_if_ne (tgt := 18) hx hb dX9_reckonLongs_9 (by decide) (fun c2 => absurd ((lg_cmp_eq _ _).mpr hy) c2) (fun c2 => ?_)
  refine lv_aload_n hx hb dX9_reckonLongs_12 rfl (lv_at hl 0 rfl) ?_
  refine lv_iconst (v := 4) hx hb dX9_reckonLongs_13 (by decide) ?_
  refine pg_put (ci := 8) (v := .int 4) (ty := .int) (C := RX9) (T := TX9) (N := 20) hx hb hts hinX9 tyX9 tyX9_ok nmX9 hown hK hP hD hS hmo hFo rfl 17 (by decide) (hts (.fieldLink RX9 65 "RopeDrumsModel" "failed" "I") (by decide +kernel)) (fun _ h9 => h9) rfl (by decide +kernel) (rfl) (rfl) (Nat.le_of_ble_eq_true rfl) dX9_reckonLongs_14 (fun H locs F3 eF3 hP hS => ?_)
  have eF3 : F3 = va_up F o (.inr (8, [.int th, .ref (qm 0), .ref (qm 1), .ref (qm 2), .ref (qm 3), .ref (qm 4), .ref (qm 5), .ref (qm 6), .ref (qm 7), .int sp, .ref (qm 8), .ref (qm 9), .ref (qm 10), .ref (qm 11), .ref (qm 12), .ref (qm 13), .ref (qm 14), .int 4, .ref (qm 15), .long oc])) := eF3
  have hFo_3 : F3 o = .inr (8, [.int th, .ref (qm 0), .ref (qm 1), .ref (qm 2), .ref (qm 3), .ref (qm 4), .ref (qm 5), .ref (qm 6), .ref (qm 7), .int sp, .ref (qm 8), .ref (qm 9), .ref (qm 10), .ref (qm 11), .ref (qm 12), .ref (qm 13), .ref (qm 14), .int 4, .ref (qm 15), .long oc]) := by rw [eF3]; exact va_up_self _ _ _
  exact W.vret hx hb hr (fun t ht hW => ⟨⟨F3, rfl, (by rw [eF3]), (by show va_P _ _ _ t.heap; rw [ht]; exact hP)⟩, hS.F ht⟩) hS.2.2 dX9_reckonLongs_17

set_option maxHeartbeats 8000000 in
set_option maxRecDepth 100000 in
theorem c9_rF_0 (l : Launch) (G : va_G) (cy : Nat → ClassId) (L : List Nat) (F : Nat → va_E) (sz : Nat) (o : Nat) (qm : Nat → Nat) (th sp fa : Int32) (oc : Int64) (hmo : o ∈ L) (hFo : F o = .inr (8, [.int th, .ref (qm 0), .ref (qm 1), .ref (qm 2), .ref (qm 3), .ref (qm 4), .ref (qm 5), .ref (qm 6), .ref (qm 7), .int sp, .ref (qm 8), .ref (qm 9), .ref (qm 10), .ref (qm 11), .ref (qm 12), .ref (qm 13), .ref (qm 14), .int fa, .ref (qm 15), .long oc])) (x y : UInt32) (hx9 : FP.Core.val32 x ≠ .nan) (hy9 : FP.Core.val32 y ≠ .nan) (hv : FP.Core.fIsNaN (FP.fadd x y) = false)  : Met l yX9_reckonFloats wsX9_reckonFloats ({ frames := 2, cells := 0, slots := 0, locals := 44 }) (va_Pc [.ref o, .int 0, .float x, .float y] (fun U => bQ G cy L F sz U U.heap)) (va_Qv (fun F' : Nat → va_E => F' = va_up F o (.inr (8, [.int th, .ref (qm 0), .ref (qm 1), .ref (qm 2), .ref (qm 3), .ref (qm 4), .ref (qm 5), .ref (qm 6), .ref (qm 7), .int sp, .ref (qm 8), .ref (qm 9), .ref (qm 10), .ref (qm 11), .ref (qm 12), .ref (qm 13), .ref (qm 14), .int fa, .ref (qm 15), .long ((FP.fadd x y).toInt32.toInt64)]))) (fun F' t => va_P G vwCl (va_pl L F') t.heap) (va_A (va_pl L F) sz)) 0 0 (va_A (va_pl L F) sz) := by
  refine Met.ofW (cc := cX9_reckonFloats) (maxL := 7) (ret := none) (by decide) rfl ?_
  intro p e s m args below meth c s₁ B hml hv
  obtain ⟨rfl, hsz, hP, hK, hD0⟩ := hv
  have hx := B.exec
  have hb := B.bytes
  have hr := B.returns
  have hts := atoms_spec (ws := wsX9_reckonFloats) B.pre
  have hown : s.vm.findClass RX9 = some m.cls := findClass_of_methodNamed B.named
  have hlocks := B.notSynchronized
  have hinX9 : ∀ w ∈ wsX90, w ∈ wsX9_reckonFloats := by decide +kernel
  subst hsz
  have hD := hD0.self F s.heap.size
  generalize hAe : va_A (va_pl L F) s.heap.size = A at hD ⊢
  have hA : ∀ q : Nat, s.heap.size ≤ q → A q := fun q h => by rw [← hAe]; exact Or.inr h
  have hS : va_S A s.heap s.heap [] := va_S.rf
  have hl := lv_entry ([.ref o, .int 0, .float x, .float y]) (n := 7) (Nat.le_of_ble_eq_true rfl)
  rw [lg_entry_eq]
  generalize (lg_sl ([.ref o, .int 0, .float x, .float y]) ++ List.replicate (7 - (lg_sl ([.ref o, .int 0, .float x, .float y])).length) Slot.unset).toArray = ls at hl ⊢
  have hl : lv_has ls 7 [(0, .ref o), (1, .int 0), (2, .float x), (3, .float y)] := hl
  refine lv_fload_n hx hb dX9_reckonFloats_0 rfl (lv_at hl 2 rfl) ?_
  refine vp_callSi (W.runS (As := [.float x]) (rest := []) ⟨hx, hb, hml, hown, hts⟩ (c9_isEndlessFloat l x hx9) (va_cwS 1 hts gX9_reckonFloats_X9_isEndlessFloat rfl rfl rfl (by decide +kernel) ⟨Nat.le_of_ble_eq_true rfl, Nat.le_of_ble_eq_true rfl⟩) (preS_of okT (trivial)) rfl rfl hl.1 rfl (lv_room (Nat.le_of_ble_eq_true rfl)) dX9_reckonFloats_1 ⟨Nat.le_of_ble_eq_true rfl, Nat.le_of_ble_eq_true rfl⟩) (fun r1 hr1 => ?_)
  refine lv_istore (lv' := [(4, .int r1), (0, .ref o), (1, .int 0), (2, .float x), (3, .float y)]) hx hb dX9_reckonFloats_4 hl (by decide) rfl (fun ls hl => ?_)
  refine lv_fload_n hx hb dX9_reckonFloats_6 rfl (lv_at hl 4 rfl) ?_
  refine vp_callSi (W.runS (As := [.float y]) (rest := []) ⟨hx, hb, hml, hown, hts⟩ (c9_isEndlessFloat l y hy9) (va_cwS 1 hts gX9_reckonFloats_X9_isEndlessFloat rfl rfl rfl (by decide +kernel) ⟨Nat.le_of_ble_eq_true rfl, Nat.le_of_ble_eq_true rfl⟩) (preS_of okT (trivial)) rfl rfl hl.1 rfl (lv_room (Nat.le_of_ble_eq_true rfl)) dX9_reckonFloats_7 ⟨Nat.le_of_ble_eq_true rfl, Nat.le_of_ble_eq_true rfl⟩) (fun r2 hr2 => ?_)
  refine lv_istore (lv' := [(5, .int r2), (4, .int r1), (0, .ref o), (1, .int 0), (2, .float x), (3, .float y)]) hx hb dX9_reckonFloats_10 hl (by decide) rfl (fun ls hl => ?_)
  refine lv_iload_n hx hb dX9_reckonFloats_12 rfl (lv_at hl 3 rfl) ?_
  refine lv_if_ne (tgt := 40) hx hb dX9_reckonFloats_13 (by decide) (fun c3 => absurd (by decide) c3) (fun c3 => ?_)
  refine lv_iload hx hb dX9_reckonFloats_16 (lv_at hl 1 rfl) ?_
  refine lv_if_eq (tgt := 36) hx hb dX9_reckonFloats_18 (by decide) (fun c4 => ?_) (fun c4 => ?_)
  · refine lv_iconst (v := 0) hx hb dX9_reckonFloats_36 (by decide) ?_
    refine lv_goto (tgt := 155) hx hb dX9_reckonFloats_37 (by decide) ?_
    refine lv_istore (lv' := [(6, .int 0), (5, .int r2), (4, .int r1), (0, .ref o), (1, .int 0), (2, .float x), (3, .float y)]) hx hb dX9_reckonFloats_155 hl (by decide) rfl (fun ls hl => ?_)
    refine lv_iload hx hb dX9_reckonFloats_157 (lv_at hl 0 rfl) ?_
    refine lv_if_eq (tgt := 168) hx hb dX9_reckonFloats_159 (by decide) (fun c5 => ?_) (fun c5 => absurd (by decide) c5)
    refine lv_aload_n hx hb dX9_reckonFloats_168 rfl (lv_at hl 3 rfl) ?_
    refine lv_iload_n hx hb dX9_reckonFloats_169 rfl (lv_at hl 4 rfl) ?_
    refine lv_if_ne (tgt := 179) hx hb dX9_reckonFloats_170 (by decide) (fun c6 => absurd (by decide) c6) (fun c6 => ?_)
    refine lv_fload_n hx hb dX9_reckonFloats_173 rfl (lv_at hl 5 rfl) ?_
    refine lv_fload_n hx hb dX9_reckonFloats_174 rfl (lv_at hl 6 rfl) ?_
    refine lv_fadd hx hb dX9_reckonFloats_175 (n32.mpr ((FP.Core.notNaN_iff32 _).mp hv)) ?_
    refine lv_topf (fun v7 ev7 => ?_)
    refine lv_goto (tgt := 224) hx hb dX9_reckonFloats_176 (by decide) ?_
    refine vp_callSi (W.runS (As := [.float v7]) (rest := [.ref o]) ⟨hx, hb, hml, hown, hts⟩ (c9_f2ib l v7 (by rw [ev7]; exact (FP.Core.notNaN_iff32 _).mp hv)) (va_cwS 1 hts gX9_reckonFloats_Jxf58ca_floatToIntBits_5c35a rfl rfl rfl (by decide +kernel) ⟨Nat.le_of_ble_eq_true rfl, Nat.le_of_ble_eq_true rfl⟩) (preS_of okT (trivial)) rfl rfl hl.1 rfl (lv_room (Nat.le_of_ble_eq_true rfl)) dX9_reckonFloats_224 ⟨Nat.le_of_ble_eq_true rfl, Nat.le_of_ble_eq_true rfl⟩) (fun r8 hr8 => ?_)
    refine lv_i2l hx hb dX9_reckonFloats_227 rfl ?_
    refine lv_topl (fun v9 ev9 => ?_)
    refine pg_put (ci := 8) (v := .long v9) (ty := .long) (C := RX9) (T := TX9) (N := 20) hx hb hts hinX9 tyX9 tyX9_ok nmX9 hown hK hP hD hS hmo hFo rfl 19 (by decide) (hts (.fieldLink RX9 131 "RopeDrumsModel" "outcome" "J") (by decide +kernel)) (fun _ h9 => h9) rfl (by decide +kernel) (rfl) (rfl) (Nat.le_of_ble_eq_true rfl) dX9_reckonFloats_228 (fun H locs F10 eF10 hP hS => ?_)
    have eF10 : F10 = va_up F o (.inr (8, [.int th, .ref (qm 0), .ref (qm 1), .ref (qm 2), .ref (qm 3), .ref (qm 4), .ref (qm 5), .ref (qm 6), .ref (qm 7), .int sp, .ref (qm 8), .ref (qm 9), .ref (qm 10), .ref (qm 11), .ref (qm 12), .ref (qm 13), .ref (qm 14), .int fa, .ref (qm 15), .long v9])) := eF10
    have hFo_10 : F10 o = .inr (8, [.int th, .ref (qm 0), .ref (qm 1), .ref (qm 2), .ref (qm 3), .ref (qm 4), .ref (qm 5), .ref (qm 6), .ref (qm 7), .int sp, .ref (qm 8), .ref (qm 9), .ref (qm 10), .ref (qm 11), .ref (qm 12), .ref (qm 13), .ref (qm 14), .int fa, .ref (qm 15), .long v9]) := by rw [eF10]; exact va_up_self _ _ _
    exact W.vret hx hb hr (fun t ht hW => ⟨⟨F10, rfl, (by rw [eF10]; rw [ev9, hr8, ev7]), (by show va_P _ _ _ t.heap; rw [ht]; exact hP)⟩, hS.F ht⟩) hS.2.2 dX9_reckonFloats_231
  · refine lv_iload hx hb dX9_reckonFloats_21 (lv_at hl 0 rfl) ?_
    refine lv_if_eq (tgt := 36) hx hb dX9_reckonFloats_23 (by decide) (fun c11 => ?_) (fun c11 => ?_)
    · refine lv_iconst (v := 0) hx hb dX9_reckonFloats_36 (by decide) ?_
      refine lv_goto (tgt := 155) hx hb dX9_reckonFloats_37 (by decide) ?_
      refine lv_istore (lv' := [(6, .int 0), (5, .int r2), (4, .int r1), (0, .ref o), (1, .int 0), (2, .float x), (3, .float y)]) hx hb dX9_reckonFloats_155 hl (by decide) rfl (fun ls hl => ?_)
      refine lv_iload hx hb dX9_reckonFloats_157 (lv_at hl 0 rfl) ?_
      refine lv_if_eq (tgt := 168) hx hb dX9_reckonFloats_159 (by decide) (fun c12 => ?_) (fun c12 => absurd (by decide) c12)
      refine lv_aload_n hx hb dX9_reckonFloats_168 rfl (lv_at hl 3 rfl) ?_
      refine lv_iload_n hx hb dX9_reckonFloats_169 rfl (lv_at hl 4 rfl) ?_
      refine lv_if_ne (tgt := 179) hx hb dX9_reckonFloats_170 (by decide) (fun c13 => absurd (by decide) c13) (fun c13 => ?_)
      refine lv_fload_n hx hb dX9_reckonFloats_173 rfl (lv_at hl 5 rfl) ?_
      refine lv_fload_n hx hb dX9_reckonFloats_174 rfl (lv_at hl 6 rfl) ?_
      refine lv_fadd hx hb dX9_reckonFloats_175 (n32.mpr ((FP.Core.notNaN_iff32 _).mp hv)) ?_
      refine lv_topf (fun v14 ev14 => ?_)
      refine lv_goto (tgt := 224) hx hb dX9_reckonFloats_176 (by decide) ?_
      refine vp_callSi (W.runS (As := [.float v14]) (rest := [.ref o]) ⟨hx, hb, hml, hown, hts⟩ (c9_f2ib l v14 (by rw [ev14]; exact (FP.Core.notNaN_iff32 _).mp hv)) (va_cwS 1 hts gX9_reckonFloats_Jxf58ca_floatToIntBits_5c35a rfl rfl rfl (by decide +kernel) ⟨Nat.le_of_ble_eq_true rfl, Nat.le_of_ble_eq_true rfl⟩) (preS_of okT (trivial)) rfl rfl hl.1 rfl (lv_room (Nat.le_of_ble_eq_true rfl)) dX9_reckonFloats_224 ⟨Nat.le_of_ble_eq_true rfl, Nat.le_of_ble_eq_true rfl⟩) (fun r15 hr15 => ?_)
      refine lv_i2l hx hb dX9_reckonFloats_227 rfl ?_
      refine lv_topl (fun v16 ev16 => ?_)
      refine pg_put (ci := 8) (v := .long v16) (ty := .long) (C := RX9) (T := TX9) (N := 20) hx hb hts hinX9 tyX9 tyX9_ok nmX9 hown hK hP hD hS hmo hFo rfl 19 (by decide) (hts (.fieldLink RX9 131 "RopeDrumsModel" "outcome" "J") (by decide +kernel)) (fun _ h9 => h9) rfl (by decide +kernel) (rfl) (rfl) (Nat.le_of_ble_eq_true rfl) dX9_reckonFloats_228 (fun H locs F17 eF17 hP hS => ?_)
      have eF17 : F17 = va_up F o (.inr (8, [.int th, .ref (qm 0), .ref (qm 1), .ref (qm 2), .ref (qm 3), .ref (qm 4), .ref (qm 5), .ref (qm 6), .ref (qm 7), .int sp, .ref (qm 8), .ref (qm 9), .ref (qm 10), .ref (qm 11), .ref (qm 12), .ref (qm 13), .ref (qm 14), .int fa, .ref (qm 15), .long v16])) := eF17
      have hFo_17 : F17 o = .inr (8, [.int th, .ref (qm 0), .ref (qm 1), .ref (qm 2), .ref (qm 3), .ref (qm 4), .ref (qm 5), .ref (qm 6), .ref (qm 7), .int sp, .ref (qm 8), .ref (qm 9), .ref (qm 10), .ref (qm 11), .ref (qm 12), .ref (qm 13), .ref (qm 14), .int fa, .ref (qm 15), .long v16]) := by rw [eF17]; exact va_up_self _ _ _
      exact W.vret hx hb hr (fun t ht hW => ⟨⟨F17, rfl, (by rw [eF17]; rw [ev16, hr15, ev14]), (by show va_P _ _ _ t.heap; rw [ht]; exact hP)⟩, hS.F ht⟩) hS.2.2 dX9_reckonFloats_231
    · refine lv_fload_n hx hb dX9_reckonFloats_26 rfl (lv_at hl 4 rfl) ?_
      refine lv_fload_n hx hb dX9_reckonFloats_27 rfl (lv_at hl 5 rfl) ?_
      refine lv_fcmp hx hb dX9_reckonFloats_28 ?_
      refine lv_if_eq (tgt := 36) hx hb dX9_reckonFloats_29 (by decide) (fun c18 => ?_) (fun c18 => ?_)
      · refine lv_iconst (v := 0) hx hb dX9_reckonFloats_36 (by decide) ?_
        refine lv_goto (tgt := 155) hx hb dX9_reckonFloats_37 (by decide) ?_
        refine lv_istore (lv' := [(6, .int 0), (5, .int r2), (4, .int r1), (0, .ref o), (1, .int 0), (2, .float x), (3, .float y)]) hx hb dX9_reckonFloats_155 hl (by decide) rfl (fun ls hl => ?_)
        refine lv_iload hx hb dX9_reckonFloats_157 (lv_at hl 0 rfl) ?_
        refine lv_if_eq (tgt := 168) hx hb dX9_reckonFloats_159 (by decide) (fun c19 => ?_) (fun c19 => absurd (by decide) c19)
        refine lv_aload_n hx hb dX9_reckonFloats_168 rfl (lv_at hl 3 rfl) ?_
        refine lv_iload_n hx hb dX9_reckonFloats_169 rfl (lv_at hl 4 rfl) ?_
        refine lv_if_ne (tgt := 179) hx hb dX9_reckonFloats_170 (by decide) (fun c20 => absurd (by decide) c20) (fun c20 => ?_)
        refine lv_fload_n hx hb dX9_reckonFloats_173 rfl (lv_at hl 5 rfl) ?_
        refine lv_fload_n hx hb dX9_reckonFloats_174 rfl (lv_at hl 6 rfl) ?_
        refine lv_fadd hx hb dX9_reckonFloats_175 (n32.mpr ((FP.Core.notNaN_iff32 _).mp hv)) ?_
        refine lv_topf (fun v21 ev21 => ?_)
        refine lv_goto (tgt := 224) hx hb dX9_reckonFloats_176 (by decide) ?_
        refine vp_callSi (W.runS (As := [.float v21]) (rest := [.ref o]) ⟨hx, hb, hml, hown, hts⟩ (c9_f2ib l v21 (by rw [ev21]; exact (FP.Core.notNaN_iff32 _).mp hv)) (va_cwS 1 hts gX9_reckonFloats_Jxf58ca_floatToIntBits_5c35a rfl rfl rfl (by decide +kernel) ⟨Nat.le_of_ble_eq_true rfl, Nat.le_of_ble_eq_true rfl⟩) (preS_of okT (trivial)) rfl rfl hl.1 rfl (lv_room (Nat.le_of_ble_eq_true rfl)) dX9_reckonFloats_224 ⟨Nat.le_of_ble_eq_true rfl, Nat.le_of_ble_eq_true rfl⟩) (fun r22 hr22 => ?_)
        refine lv_i2l hx hb dX9_reckonFloats_227 rfl ?_
        refine lv_topl (fun v23 ev23 => ?_)
        refine pg_put (ci := 8) (v := .long v23) (ty := .long) (C := RX9) (T := TX9) (N := 20) hx hb hts hinX9 tyX9 tyX9_ok nmX9 hown hK hP hD hS hmo hFo rfl 19 (by decide) (hts (.fieldLink RX9 131 "RopeDrumsModel" "outcome" "J") (by decide +kernel)) (fun _ h9 => h9) rfl (by decide +kernel) (rfl) (rfl) (Nat.le_of_ble_eq_true rfl) dX9_reckonFloats_228 (fun H locs F24 eF24 hP hS => ?_)
        have eF24 : F24 = va_up F o (.inr (8, [.int th, .ref (qm 0), .ref (qm 1), .ref (qm 2), .ref (qm 3), .ref (qm 4), .ref (qm 5), .ref (qm 6), .ref (qm 7), .int sp, .ref (qm 8), .ref (qm 9), .ref (qm 10), .ref (qm 11), .ref (qm 12), .ref (qm 13), .ref (qm 14), .int fa, .ref (qm 15), .long v23])) := eF24
        have hFo_24 : F24 o = .inr (8, [.int th, .ref (qm 0), .ref (qm 1), .ref (qm 2), .ref (qm 3), .ref (qm 4), .ref (qm 5), .ref (qm 6), .ref (qm 7), .int sp, .ref (qm 8), .ref (qm 9), .ref (qm 10), .ref (qm 11), .ref (qm 12), .ref (qm 13), .ref (qm 14), .int fa, .ref (qm 15), .long v23]) := by rw [eF24]; exact va_up_self _ _ _
        exact W.vret hx hb hr (fun t ht hW => ⟨⟨F24, rfl, (by rw [eF24]; rw [ev23, hr22, ev21]), (by show va_P _ _ _ t.heap; rw [ht]; exact hP)⟩, hS.F ht⟩) hS.2.2 dX9_reckonFloats_231
      · refine lv_iconst (v := 1) hx hb dX9_reckonFloats_32 (by decide) ?_
        refine lv_goto (tgt := 155) hx hb dX9_reckonFloats_33 (by decide) ?_
        refine lv_istore (lv' := [(6, .int 1), (5, .int r2), (4, .int r1), (0, .ref o), (1, .int 0), (2, .float x), (3, .float y)]) hx hb dX9_reckonFloats_155 hl (by decide) rfl (fun ls hl => ?_)
        refine lv_iload hx hb dX9_reckonFloats_157 (lv_at hl 0 rfl) ?_
        refine lv_if_eq (tgt := 168) hx hb dX9_reckonFloats_159 (by decide) (fun c25 => absurd c25 (by decide)) (fun c25 => ?_)
        exfalso
        have f1 := pz2 hr1 c4
        have f2 := pz2 hr2 c11
        have f3 := (not_congr (eq_iff32 hx9 hy9)).mp c18
        have hv9 := (not_congr (nan_add32 hx9 hy9)).mp (by rw [hv]; decide)
        have hk9 := keyE32 f1 f2
        exact hv9 ⟨f1, f2, by first | exact hk9.mp (by assumption) | exact fun z => absurd (hk9.mpr z) (by assumption)⟩

set_option maxHeartbeats 8000000 in
set_option maxRecDepth 100000 in
theorem c9_rF_0_no (l : Launch) (G : va_G) (cy : Nat → ClassId) (L : List Nat) (F : Nat → va_E) (sz : Nat) (o : Nat) (qm : Nat → Nat) (th sp fa : Int32) (oc : Int64) (hmo : o ∈ L) (hFo : F o = .inr (8, [.int th, .ref (qm 0), .ref (qm 1), .ref (qm 2), .ref (qm 3), .ref (qm 4), .ref (qm 5), .ref (qm 6), .ref (qm 7), .int sp, .ref (qm 8), .ref (qm 9), .ref (qm 10), .ref (qm 11), .ref (qm 12), .ref (qm 13), .ref (qm 14), .int fa, .ref (qm 15), .long oc])) (x y : UInt32) (hx9 : FP.Core.val32 x ≠ .nan) (hy9 : FP.Core.val32 y ≠ .nan) (hv : FP.Core.fIsNaN (FP.fadd x y) = true)  : Met l yX9_reckonFloats wsX9_reckonFloats ({ frames := 2, cells := 0, slots := 0, locals := 44 }) (va_Pc [.ref o, .int 0, .float x, .float y] (fun U => bQ G cy L F sz U U.heap)) (va_Qv (fun F' : Nat → va_E => F' = va_up F o (.inr (8, [.int th, .ref (qm 0), .ref (qm 1), .ref (qm 2), .ref (qm 3), .ref (qm 4), .ref (qm 5), .ref (qm 6), .ref (qm 7), .int sp, .ref (qm 8), .ref (qm 9), .ref (qm 10), .ref (qm 11), .ref (qm 12), .ref (qm 13), .ref (qm 14), .int 5, .ref (qm 15), .long oc]))) (fun F' t => va_P G vwCl (va_pl L F') t.heap) (va_A (va_pl L F) sz)) 0 0 (va_A (va_pl L F) sz) := by
  refine Met.ofW (cc := cX9_reckonFloats) (maxL := 7) (ret := none) (by decide) rfl ?_
  intro p e s m args below meth c s₁ B hml hv
  obtain ⟨rfl, hsz, hP, hK, hD0⟩ := hv
  have hx := B.exec
  have hb := B.bytes
  have hr := B.returns
  have hts := atoms_spec (ws := wsX9_reckonFloats) B.pre
  have hown : s.vm.findClass RX9 = some m.cls := findClass_of_methodNamed B.named
  have hlocks := B.notSynchronized
  have hinX9 : ∀ w ∈ wsX90, w ∈ wsX9_reckonFloats := by decide +kernel
  subst hsz
  have hD := hD0.self F s.heap.size
  generalize hAe : va_A (va_pl L F) s.heap.size = A at hD ⊢
  have hA : ∀ q : Nat, s.heap.size ≤ q → A q := fun q h => by rw [← hAe]; exact Or.inr h
  have hS : va_S A s.heap s.heap [] := va_S.rf
  have hl := lv_entry ([.ref o, .int 0, .float x, .float y]) (n := 7) (Nat.le_of_ble_eq_true rfl)
  rw [lg_entry_eq]
  generalize (lg_sl ([.ref o, .int 0, .float x, .float y]) ++ List.replicate (7 - (lg_sl ([.ref o, .int 0, .float x, .float y])).length) Slot.unset).toArray = ls at hl ⊢
  have hl : lv_has ls 7 [(0, .ref o), (1, .int 0), (2, .float x), (3, .float y)] := hl
  refine lv_fload_n hx hb dX9_reckonFloats_0 rfl (lv_at hl 2 rfl) ?_
  refine vp_callSi (W.runS (As := [.float x]) (rest := []) ⟨hx, hb, hml, hown, hts⟩ (c9_isEndlessFloat l x hx9) (va_cwS 1 hts gX9_reckonFloats_X9_isEndlessFloat rfl rfl rfl (by decide +kernel) ⟨Nat.le_of_ble_eq_true rfl, Nat.le_of_ble_eq_true rfl⟩) (preS_of okT (trivial)) rfl rfl hl.1 rfl (lv_room (Nat.le_of_ble_eq_true rfl)) dX9_reckonFloats_1 ⟨Nat.le_of_ble_eq_true rfl, Nat.le_of_ble_eq_true rfl⟩) (fun r1 hr1 => ?_)
  refine lv_istore (lv' := [(4, .int r1), (0, .ref o), (1, .int 0), (2, .float x), (3, .float y)]) hx hb dX9_reckonFloats_4 hl (by decide) rfl (fun ls hl => ?_)
  refine lv_fload_n hx hb dX9_reckonFloats_6 rfl (lv_at hl 4 rfl) ?_
  refine vp_callSi (W.runS (As := [.float y]) (rest := []) ⟨hx, hb, hml, hown, hts⟩ (c9_isEndlessFloat l y hy9) (va_cwS 1 hts gX9_reckonFloats_X9_isEndlessFloat rfl rfl rfl (by decide +kernel) ⟨Nat.le_of_ble_eq_true rfl, Nat.le_of_ble_eq_true rfl⟩) (preS_of okT (trivial)) rfl rfl hl.1 rfl (lv_room (Nat.le_of_ble_eq_true rfl)) dX9_reckonFloats_7 ⟨Nat.le_of_ble_eq_true rfl, Nat.le_of_ble_eq_true rfl⟩) (fun r2 hr2 => ?_)
  refine lv_istore (lv' := [(5, .int r2), (4, .int r1), (0, .ref o), (1, .int 0), (2, .float x), (3, .float y)]) hx hb dX9_reckonFloats_10 hl (by decide) rfl (fun ls hl => ?_)
  refine lv_iload_n hx hb dX9_reckonFloats_12 rfl (lv_at hl 3 rfl) ?_
  refine lv_if_ne (tgt := 40) hx hb dX9_reckonFloats_13 (by decide) (fun c3 => absurd (by decide) c3) (fun c3 => ?_)
  refine lv_iload hx hb dX9_reckonFloats_16 (lv_at hl 1 rfl) ?_
  refine lv_if_eq (tgt := 36) hx hb dX9_reckonFloats_18 (by decide) (fun c4 => ?_) (fun c4 => ?_)
  · refine lv_iconst (v := 0) hx hb dX9_reckonFloats_36 (by decide) ?_
    refine lv_goto (tgt := 155) hx hb dX9_reckonFloats_37 (by decide) ?_
    refine lv_istore (lv' := [(6, .int 0), (5, .int r2), (4, .int r1), (0, .ref o), (1, .int 0), (2, .float x), (3, .float y)]) hx hb dX9_reckonFloats_155 hl (by decide) rfl (fun ls hl => ?_)
    refine lv_iload hx hb dX9_reckonFloats_157 (lv_at hl 0 rfl) ?_
    refine lv_if_eq (tgt := 168) hx hb dX9_reckonFloats_159 (by decide) (fun c5 => ?_) (fun c5 => absurd (by decide) c5)
    exfalso
    have f1 := pz1 hr1 c4
    have hv9 := (nan_add32 hx9 hy9).mp hv
    omega
  · refine lv_iload hx hb dX9_reckonFloats_21 (lv_at hl 0 rfl) ?_
    refine lv_if_eq (tgt := 36) hx hb dX9_reckonFloats_23 (by decide) (fun c6 => ?_) (fun c6 => ?_)
    · refine lv_iconst (v := 0) hx hb dX9_reckonFloats_36 (by decide) ?_
      refine lv_goto (tgt := 155) hx hb dX9_reckonFloats_37 (by decide) ?_
      refine lv_istore (lv' := [(6, .int 0), (5, .int r2), (4, .int r1), (0, .ref o), (1, .int 0), (2, .float x), (3, .float y)]) hx hb dX9_reckonFloats_155 hl (by decide) rfl (fun ls hl => ?_)
      refine lv_iload hx hb dX9_reckonFloats_157 (lv_at hl 0 rfl) ?_
      refine lv_if_eq (tgt := 168) hx hb dX9_reckonFloats_159 (by decide) (fun c7 => ?_) (fun c7 => absurd (by decide) c7)
      exfalso
      have f1 := pz2 hr1 c4
      have f2 := pz1 hr2 c6
      have hv9 := (nan_add32 hx9 hy9).mp hv
      omega
    · refine lv_fload_n hx hb dX9_reckonFloats_26 rfl (lv_at hl 4 rfl) ?_
      refine lv_fload_n hx hb dX9_reckonFloats_27 rfl (lv_at hl 5 rfl) ?_
      refine lv_fcmp hx hb dX9_reckonFloats_28 ?_
      refine lv_if_eq (tgt := 36) hx hb dX9_reckonFloats_29 (by decide) (fun c8 => ?_) (fun c8 => ?_)
      · refine lv_iconst (v := 0) hx hb dX9_reckonFloats_36 (by decide) ?_
        refine lv_goto (tgt := 155) hx hb dX9_reckonFloats_37 (by decide) ?_
        refine lv_istore (lv' := [(6, .int 0), (5, .int r2), (4, .int r1), (0, .ref o), (1, .int 0), (2, .float x), (3, .float y)]) hx hb dX9_reckonFloats_155 hl (by decide) rfl (fun ls hl => ?_)
        refine lv_iload hx hb dX9_reckonFloats_157 (lv_at hl 0 rfl) ?_
        refine lv_if_eq (tgt := 168) hx hb dX9_reckonFloats_159 (by decide) (fun c9 => ?_) (fun c9 => absurd (by decide) c9)
        exfalso
        have f1 := pz2 hr1 c4
        have f2 := pz2 hr2 c6
        have f3 := (eq_iff32 hx9 hy9).mp c8
        have hv9 := (nan_add32 hx9 hy9).mp hv
        have hk9 := keyE32 f1 f2
        first | exact absurd (hk9.mpr hv9.2.2) (by assumption) | exact hv9.2.2 (hk9.mp (by assumption))
      · refine lv_iconst (v := 1) hx hb dX9_reckonFloats_32 (by decide) ?_
        refine lv_goto (tgt := 155) hx hb dX9_reckonFloats_33 (by decide) ?_
        refine lv_istore (lv' := [(6, .int 1), (5, .int r2), (4, .int r1), (0, .ref o), (1, .int 0), (2, .float x), (3, .float y)]) hx hb dX9_reckonFloats_155 hl (by decide) rfl (fun ls hl => ?_)
        refine lv_iload hx hb dX9_reckonFloats_157 (lv_at hl 0 rfl) ?_
        refine lv_if_eq (tgt := 168) hx hb dX9_reckonFloats_159 (by decide) (fun c10 => absurd c10 (by decide)) (fun c10 => ?_)
        refine lv_aload_n hx hb dX9_reckonFloats_162 rfl (lv_at hl 3 rfl) ?_
        refine lv_iconst (v := 5) hx hb dX9_reckonFloats_163 (by decide) ?_
        refine pg_put (ci := 8) (v := .int 5) (ty := .int) (C := RX9) (T := TX9) (N := 20) hx hb hts hinX9 tyX9 tyX9_ok nmX9 hown hK hP hD hS hmo hFo rfl 17 (by decide) (hts (.fieldLink RX9 65 "RopeDrumsModel" "failed" "I") (by decide +kernel)) (fun _ h9 => h9) rfl (by decide +kernel) (rfl) (rfl) (Nat.le_of_ble_eq_true rfl) dX9_reckonFloats_164 (fun H locs F11 eF11 hP hS => ?_)
        have eF11 : F11 = va_up F o (.inr (8, [.int th, .ref (qm 0), .ref (qm 1), .ref (qm 2), .ref (qm 3), .ref (qm 4), .ref (qm 5), .ref (qm 6), .ref (qm 7), .int sp, .ref (qm 8), .ref (qm 9), .ref (qm 10), .ref (qm 11), .ref (qm 12), .ref (qm 13), .ref (qm 14), .int 5, .ref (qm 15), .long oc])) := eF11
        have hFo_11 : F11 o = .inr (8, [.int th, .ref (qm 0), .ref (qm 1), .ref (qm 2), .ref (qm 3), .ref (qm 4), .ref (qm 5), .ref (qm 6), .ref (qm 7), .int sp, .ref (qm 8), .ref (qm 9), .ref (qm 10), .ref (qm 11), .ref (qm 12), .ref (qm 13), .ref (qm 14), .int 5, .ref (qm 15), .long oc]) := by rw [eF11]; exact va_up_self _ _ _
        exact W.vret hx hb hr (fun t ht hW => ⟨⟨F11, rfl, (by rw [eF11]), (by show va_P _ _ _ t.heap; rw [ht]; exact hP)⟩, hS.F ht⟩) hS.2.2 dX9_reckonFloats_167

set_option maxHeartbeats 8000000 in
set_option maxRecDepth 100000 in
theorem c9_rF_1 (l : Launch) (G : va_G) (cy : Nat → ClassId) (L : List Nat) (F : Nat → va_E) (sz : Nat) (o : Nat) (qm : Nat → Nat) (th sp fa : Int32) (oc : Int64) (hmo : o ∈ L) (hFo : F o = .inr (8, [.int th, .ref (qm 0), .ref (qm 1), .ref (qm 2), .ref (qm 3), .ref (qm 4), .ref (qm 5), .ref (qm 6), .ref (qm 7), .int sp, .ref (qm 8), .ref (qm 9), .ref (qm 10), .ref (qm 11), .ref (qm 12), .ref (qm 13), .ref (qm 14), .int fa, .ref (qm 15), .long oc])) (x y : UInt32) (hx9 : FP.Core.val32 x ≠ .nan) (hy9 : FP.Core.val32 y ≠ .nan) (hv : FP.Core.fIsNaN (FP.fsub x y) = false)  : Met l yX9_reckonFloats wsX9_reckonFloats ({ frames := 2, cells := 0, slots := 0, locals := 44 }) (va_Pc [.ref o, .int 1, .float x, .float y] (fun U => bQ G cy L F sz U U.heap)) (va_Qv (fun F' : Nat → va_E => F' = va_up F o (.inr (8, [.int th, .ref (qm 0), .ref (qm 1), .ref (qm 2), .ref (qm 3), .ref (qm 4), .ref (qm 5), .ref (qm 6), .ref (qm 7), .int sp, .ref (qm 8), .ref (qm 9), .ref (qm 10), .ref (qm 11), .ref (qm 12), .ref (qm 13), .ref (qm 14), .int fa, .ref (qm 15), .long ((FP.fsub x y).toInt32.toInt64)]))) (fun F' t => va_P G vwCl (va_pl L F') t.heap) (va_A (va_pl L F) sz)) 0 0 (va_A (va_pl L F) sz) := by
  refine Met.ofW (cc := cX9_reckonFloats) (maxL := 7) (ret := none) (by decide) rfl ?_
  intro p e s m args below meth c s₁ B hml hv
  obtain ⟨rfl, hsz, hP, hK, hD0⟩ := hv
  have hx := B.exec
  have hb := B.bytes
  have hr := B.returns
  have hts := atoms_spec (ws := wsX9_reckonFloats) B.pre
  have hown : s.vm.findClass RX9 = some m.cls := findClass_of_methodNamed B.named
  have hlocks := B.notSynchronized
  have hinX9 : ∀ w ∈ wsX90, w ∈ wsX9_reckonFloats := by decide +kernel
  subst hsz
  have hD := hD0.self F s.heap.size
  generalize hAe : va_A (va_pl L F) s.heap.size = A at hD ⊢
  have hA : ∀ q : Nat, s.heap.size ≤ q → A q := fun q h => by rw [← hAe]; exact Or.inr h
  have hS : va_S A s.heap s.heap [] := va_S.rf
  have hl := lv_entry ([.ref o, .int 1, .float x, .float y]) (n := 7) (Nat.le_of_ble_eq_true rfl)
  rw [lg_entry_eq]
  generalize (lg_sl ([.ref o, .int 1, .float x, .float y]) ++ List.replicate (7 - (lg_sl ([.ref o, .int 1, .float x, .float y])).length) Slot.unset).toArray = ls at hl ⊢
  have hl : lv_has ls 7 [(0, .ref o), (1, .int 1), (2, .float x), (3, .float y)] := hl
  refine lv_fload_n hx hb dX9_reckonFloats_0 rfl (lv_at hl 2 rfl) ?_
  refine vp_callSi (W.runS (As := [.float x]) (rest := []) ⟨hx, hb, hml, hown, hts⟩ (c9_isEndlessFloat l x hx9) (va_cwS 1 hts gX9_reckonFloats_X9_isEndlessFloat rfl rfl rfl (by decide +kernel) ⟨Nat.le_of_ble_eq_true rfl, Nat.le_of_ble_eq_true rfl⟩) (preS_of okT (trivial)) rfl rfl hl.1 rfl (lv_room (Nat.le_of_ble_eq_true rfl)) dX9_reckonFloats_1 ⟨Nat.le_of_ble_eq_true rfl, Nat.le_of_ble_eq_true rfl⟩) (fun r1 hr1 => ?_)
  refine lv_istore (lv' := [(4, .int r1), (0, .ref o), (1, .int 1), (2, .float x), (3, .float y)]) hx hb dX9_reckonFloats_4 hl (by decide) rfl (fun ls hl => ?_)
  refine lv_fload_n hx hb dX9_reckonFloats_6 rfl (lv_at hl 4 rfl) ?_
  refine vp_callSi (W.runS (As := [.float y]) (rest := []) ⟨hx, hb, hml, hown, hts⟩ (c9_isEndlessFloat l y hy9) (va_cwS 1 hts gX9_reckonFloats_X9_isEndlessFloat rfl rfl rfl (by decide +kernel) ⟨Nat.le_of_ble_eq_true rfl, Nat.le_of_ble_eq_true rfl⟩) (preS_of okT (trivial)) rfl rfl hl.1 rfl (lv_room (Nat.le_of_ble_eq_true rfl)) dX9_reckonFloats_7 ⟨Nat.le_of_ble_eq_true rfl, Nat.le_of_ble_eq_true rfl⟩) (fun r2 hr2 => ?_)
  refine lv_istore (lv' := [(5, .int r2), (4, .int r1), (0, .ref o), (1, .int 1), (2, .float x), (3, .float y)]) hx hb dX9_reckonFloats_10 hl (by decide) rfl (fun ls hl => ?_)
  refine lv_iload_n hx hb dX9_reckonFloats_12 rfl (lv_at hl 3 rfl) ?_
  refine lv_if_ne (tgt := 40) hx hb dX9_reckonFloats_13 (by decide) (fun c3 => ?_) (fun c3 => absurd c3 (by decide))
  refine lv_iload_n hx hb dX9_reckonFloats_40 rfl (lv_at hl 3 rfl) ?_
  refine lv_iconst (v := 1) hx hb dX9_reckonFloats_41 (by decide) ?_
  refine lv_icmp_ne (tgt := 69) hx hb dX9_reckonFloats_42 (by decide) (fun c4 => absurd (by decide) c4) (fun c4 => ?_)
  refine lv_iload hx hb dX9_reckonFloats_45 (lv_at hl 1 rfl) ?_
  refine lv_if_eq (tgt := 65) hx hb dX9_reckonFloats_47 (by decide) (fun c5 => ?_) (fun c5 => ?_)
  · refine lv_iconst (v := 0) hx hb dX9_reckonFloats_65 (by decide) ?_
    refine lv_goto (tgt := 155) hx hb dX9_reckonFloats_66 (by decide) ?_
    refine lv_istore (lv' := [(6, .int 0), (5, .int r2), (4, .int r1), (0, .ref o), (1, .int 1), (2, .float x), (3, .float y)]) hx hb dX9_reckonFloats_155 hl (by decide) rfl (fun ls hl => ?_)
    refine lv_iload hx hb dX9_reckonFloats_157 (lv_at hl 0 rfl) ?_
    refine lv_if_eq (tgt := 168) hx hb dX9_reckonFloats_159 (by decide) (fun c6 => ?_) (fun c6 => absurd (by decide) c6)
    refine lv_aload_n hx hb dX9_reckonFloats_168 rfl (lv_at hl 3 rfl) ?_
    refine lv_iload_n hx hb dX9_reckonFloats_169 rfl (lv_at hl 4 rfl) ?_
    refine lv_if_ne (tgt := 179) hx hb dX9_reckonFloats_170 (by decide) (fun c7 => ?_) (fun c7 => absurd c7 (by decide))
    refine lv_iload_n hx hb dX9_reckonFloats_179 rfl (lv_at hl 4 rfl) ?_
    refine lv_iconst (v := 1) hx hb dX9_reckonFloats_180 (by decide) ?_
    refine lv_icmp_ne (tgt := 190) hx hb dX9_reckonFloats_181 (by decide) (fun c8 => absurd (by decide) c8) (fun c8 => ?_)
    refine lv_fload_n hx hb dX9_reckonFloats_184 rfl (lv_at hl 5 rfl) ?_
    refine lv_fload_n hx hb dX9_reckonFloats_185 rfl (lv_at hl 6 rfl) ?_
    refine lv_fsub hx hb dX9_reckonFloats_186 (n32.mpr ((FP.Core.notNaN_iff32 _).mp hv)) ?_
    refine lv_topf (fun v9 ev9 => ?_)
    refine lv_goto (tgt := 224) hx hb dX9_reckonFloats_187 (by decide) ?_
    refine vp_callSi (W.runS (As := [.float v9]) (rest := [.ref o]) ⟨hx, hb, hml, hown, hts⟩ (c9_f2ib l v9 (by rw [ev9]; exact (FP.Core.notNaN_iff32 _).mp hv)) (va_cwS 1 hts gX9_reckonFloats_Jxf58ca_floatToIntBits_5c35a rfl rfl rfl (by decide +kernel) ⟨Nat.le_of_ble_eq_true rfl, Nat.le_of_ble_eq_true rfl⟩) (preS_of okT (trivial)) rfl rfl hl.1 rfl (lv_room (Nat.le_of_ble_eq_true rfl)) dX9_reckonFloats_224 ⟨Nat.le_of_ble_eq_true rfl, Nat.le_of_ble_eq_true rfl⟩) (fun r10 hr10 => ?_)
    refine lv_i2l hx hb dX9_reckonFloats_227 rfl ?_
    refine lv_topl (fun v11 ev11 => ?_)
    refine pg_put (ci := 8) (v := .long v11) (ty := .long) (C := RX9) (T := TX9) (N := 20) hx hb hts hinX9 tyX9 tyX9_ok nmX9 hown hK hP hD hS hmo hFo rfl 19 (by decide) (hts (.fieldLink RX9 131 "RopeDrumsModel" "outcome" "J") (by decide +kernel)) (fun _ h9 => h9) rfl (by decide +kernel) (rfl) (rfl) (Nat.le_of_ble_eq_true rfl) dX9_reckonFloats_228 (fun H locs F12 eF12 hP hS => ?_)
    have eF12 : F12 = va_up F o (.inr (8, [.int th, .ref (qm 0), .ref (qm 1), .ref (qm 2), .ref (qm 3), .ref (qm 4), .ref (qm 5), .ref (qm 6), .ref (qm 7), .int sp, .ref (qm 8), .ref (qm 9), .ref (qm 10), .ref (qm 11), .ref (qm 12), .ref (qm 13), .ref (qm 14), .int fa, .ref (qm 15), .long v11])) := eF12
    have hFo_12 : F12 o = .inr (8, [.int th, .ref (qm 0), .ref (qm 1), .ref (qm 2), .ref (qm 3), .ref (qm 4), .ref (qm 5), .ref (qm 6), .ref (qm 7), .int sp, .ref (qm 8), .ref (qm 9), .ref (qm 10), .ref (qm 11), .ref (qm 12), .ref (qm 13), .ref (qm 14), .int fa, .ref (qm 15), .long v11]) := by rw [eF12]; exact va_up_self _ _ _
    exact W.vret hx hb hr (fun t ht hW => ⟨⟨F12, rfl, (by rw [eF12]; rw [ev11, hr10, ev9]), (by show va_P _ _ _ t.heap; rw [ht]; exact hP)⟩, hS.F ht⟩) hS.2.2 dX9_reckonFloats_231
  · refine lv_iload hx hb dX9_reckonFloats_50 (lv_at hl 0 rfl) ?_
    refine lv_if_eq (tgt := 65) hx hb dX9_reckonFloats_52 (by decide) (fun c13 => ?_) (fun c13 => ?_)
    · refine lv_iconst (v := 0) hx hb dX9_reckonFloats_65 (by decide) ?_
      refine lv_goto (tgt := 155) hx hb dX9_reckonFloats_66 (by decide) ?_
      refine lv_istore (lv' := [(6, .int 0), (5, .int r2), (4, .int r1), (0, .ref o), (1, .int 1), (2, .float x), (3, .float y)]) hx hb dX9_reckonFloats_155 hl (by decide) rfl (fun ls hl => ?_)
      refine lv_iload hx hb dX9_reckonFloats_157 (lv_at hl 0 rfl) ?_
      refine lv_if_eq (tgt := 168) hx hb dX9_reckonFloats_159 (by decide) (fun c14 => ?_) (fun c14 => absurd (by decide) c14)
      refine lv_aload_n hx hb dX9_reckonFloats_168 rfl (lv_at hl 3 rfl) ?_
      refine lv_iload_n hx hb dX9_reckonFloats_169 rfl (lv_at hl 4 rfl) ?_
      refine lv_if_ne (tgt := 179) hx hb dX9_reckonFloats_170 (by decide) (fun c15 => ?_) (fun c15 => absurd c15 (by decide))
      refine lv_iload_n hx hb dX9_reckonFloats_179 rfl (lv_at hl 4 rfl) ?_
      refine lv_iconst (v := 1) hx hb dX9_reckonFloats_180 (by decide) ?_
      refine lv_icmp_ne (tgt := 190) hx hb dX9_reckonFloats_181 (by decide) (fun c16 => absurd (by decide) c16) (fun c16 => ?_)
      refine lv_fload_n hx hb dX9_reckonFloats_184 rfl (lv_at hl 5 rfl) ?_
      refine lv_fload_n hx hb dX9_reckonFloats_185 rfl (lv_at hl 6 rfl) ?_
      refine lv_fsub hx hb dX9_reckonFloats_186 (n32.mpr ((FP.Core.notNaN_iff32 _).mp hv)) ?_
      refine lv_topf (fun v17 ev17 => ?_)
      refine lv_goto (tgt := 224) hx hb dX9_reckonFloats_187 (by decide) ?_
      refine vp_callSi (W.runS (As := [.float v17]) (rest := [.ref o]) ⟨hx, hb, hml, hown, hts⟩ (c9_f2ib l v17 (by rw [ev17]; exact (FP.Core.notNaN_iff32 _).mp hv)) (va_cwS 1 hts gX9_reckonFloats_Jxf58ca_floatToIntBits_5c35a rfl rfl rfl (by decide +kernel) ⟨Nat.le_of_ble_eq_true rfl, Nat.le_of_ble_eq_true rfl⟩) (preS_of okT (trivial)) rfl rfl hl.1 rfl (lv_room (Nat.le_of_ble_eq_true rfl)) dX9_reckonFloats_224 ⟨Nat.le_of_ble_eq_true rfl, Nat.le_of_ble_eq_true rfl⟩) (fun r18 hr18 => ?_)
      refine lv_i2l hx hb dX9_reckonFloats_227 rfl ?_
      refine lv_topl (fun v19 ev19 => ?_)
      refine pg_put (ci := 8) (v := .long v19) (ty := .long) (C := RX9) (T := TX9) (N := 20) hx hb hts hinX9 tyX9 tyX9_ok nmX9 hown hK hP hD hS hmo hFo rfl 19 (by decide) (hts (.fieldLink RX9 131 "RopeDrumsModel" "outcome" "J") (by decide +kernel)) (fun _ h9 => h9) rfl (by decide +kernel) (rfl) (rfl) (Nat.le_of_ble_eq_true rfl) dX9_reckonFloats_228 (fun H locs F20 eF20 hP hS => ?_)
      have eF20 : F20 = va_up F o (.inr (8, [.int th, .ref (qm 0), .ref (qm 1), .ref (qm 2), .ref (qm 3), .ref (qm 4), .ref (qm 5), .ref (qm 6), .ref (qm 7), .int sp, .ref (qm 8), .ref (qm 9), .ref (qm 10), .ref (qm 11), .ref (qm 12), .ref (qm 13), .ref (qm 14), .int fa, .ref (qm 15), .long v19])) := eF20
      have hFo_20 : F20 o = .inr (8, [.int th, .ref (qm 0), .ref (qm 1), .ref (qm 2), .ref (qm 3), .ref (qm 4), .ref (qm 5), .ref (qm 6), .ref (qm 7), .int sp, .ref (qm 8), .ref (qm 9), .ref (qm 10), .ref (qm 11), .ref (qm 12), .ref (qm 13), .ref (qm 14), .int fa, .ref (qm 15), .long v19]) := by rw [eF20]; exact va_up_self _ _ _
      exact W.vret hx hb hr (fun t ht hW => ⟨⟨F20, rfl, (by rw [eF20]; rw [ev19, hr18, ev17]), (by show va_P _ _ _ t.heap; rw [ht]; exact hP)⟩, hS.F ht⟩) hS.2.2 dX9_reckonFloats_231
    · refine lv_fload_n hx hb dX9_reckonFloats_55 rfl (lv_at hl 4 rfl) ?_
      refine lv_fload_n hx hb dX9_reckonFloats_56 rfl (lv_at hl 5 rfl) ?_
      refine lv_fcmp hx hb dX9_reckonFloats_57 ?_
      refine lv_if_ne (tgt := 65) hx hb dX9_reckonFloats_58 (by decide) (fun c21 => ?_) (fun c21 => ?_)
      · refine lv_iconst (v := 0) hx hb dX9_reckonFloats_65 (by decide) ?_
        refine lv_goto (tgt := 155) hx hb dX9_reckonFloats_66 (by decide) ?_
        refine lv_istore (lv' := [(6, .int 0), (5, .int r2), (4, .int r1), (0, .ref o), (1, .int 1), (2, .float x), (3, .float y)]) hx hb dX9_reckonFloats_155 hl (by decide) rfl (fun ls hl => ?_)
        refine lv_iload hx hb dX9_reckonFloats_157 (lv_at hl 0 rfl) ?_
        refine lv_if_eq (tgt := 168) hx hb dX9_reckonFloats_159 (by decide) (fun c22 => ?_) (fun c22 => absurd (by decide) c22)
        refine lv_aload_n hx hb dX9_reckonFloats_168 rfl (lv_at hl 3 rfl) ?_
        refine lv_iload_n hx hb dX9_reckonFloats_169 rfl (lv_at hl 4 rfl) ?_
        refine lv_if_ne (tgt := 179) hx hb dX9_reckonFloats_170 (by decide) (fun c23 => ?_) (fun c23 => absurd c23 (by decide))
        refine lv_iload_n hx hb dX9_reckonFloats_179 rfl (lv_at hl 4 rfl) ?_
        refine lv_iconst (v := 1) hx hb dX9_reckonFloats_180 (by decide) ?_
        refine lv_icmp_ne (tgt := 190) hx hb dX9_reckonFloats_181 (by decide) (fun c24 => absurd (by decide) c24) (fun c24 => ?_)
        refine lv_fload_n hx hb dX9_reckonFloats_184 rfl (lv_at hl 5 rfl) ?_
        refine lv_fload_n hx hb dX9_reckonFloats_185 rfl (lv_at hl 6 rfl) ?_
        refine lv_fsub hx hb dX9_reckonFloats_186 (n32.mpr ((FP.Core.notNaN_iff32 _).mp hv)) ?_
        refine lv_topf (fun v25 ev25 => ?_)
        refine lv_goto (tgt := 224) hx hb dX9_reckonFloats_187 (by decide) ?_
        refine vp_callSi (W.runS (As := [.float v25]) (rest := [.ref o]) ⟨hx, hb, hml, hown, hts⟩ (c9_f2ib l v25 (by rw [ev25]; exact (FP.Core.notNaN_iff32 _).mp hv)) (va_cwS 1 hts gX9_reckonFloats_Jxf58ca_floatToIntBits_5c35a rfl rfl rfl (by decide +kernel) ⟨Nat.le_of_ble_eq_true rfl, Nat.le_of_ble_eq_true rfl⟩) (preS_of okT (trivial)) rfl rfl hl.1 rfl (lv_room (Nat.le_of_ble_eq_true rfl)) dX9_reckonFloats_224 ⟨Nat.le_of_ble_eq_true rfl, Nat.le_of_ble_eq_true rfl⟩) (fun r26 hr26 => ?_)
        refine lv_i2l hx hb dX9_reckonFloats_227 rfl ?_
        refine lv_topl (fun v27 ev27 => ?_)
        refine pg_put (ci := 8) (v := .long v27) (ty := .long) (C := RX9) (T := TX9) (N := 20) hx hb hts hinX9 tyX9 tyX9_ok nmX9 hown hK hP hD hS hmo hFo rfl 19 (by decide) (hts (.fieldLink RX9 131 "RopeDrumsModel" "outcome" "J") (by decide +kernel)) (fun _ h9 => h9) rfl (by decide +kernel) (rfl) (rfl) (Nat.le_of_ble_eq_true rfl) dX9_reckonFloats_228 (fun H locs F28 eF28 hP hS => ?_)
        have eF28 : F28 = va_up F o (.inr (8, [.int th, .ref (qm 0), .ref (qm 1), .ref (qm 2), .ref (qm 3), .ref (qm 4), .ref (qm 5), .ref (qm 6), .ref (qm 7), .int sp, .ref (qm 8), .ref (qm 9), .ref (qm 10), .ref (qm 11), .ref (qm 12), .ref (qm 13), .ref (qm 14), .int fa, .ref (qm 15), .long v27])) := eF28
        have hFo_28 : F28 o = .inr (8, [.int th, .ref (qm 0), .ref (qm 1), .ref (qm 2), .ref (qm 3), .ref (qm 4), .ref (qm 5), .ref (qm 6), .ref (qm 7), .int sp, .ref (qm 8), .ref (qm 9), .ref (qm 10), .ref (qm 11), .ref (qm 12), .ref (qm 13), .ref (qm 14), .int fa, .ref (qm 15), .long v27]) := by rw [eF28]; exact va_up_self _ _ _
        exact W.vret hx hb hr (fun t ht hW => ⟨⟨F28, rfl, (by rw [eF28]; rw [ev27, hr26, ev25]), (by show va_P _ _ _ t.heap; rw [ht]; exact hP)⟩, hS.F ht⟩) hS.2.2 dX9_reckonFloats_231
      · refine lv_iconst (v := 1) hx hb dX9_reckonFloats_61 (by decide) ?_
        refine lv_goto (tgt := 155) hx hb dX9_reckonFloats_62 (by decide) ?_
        refine lv_istore (lv' := [(6, .int 1), (5, .int r2), (4, .int r1), (0, .ref o), (1, .int 1), (2, .float x), (3, .float y)]) hx hb dX9_reckonFloats_155 hl (by decide) rfl (fun ls hl => ?_)
        refine lv_iload hx hb dX9_reckonFloats_157 (lv_at hl 0 rfl) ?_
        refine lv_if_eq (tgt := 168) hx hb dX9_reckonFloats_159 (by decide) (fun c29 => absurd c29 (by decide)) (fun c29 => ?_)
        exfalso
        have f1 := pz2 hr1 c5
        have f2 := pz2 hr2 c13
        have f3 := (eq_iff32 hx9 hy9).mp c21
        have hv9 := (not_congr (nan_sub32 hx9 hy9)).mp (by rw [hv]; decide)
        have hk9 := keyE32 f1 f2
        exact hv9 ⟨f1, f2, by first | exact hk9.mp (by assumption) | exact fun z => absurd (hk9.mpr z) (by assumption)⟩

set_option maxHeartbeats 8000000 in
set_option maxRecDepth 100000 in
theorem c9_rF_1_no (l : Launch) (G : va_G) (cy : Nat → ClassId) (L : List Nat) (F : Nat → va_E) (sz : Nat) (o : Nat) (qm : Nat → Nat) (th sp fa : Int32) (oc : Int64) (hmo : o ∈ L) (hFo : F o = .inr (8, [.int th, .ref (qm 0), .ref (qm 1), .ref (qm 2), .ref (qm 3), .ref (qm 4), .ref (qm 5), .ref (qm 6), .ref (qm 7), .int sp, .ref (qm 8), .ref (qm 9), .ref (qm 10), .ref (qm 11), .ref (qm 12), .ref (qm 13), .ref (qm 14), .int fa, .ref (qm 15), .long oc])) (x y : UInt32) (hx9 : FP.Core.val32 x ≠ .nan) (hy9 : FP.Core.val32 y ≠ .nan) (hv : FP.Core.fIsNaN (FP.fsub x y) = true)  : Met l yX9_reckonFloats wsX9_reckonFloats ({ frames := 2, cells := 0, slots := 0, locals := 44 }) (va_Pc [.ref o, .int 1, .float x, .float y] (fun U => bQ G cy L F sz U U.heap)) (va_Qv (fun F' : Nat → va_E => F' = va_up F o (.inr (8, [.int th, .ref (qm 0), .ref (qm 1), .ref (qm 2), .ref (qm 3), .ref (qm 4), .ref (qm 5), .ref (qm 6), .ref (qm 7), .int sp, .ref (qm 8), .ref (qm 9), .ref (qm 10), .ref (qm 11), .ref (qm 12), .ref (qm 13), .ref (qm 14), .int 5, .ref (qm 15), .long oc]))) (fun F' t => va_P G vwCl (va_pl L F') t.heap) (va_A (va_pl L F) sz)) 0 0 (va_A (va_pl L F) sz) := by
  refine Met.ofW (cc := cX9_reckonFloats) (maxL := 7) (ret := none) (by decide) rfl ?_
  intro p e s m args below meth c s₁ B hml hv
  obtain ⟨rfl, hsz, hP, hK, hD0⟩ := hv
  have hx := B.exec
  have hb := B.bytes
  have hr := B.returns
  have hts := atoms_spec (ws := wsX9_reckonFloats) B.pre
  have hown : s.vm.findClass RX9 = some m.cls := findClass_of_methodNamed B.named
  have hlocks := B.notSynchronized
  have hinX9 : ∀ w ∈ wsX90, w ∈ wsX9_reckonFloats := by decide +kernel
  subst hsz
  have hD := hD0.self F s.heap.size
  generalize hAe : va_A (va_pl L F) s.heap.size = A at hD ⊢
  have hA : ∀ q : Nat, s.heap.size ≤ q → A q := fun q h => by rw [← hAe]; exact Or.inr h
  have hS : va_S A s.heap s.heap [] := va_S.rf
  have hl := lv_entry ([.ref o, .int 1, .float x, .float y]) (n := 7) (Nat.le_of_ble_eq_true rfl)
  rw [lg_entry_eq]
  generalize (lg_sl ([.ref o, .int 1, .float x, .float y]) ++ List.replicate (7 - (lg_sl ([.ref o, .int 1, .float x, .float y])).length) Slot.unset).toArray = ls at hl ⊢
  have hl : lv_has ls 7 [(0, .ref o), (1, .int 1), (2, .float x), (3, .float y)] := hl
  refine lv_fload_n hx hb dX9_reckonFloats_0 rfl (lv_at hl 2 rfl) ?_
  refine vp_callSi (W.runS (As := [.float x]) (rest := []) ⟨hx, hb, hml, hown, hts⟩ (c9_isEndlessFloat l x hx9) (va_cwS 1 hts gX9_reckonFloats_X9_isEndlessFloat rfl rfl rfl (by decide +kernel) ⟨Nat.le_of_ble_eq_true rfl, Nat.le_of_ble_eq_true rfl⟩) (preS_of okT (trivial)) rfl rfl hl.1 rfl (lv_room (Nat.le_of_ble_eq_true rfl)) dX9_reckonFloats_1 ⟨Nat.le_of_ble_eq_true rfl, Nat.le_of_ble_eq_true rfl⟩) (fun r1 hr1 => ?_)
  refine lv_istore (lv' := [(4, .int r1), (0, .ref o), (1, .int 1), (2, .float x), (3, .float y)]) hx hb dX9_reckonFloats_4 hl (by decide) rfl (fun ls hl => ?_)
  refine lv_fload_n hx hb dX9_reckonFloats_6 rfl (lv_at hl 4 rfl) ?_
  refine vp_callSi (W.runS (As := [.float y]) (rest := []) ⟨hx, hb, hml, hown, hts⟩ (c9_isEndlessFloat l y hy9) (va_cwS 1 hts gX9_reckonFloats_X9_isEndlessFloat rfl rfl rfl (by decide +kernel) ⟨Nat.le_of_ble_eq_true rfl, Nat.le_of_ble_eq_true rfl⟩) (preS_of okT (trivial)) rfl rfl hl.1 rfl (lv_room (Nat.le_of_ble_eq_true rfl)) dX9_reckonFloats_7 ⟨Nat.le_of_ble_eq_true rfl, Nat.le_of_ble_eq_true rfl⟩) (fun r2 hr2 => ?_)
  refine lv_istore (lv' := [(5, .int r2), (4, .int r1), (0, .ref o), (1, .int 1), (2, .float x), (3, .float y)]) hx hb dX9_reckonFloats_10 hl (by decide) rfl (fun ls hl => ?_)
  refine lv_iload_n hx hb dX9_reckonFloats_12 rfl (lv_at hl 3 rfl) ?_
  refine lv_if_ne (tgt := 40) hx hb dX9_reckonFloats_13 (by decide) (fun c3 => ?_) (fun c3 => absurd c3 (by decide))
  refine lv_iload_n hx hb dX9_reckonFloats_40 rfl (lv_at hl 3 rfl) ?_
  refine lv_iconst (v := 1) hx hb dX9_reckonFloats_41 (by decide) ?_
  refine lv_icmp_ne (tgt := 69) hx hb dX9_reckonFloats_42 (by decide) (fun c4 => absurd (by decide) c4) (fun c4 => ?_)
  refine lv_iload hx hb dX9_reckonFloats_45 (lv_at hl 1 rfl) ?_
  refine lv_if_eq (tgt := 65) hx hb dX9_reckonFloats_47 (by decide) (fun c5 => ?_) (fun c5 => ?_)
  · refine lv_iconst (v := 0) hx hb dX9_reckonFloats_65 (by decide) ?_
    refine lv_goto (tgt := 155) hx hb dX9_reckonFloats_66 (by decide) ?_
    refine lv_istore (lv' := [(6, .int 0), (5, .int r2), (4, .int r1), (0, .ref o), (1, .int 1), (2, .float x), (3, .float y)]) hx hb dX9_reckonFloats_155 hl (by decide) rfl (fun ls hl => ?_)
    refine lv_iload hx hb dX9_reckonFloats_157 (lv_at hl 0 rfl) ?_
    refine lv_if_eq (tgt := 168) hx hb dX9_reckonFloats_159 (by decide) (fun c6 => ?_) (fun c6 => absurd (by decide) c6)
    exfalso
    have f1 := pz1 hr1 c5
    have hv9 := (nan_sub32 hx9 hy9).mp hv
    omega
  · refine lv_iload hx hb dX9_reckonFloats_50 (lv_at hl 0 rfl) ?_
    refine lv_if_eq (tgt := 65) hx hb dX9_reckonFloats_52 (by decide) (fun c7 => ?_) (fun c7 => ?_)
    · refine lv_iconst (v := 0) hx hb dX9_reckonFloats_65 (by decide) ?_
      refine lv_goto (tgt := 155) hx hb dX9_reckonFloats_66 (by decide) ?_
      refine lv_istore (lv' := [(6, .int 0), (5, .int r2), (4, .int r1), (0, .ref o), (1, .int 1), (2, .float x), (3, .float y)]) hx hb dX9_reckonFloats_155 hl (by decide) rfl (fun ls hl => ?_)
      refine lv_iload hx hb dX9_reckonFloats_157 (lv_at hl 0 rfl) ?_
      refine lv_if_eq (tgt := 168) hx hb dX9_reckonFloats_159 (by decide) (fun c8 => ?_) (fun c8 => absurd (by decide) c8)
      exfalso
      have f1 := pz2 hr1 c5
      have f2 := pz1 hr2 c7
      have hv9 := (nan_sub32 hx9 hy9).mp hv
      omega
    · refine lv_fload_n hx hb dX9_reckonFloats_55 rfl (lv_at hl 4 rfl) ?_
      refine lv_fload_n hx hb dX9_reckonFloats_56 rfl (lv_at hl 5 rfl) ?_
      refine lv_fcmp hx hb dX9_reckonFloats_57 ?_
      refine lv_if_ne (tgt := 65) hx hb dX9_reckonFloats_58 (by decide) (fun c9 => ?_) (fun c9 => ?_)
      · refine lv_iconst (v := 0) hx hb dX9_reckonFloats_65 (by decide) ?_
        refine lv_goto (tgt := 155) hx hb dX9_reckonFloats_66 (by decide) ?_
        refine lv_istore (lv' := [(6, .int 0), (5, .int r2), (4, .int r1), (0, .ref o), (1, .int 1), (2, .float x), (3, .float y)]) hx hb dX9_reckonFloats_155 hl (by decide) rfl (fun ls hl => ?_)
        refine lv_iload hx hb dX9_reckonFloats_157 (lv_at hl 0 rfl) ?_
        refine lv_if_eq (tgt := 168) hx hb dX9_reckonFloats_159 (by decide) (fun c10 => ?_) (fun c10 => absurd (by decide) c10)
        exfalso
        have f1 := pz2 hr1 c5
        have f2 := pz2 hr2 c7
        have f3 := (not_congr (eq_iff32 hx9 hy9)).mp c9
        have hv9 := (nan_sub32 hx9 hy9).mp hv
        have hk9 := keyE32 f1 f2
        first | exact absurd (hk9.mpr hv9.2.2) (by assumption) | exact hv9.2.2 (hk9.mp (by assumption))
      · refine lv_iconst (v := 1) hx hb dX9_reckonFloats_61 (by decide) ?_
        refine lv_goto (tgt := 155) hx hb dX9_reckonFloats_62 (by decide) ?_
        refine lv_istore (lv' := [(6, .int 1), (5, .int r2), (4, .int r1), (0, .ref o), (1, .int 1), (2, .float x), (3, .float y)]) hx hb dX9_reckonFloats_155 hl (by decide) rfl (fun ls hl => ?_)
        refine lv_iload hx hb dX9_reckonFloats_157 (lv_at hl 0 rfl) ?_
        refine lv_if_eq (tgt := 168) hx hb dX9_reckonFloats_159 (by decide) (fun c11 => absurd c11 (by decide)) (fun c11 => ?_)
        refine lv_aload_n hx hb dX9_reckonFloats_162 rfl (lv_at hl 3 rfl) ?_
        refine lv_iconst (v := 5) hx hb dX9_reckonFloats_163 (by decide) ?_
        refine pg_put (ci := 8) (v := .int 5) (ty := .int) (C := RX9) (T := TX9) (N := 20) hx hb hts hinX9 tyX9 tyX9_ok nmX9 hown hK hP hD hS hmo hFo rfl 17 (by decide) (hts (.fieldLink RX9 65 "RopeDrumsModel" "failed" "I") (by decide +kernel)) (fun _ h9 => h9) rfl (by decide +kernel) (rfl) (rfl) (Nat.le_of_ble_eq_true rfl) dX9_reckonFloats_164 (fun H locs F12 eF12 hP hS => ?_)
        have eF12 : F12 = va_up F o (.inr (8, [.int th, .ref (qm 0), .ref (qm 1), .ref (qm 2), .ref (qm 3), .ref (qm 4), .ref (qm 5), .ref (qm 6), .ref (qm 7), .int sp, .ref (qm 8), .ref (qm 9), .ref (qm 10), .ref (qm 11), .ref (qm 12), .ref (qm 13), .ref (qm 14), .int 5, .ref (qm 15), .long oc])) := eF12
        have hFo_12 : F12 o = .inr (8, [.int th, .ref (qm 0), .ref (qm 1), .ref (qm 2), .ref (qm 3), .ref (qm 4), .ref (qm 5), .ref (qm 6), .ref (qm 7), .int sp, .ref (qm 8), .ref (qm 9), .ref (qm 10), .ref (qm 11), .ref (qm 12), .ref (qm 13), .ref (qm 14), .int 5, .ref (qm 15), .long oc]) := by rw [eF12]; exact va_up_self _ _ _
        exact W.vret hx hb hr (fun t ht hW => ⟨⟨F12, rfl, (by rw [eF12]), (by show va_P _ _ _ t.heap; rw [ht]; exact hP)⟩, hS.F ht⟩) hS.2.2 dX9_reckonFloats_167

set_option maxHeartbeats 8000000 in
set_option maxRecDepth 100000 in
theorem c9_rF_2 (l : Launch) (G : va_G) (cy : Nat → ClassId) (L : List Nat) (F : Nat → va_E) (sz : Nat) (o : Nat) (qm : Nat → Nat) (th sp fa : Int32) (oc : Int64) (hmo : o ∈ L) (hFo : F o = .inr (8, [.int th, .ref (qm 0), .ref (qm 1), .ref (qm 2), .ref (qm 3), .ref (qm 4), .ref (qm 5), .ref (qm 6), .ref (qm 7), .int sp, .ref (qm 8), .ref (qm 9), .ref (qm 10), .ref (qm 11), .ref (qm 12), .ref (qm 13), .ref (qm 14), .int fa, .ref (qm 15), .long oc])) (x y : UInt32) (hx9 : FP.Core.val32 x ≠ .nan) (hy9 : FP.Core.val32 y ≠ .nan) (hv : FP.Core.fIsNaN (FP.fmul x y) = false)  : Met l yX9_reckonFloats wsX9_reckonFloats ({ frames := 2, cells := 0, slots := 0, locals := 44 }) (va_Pc [.ref o, .int 2, .float x, .float y] (fun U => bQ G cy L F sz U U.heap)) (va_Qv (fun F' : Nat → va_E => F' = va_up F o (.inr (8, [.int th, .ref (qm 0), .ref (qm 1), .ref (qm 2), .ref (qm 3), .ref (qm 4), .ref (qm 5), .ref (qm 6), .ref (qm 7), .int sp, .ref (qm 8), .ref (qm 9), .ref (qm 10), .ref (qm 11), .ref (qm 12), .ref (qm 13), .ref (qm 14), .int fa, .ref (qm 15), .long ((FP.fmul x y).toInt32.toInt64)]))) (fun F' t => va_P G vwCl (va_pl L F') t.heap) (va_A (va_pl L F) sz)) 0 0 (va_A (va_pl L F) sz) := by
  refine Met.ofW (cc := cX9_reckonFloats) (maxL := 7) (ret := none) (by decide) rfl ?_
  intro p e s m args below meth c s₁ B hml hv
  obtain ⟨rfl, hsz, hP, hK, hD0⟩ := hv
  have hx := B.exec
  have hb := B.bytes
  have hr := B.returns
  have hts := atoms_spec (ws := wsX9_reckonFloats) B.pre
  have hown : s.vm.findClass RX9 = some m.cls := findClass_of_methodNamed B.named
  have hlocks := B.notSynchronized
  have hinX9 : ∀ w ∈ wsX90, w ∈ wsX9_reckonFloats := by decide +kernel
  subst hsz
  have hD := hD0.self F s.heap.size
  generalize hAe : va_A (va_pl L F) s.heap.size = A at hD ⊢
  have hA : ∀ q : Nat, s.heap.size ≤ q → A q := fun q h => by rw [← hAe]; exact Or.inr h
  have hS : va_S A s.heap s.heap [] := va_S.rf
  have hl := lv_entry ([.ref o, .int 2, .float x, .float y]) (n := 7) (Nat.le_of_ble_eq_true rfl)
  rw [lg_entry_eq]
  generalize (lg_sl ([.ref o, .int 2, .float x, .float y]) ++ List.replicate (7 - (lg_sl ([.ref o, .int 2, .float x, .float y])).length) Slot.unset).toArray = ls at hl ⊢
  have hl : lv_has ls 7 [(0, .ref o), (1, .int 2), (2, .float x), (3, .float y)] := hl
  refine lv_fload_n hx hb dX9_reckonFloats_0 rfl (lv_at hl 2 rfl) ?_
  refine vp_callSi (W.runS (As := [.float x]) (rest := []) ⟨hx, hb, hml, hown, hts⟩ (c9_isEndlessFloat l x hx9) (va_cwS 1 hts gX9_reckonFloats_X9_isEndlessFloat rfl rfl rfl (by decide +kernel) ⟨Nat.le_of_ble_eq_true rfl, Nat.le_of_ble_eq_true rfl⟩) (preS_of okT (trivial)) rfl rfl hl.1 rfl (lv_room (Nat.le_of_ble_eq_true rfl)) dX9_reckonFloats_1 ⟨Nat.le_of_ble_eq_true rfl, Nat.le_of_ble_eq_true rfl⟩) (fun r1 hr1 => ?_)
  refine lv_istore (lv' := [(4, .int r1), (0, .ref o), (1, .int 2), (2, .float x), (3, .float y)]) hx hb dX9_reckonFloats_4 hl (by decide) rfl (fun ls hl => ?_)
  refine lv_fload_n hx hb dX9_reckonFloats_6 rfl (lv_at hl 4 rfl) ?_
  refine vp_callSi (W.runS (As := [.float y]) (rest := []) ⟨hx, hb, hml, hown, hts⟩ (c9_isEndlessFloat l y hy9) (va_cwS 1 hts gX9_reckonFloats_X9_isEndlessFloat rfl rfl rfl (by decide +kernel) ⟨Nat.le_of_ble_eq_true rfl, Nat.le_of_ble_eq_true rfl⟩) (preS_of okT (trivial)) rfl rfl hl.1 rfl (lv_room (Nat.le_of_ble_eq_true rfl)) dX9_reckonFloats_7 ⟨Nat.le_of_ble_eq_true rfl, Nat.le_of_ble_eq_true rfl⟩) (fun r2 hr2 => ?_)
  refine lv_istore (lv' := [(5, .int r2), (4, .int r1), (0, .ref o), (1, .int 2), (2, .float x), (3, .float y)]) hx hb dX9_reckonFloats_10 hl (by decide) rfl (fun ls hl => ?_)
  refine lv_iload_n hx hb dX9_reckonFloats_12 rfl (lv_at hl 3 rfl) ?_
  refine lv_if_ne (tgt := 40) hx hb dX9_reckonFloats_13 (by decide) (fun c3 => ?_) (fun c3 => absurd c3 (by decide))
  refine lv_iload_n hx hb dX9_reckonFloats_40 rfl (lv_at hl 3 rfl) ?_
  refine lv_iconst (v := 1) hx hb dX9_reckonFloats_41 (by decide) ?_
  refine lv_icmp_ne (tgt := 69) hx hb dX9_reckonFloats_42 (by decide) (fun c4 => ?_) (fun c4 => absurd c4 (by decide))
  refine lv_iload_n hx hb dX9_reckonFloats_69 rfl (lv_at hl 3 rfl) ?_
  refine lv_iconst (v := 2) hx hb dX9_reckonFloats_70 (by decide) ?_
  refine lv_icmp_ne (tgt := 104) hx hb dX9_reckonFloats_71 (by decide) (fun c5 => absurd (by decide) c5) (fun c5 => ?_)
  refine lv_iload hx hb dX9_reckonFloats_74 (lv_at hl 1 rfl) ?_
  refine lv_if_eq (tgt := 85) hx hb dX9_reckonFloats_76 (by decide) (fun c6 => ?_) (fun c6 => ?_)
  · refine lv_iload hx hb dX9_reckonFloats_85 (lv_at hl 0 rfl) ?_
    refine lv_if_eq (tgt := 100) hx hb dX9_reckonFloats_87 (by decide) (fun c7 => ?_) (fun c7 => ?_)
    · refine lv_iconst (v := 0) hx hb dX9_reckonFloats_100 (by decide) ?_
      refine lv_goto (tgt := 155) hx hb dX9_reckonFloats_101 (by decide) ?_
      refine lv_istore (lv' := [(6, .int 0), (5, .int r2), (4, .int r1), (0, .ref o), (1, .int 2), (2, .float x), (3, .float y)]) hx hb dX9_reckonFloats_155 hl (by decide) rfl (fun ls hl => ?_)
      refine lv_iload hx hb dX9_reckonFloats_157 (lv_at hl 0 rfl) ?_
      refine lv_if_eq (tgt := 168) hx hb dX9_reckonFloats_159 (by decide) (fun c8 => ?_) (fun c8 => absurd (by decide) c8)
      refine lv_aload_n hx hb dX9_reckonFloats_168 rfl (lv_at hl 3 rfl) ?_
      refine lv_iload_n hx hb dX9_reckonFloats_169 rfl (lv_at hl 4 rfl) ?_
      refine lv_if_ne (tgt := 179) hx hb dX9_reckonFloats_170 (by decide) (fun c9 => ?_) (fun c9 => absurd c9 (by decide))
      refine lv_iload_n hx hb dX9_reckonFloats_179 rfl (lv_at hl 4 rfl) ?_
      refine lv_iconst (v := 1) hx hb dX9_reckonFloats_180 (by decide) ?_
      refine lv_icmp_ne (tgt := 190) hx hb dX9_reckonFloats_181 (by decide) (fun c10 => ?_) (fun c10 => absurd c10 (by decide))
      refine lv_iload_n hx hb dX9_reckonFloats_190 rfl (lv_at hl 4 rfl) ?_
      refine lv_iconst (v := 2) hx hb dX9_reckonFloats_191 (by decide) ?_
      refine lv_icmp_ne (tgt := 201) hx hb dX9_reckonFloats_192 (by decide) (fun c11 => absurd (by decide) c11) (fun c11 => ?_)
      refine lv_fload_n hx hb dX9_reckonFloats_195 rfl (lv_at hl 5 rfl) ?_
      refine lv_fload_n hx hb dX9_reckonFloats_196 rfl (lv_at hl 6 rfl) ?_
      refine lv_fmul hx hb dX9_reckonFloats_197 (n32.mpr ((FP.Core.notNaN_iff32 _).mp hv)) ?_
      refine lv_topf (fun v12 ev12 => ?_)
      refine lv_goto (tgt := 224) hx hb dX9_reckonFloats_198 (by decide) ?_
      refine vp_callSi (W.runS (As := [.float v12]) (rest := [.ref o]) ⟨hx, hb, hml, hown, hts⟩ (c9_f2ib l v12 (by rw [ev12]; exact (FP.Core.notNaN_iff32 _).mp hv)) (va_cwS 1 hts gX9_reckonFloats_Jxf58ca_floatToIntBits_5c35a rfl rfl rfl (by decide +kernel) ⟨Nat.le_of_ble_eq_true rfl, Nat.le_of_ble_eq_true rfl⟩) (preS_of okT (trivial)) rfl rfl hl.1 rfl (lv_room (Nat.le_of_ble_eq_true rfl)) dX9_reckonFloats_224 ⟨Nat.le_of_ble_eq_true rfl, Nat.le_of_ble_eq_true rfl⟩) (fun r13 hr13 => ?_)
      refine lv_i2l hx hb dX9_reckonFloats_227 rfl ?_
      refine lv_topl (fun v14 ev14 => ?_)
      refine pg_put (ci := 8) (v := .long v14) (ty := .long) (C := RX9) (T := TX9) (N := 20) hx hb hts hinX9 tyX9 tyX9_ok nmX9 hown hK hP hD hS hmo hFo rfl 19 (by decide) (hts (.fieldLink RX9 131 "RopeDrumsModel" "outcome" "J") (by decide +kernel)) (fun _ h9 => h9) rfl (by decide +kernel) (rfl) (rfl) (Nat.le_of_ble_eq_true rfl) dX9_reckonFloats_228 (fun H locs F15 eF15 hP hS => ?_)
      have eF15 : F15 = va_up F o (.inr (8, [.int th, .ref (qm 0), .ref (qm 1), .ref (qm 2), .ref (qm 3), .ref (qm 4), .ref (qm 5), .ref (qm 6), .ref (qm 7), .int sp, .ref (qm 8), .ref (qm 9), .ref (qm 10), .ref (qm 11), .ref (qm 12), .ref (qm 13), .ref (qm 14), .int fa, .ref (qm 15), .long v14])) := eF15
      have hFo_15 : F15 o = .inr (8, [.int th, .ref (qm 0), .ref (qm 1), .ref (qm 2), .ref (qm 3), .ref (qm 4), .ref (qm 5), .ref (qm 6), .ref (qm 7), .int sp, .ref (qm 8), .ref (qm 9), .ref (qm 10), .ref (qm 11), .ref (qm 12), .ref (qm 13), .ref (qm 14), .int fa, .ref (qm 15), .long v14]) := by rw [eF15]; exact va_up_self _ _ _
      exact W.vret hx hb hr (fun t ht hW => ⟨⟨F15, rfl, (by rw [eF15]; rw [ev14, hr13, ev12]), (by show va_P _ _ _ t.heap; rw [ht]; exact hP)⟩, hS.F ht⟩) hS.2.2 dX9_reckonFloats_231
    · refine lv_fload_n hx hb dX9_reckonFloats_90 rfl (lv_at hl 4 rfl) ?_
      refine lv_fconst0 hx hb dX9_reckonFloats_91 ?_
      refine lv_fcmp hx hb dX9_reckonFloats_92 ?_
      refine lv_if_ne (tgt := 100) hx hb dX9_reckonFloats_93 (by decide) (fun c16 => ?_) (fun c16 => ?_)
      · refine lv_iconst (v := 0) hx hb dX9_reckonFloats_100 (by decide) ?_
        refine lv_goto (tgt := 155) hx hb dX9_reckonFloats_101 (by decide) ?_
        refine lv_istore (lv' := [(6, .int 0), (5, .int r2), (4, .int r1), (0, .ref o), (1, .int 2), (2, .float x), (3, .float y)]) hx hb dX9_reckonFloats_155 hl (by decide) rfl (fun ls hl => ?_)
        refine lv_iload hx hb dX9_reckonFloats_157 (lv_at hl 0 rfl) ?_
        refine lv_if_eq (tgt := 168) hx hb dX9_reckonFloats_159 (by decide) (fun c17 => ?_) (fun c17 => absurd (by decide) c17)
        refine lv_aload_n hx hb dX9_reckonFloats_168 rfl (lv_at hl 3 rfl) ?_
        refine lv_iload_n hx hb dX9_reckonFloats_169 rfl (lv_at hl 4 rfl) ?_
        refine lv_if_ne (tgt := 179) hx hb dX9_reckonFloats_170 (by decide) (fun c18 => ?_) (fun c18 => absurd c18 (by decide))
        refine lv_iload_n hx hb dX9_reckonFloats_179 rfl (lv_at hl 4 rfl) ?_
        refine lv_iconst (v := 1) hx hb dX9_reckonFloats_180 (by decide) ?_
        refine lv_icmp_ne (tgt := 190) hx hb dX9_reckonFloats_181 (by decide) (fun c19 => ?_) (fun c19 => absurd c19 (by decide))
        refine lv_iload_n hx hb dX9_reckonFloats_190 rfl (lv_at hl 4 rfl) ?_
        refine lv_iconst (v := 2) hx hb dX9_reckonFloats_191 (by decide) ?_
        refine lv_icmp_ne (tgt := 201) hx hb dX9_reckonFloats_192 (by decide) (fun c20 => absurd (by decide) c20) (fun c20 => ?_)
        refine lv_fload_n hx hb dX9_reckonFloats_195 rfl (lv_at hl 5 rfl) ?_
        refine lv_fload_n hx hb dX9_reckonFloats_196 rfl (lv_at hl 6 rfl) ?_
        refine lv_fmul hx hb dX9_reckonFloats_197 (n32.mpr ((FP.Core.notNaN_iff32 _).mp hv)) ?_
        refine lv_topf (fun v21 ev21 => ?_)
        refine lv_goto (tgt := 224) hx hb dX9_reckonFloats_198 (by decide) ?_
        refine vp_callSi (W.runS (As := [.float v21]) (rest := [.ref o]) ⟨hx, hb, hml, hown, hts⟩ (c9_f2ib l v21 (by rw [ev21]; exact (FP.Core.notNaN_iff32 _).mp hv)) (va_cwS 1 hts gX9_reckonFloats_Jxf58ca_floatToIntBits_5c35a rfl rfl rfl (by decide +kernel) ⟨Nat.le_of_ble_eq_true rfl, Nat.le_of_ble_eq_true rfl⟩) (preS_of okT (trivial)) rfl rfl hl.1 rfl (lv_room (Nat.le_of_ble_eq_true rfl)) dX9_reckonFloats_224 ⟨Nat.le_of_ble_eq_true rfl, Nat.le_of_ble_eq_true rfl⟩) (fun r22 hr22 => ?_)
        refine lv_i2l hx hb dX9_reckonFloats_227 rfl ?_
        refine lv_topl (fun v23 ev23 => ?_)
        refine pg_put (ci := 8) (v := .long v23) (ty := .long) (C := RX9) (T := TX9) (N := 20) hx hb hts hinX9 tyX9 tyX9_ok nmX9 hown hK hP hD hS hmo hFo rfl 19 (by decide) (hts (.fieldLink RX9 131 "RopeDrumsModel" "outcome" "J") (by decide +kernel)) (fun _ h9 => h9) rfl (by decide +kernel) (rfl) (rfl) (Nat.le_of_ble_eq_true rfl) dX9_reckonFloats_228 (fun H locs F24 eF24 hP hS => ?_)
        have eF24 : F24 = va_up F o (.inr (8, [.int th, .ref (qm 0), .ref (qm 1), .ref (qm 2), .ref (qm 3), .ref (qm 4), .ref (qm 5), .ref (qm 6), .ref (qm 7), .int sp, .ref (qm 8), .ref (qm 9), .ref (qm 10), .ref (qm 11), .ref (qm 12), .ref (qm 13), .ref (qm 14), .int fa, .ref (qm 15), .long v23])) := eF24
        have hFo_24 : F24 o = .inr (8, [.int th, .ref (qm 0), .ref (qm 1), .ref (qm 2), .ref (qm 3), .ref (qm 4), .ref (qm 5), .ref (qm 6), .ref (qm 7), .int sp, .ref (qm 8), .ref (qm 9), .ref (qm 10), .ref (qm 11), .ref (qm 12), .ref (qm 13), .ref (qm 14), .int fa, .ref (qm 15), .long v23]) := by rw [eF24]; exact va_up_self _ _ _
        exact W.vret hx hb hr (fun t ht hW => ⟨⟨F24, rfl, (by rw [eF24]; rw [ev23, hr22, ev21]), (by show va_P _ _ _ t.heap; rw [ht]; exact hP)⟩, hS.F ht⟩) hS.2.2 dX9_reckonFloats_231
      · refine lv_iconst (v := 1) hx hb dX9_reckonFloats_96 (by decide) ?_
        refine lv_goto (tgt := 155) hx hb dX9_reckonFloats_97 (by decide) ?_
        refine lv_istore (lv' := [(6, .int 1), (5, .int r2), (4, .int r1), (0, .ref o), (1, .int 2), (2, .float x), (3, .float y)]) hx hb dX9_reckonFloats_155 hl (by decide) rfl (fun ls hl => ?_)
        refine lv_iload hx hb dX9_reckonFloats_157 (lv_at hl 0 rfl) ?_
        refine lv_if_eq (tgt := 168) hx hb dX9_reckonFloats_159 (by decide) (fun c25 => absurd c25 (by decide)) (fun c25 => ?_)
        exfalso
        have f1 := pz1 hr1 c6
        have f2 := pz2 hr2 c7
        have f3 := (z_iff32 hx9).mp c16
        have hv9 := (not_congr (nan_mul32 hx9 hy9)).mp (by rw [hv]; decide)
        exact hv9 (by omega)
  · refine lv_fload_n hx hb dX9_reckonFloats_79 rfl (lv_at hl 5 rfl) ?_
    refine lv_fconst0 hx hb dX9_reckonFloats_80 ?_
    refine lv_fcmp hx hb dX9_reckonFloats_81 ?_
    refine lv_if_eq (tgt := 96) hx hb dX9_reckonFloats_82 (by decide) (fun c26 => ?_) (fun c26 => ?_)
    · refine lv_iconst (v := 1) hx hb dX9_reckonFloats_96 (by decide) ?_
      refine lv_goto (tgt := 155) hx hb dX9_reckonFloats_97 (by decide) ?_
      refine lv_istore (lv' := [(6, .int 1), (5, .int r2), (4, .int r1), (0, .ref o), (1, .int 2), (2, .float x), (3, .float y)]) hx hb dX9_reckonFloats_155 hl (by decide) rfl (fun ls hl => ?_)
      refine lv_iload hx hb dX9_reckonFloats_157 (lv_at hl 0 rfl) ?_
      refine lv_if_eq (tgt := 168) hx hb dX9_reckonFloats_159 (by decide) (fun c27 => absurd c27 (by decide)) (fun c27 => ?_)
      exfalso
      have f1 := pz2 hr1 c6
      have f2 := (z_iff32 hy9).mp c26
      have hv9 := (not_congr (nan_mul32 hx9 hy9)).mp (by rw [hv]; decide)
      exact hv9 (by omega)
    · refine lv_iload hx hb dX9_reckonFloats_85 (lv_at hl 0 rfl) ?_
      refine lv_if_eq (tgt := 100) hx hb dX9_reckonFloats_87 (by decide) (fun c28 => ?_) (fun c28 => ?_)
      · refine lv_iconst (v := 0) hx hb dX9_reckonFloats_100 (by decide) ?_
        refine lv_goto (tgt := 155) hx hb dX9_reckonFloats_101 (by decide) ?_
        refine lv_istore (lv' := [(6, .int 0), (5, .int r2), (4, .int r1), (0, .ref o), (1, .int 2), (2, .float x), (3, .float y)]) hx hb dX9_reckonFloats_155 hl (by decide) rfl (fun ls hl => ?_)
        refine lv_iload hx hb dX9_reckonFloats_157 (lv_at hl 0 rfl) ?_
        refine lv_if_eq (tgt := 168) hx hb dX9_reckonFloats_159 (by decide) (fun c29 => ?_) (fun c29 => absurd (by decide) c29)
        refine lv_aload_n hx hb dX9_reckonFloats_168 rfl (lv_at hl 3 rfl) ?_
        refine lv_iload_n hx hb dX9_reckonFloats_169 rfl (lv_at hl 4 rfl) ?_
        refine lv_if_ne (tgt := 179) hx hb dX9_reckonFloats_170 (by decide) (fun c30 => ?_) (fun c30 => absurd c30 (by decide))
        refine lv_iload_n hx hb dX9_reckonFloats_179 rfl (lv_at hl 4 rfl) ?_
        refine lv_iconst (v := 1) hx hb dX9_reckonFloats_180 (by decide) ?_
        refine lv_icmp_ne (tgt := 190) hx hb dX9_reckonFloats_181 (by decide) (fun c31 => ?_) (fun c31 => absurd c31 (by decide))
        refine lv_iload_n hx hb dX9_reckonFloats_190 rfl (lv_at hl 4 rfl) ?_
        refine lv_iconst (v := 2) hx hb dX9_reckonFloats_191 (by decide) ?_
        refine lv_icmp_ne (tgt := 201) hx hb dX9_reckonFloats_192 (by decide) (fun c32 => absurd (by decide) c32) (fun c32 => ?_)
        refine lv_fload_n hx hb dX9_reckonFloats_195 rfl (lv_at hl 5 rfl) ?_
        refine lv_fload_n hx hb dX9_reckonFloats_196 rfl (lv_at hl 6 rfl) ?_
        refine lv_fmul hx hb dX9_reckonFloats_197 (n32.mpr ((FP.Core.notNaN_iff32 _).mp hv)) ?_
        refine lv_topf (fun v33 ev33 => ?_)
        refine lv_goto (tgt := 224) hx hb dX9_reckonFloats_198 (by decide) ?_
        refine vp_callSi (W.runS (As := [.float v33]) (rest := [.ref o]) ⟨hx, hb, hml, hown, hts⟩ (c9_f2ib l v33 (by rw [ev33]; exact (FP.Core.notNaN_iff32 _).mp hv)) (va_cwS 1 hts gX9_reckonFloats_Jxf58ca_floatToIntBits_5c35a rfl rfl rfl (by decide +kernel) ⟨Nat.le_of_ble_eq_true rfl, Nat.le_of_ble_eq_true rfl⟩) (preS_of okT (trivial)) rfl rfl hl.1 rfl (lv_room (Nat.le_of_ble_eq_true rfl)) dX9_reckonFloats_224 ⟨Nat.le_of_ble_eq_true rfl, Nat.le_of_ble_eq_true rfl⟩) (fun r34 hr34 => ?_)
        refine lv_i2l hx hb dX9_reckonFloats_227 rfl ?_
        refine lv_topl (fun v35 ev35 => ?_)
        refine pg_put (ci := 8) (v := .long v35) (ty := .long) (C := RX9) (T := TX9) (N := 20) hx hb hts hinX9 tyX9 tyX9_ok nmX9 hown hK hP hD hS hmo hFo rfl 19 (by decide) (hts (.fieldLink RX9 131 "RopeDrumsModel" "outcome" "J") (by decide +kernel)) (fun _ h9 => h9) rfl (by decide +kernel) (rfl) (rfl) (Nat.le_of_ble_eq_true rfl) dX9_reckonFloats_228 (fun H locs F36 eF36 hP hS => ?_)
        have eF36 : F36 = va_up F o (.inr (8, [.int th, .ref (qm 0), .ref (qm 1), .ref (qm 2), .ref (qm 3), .ref (qm 4), .ref (qm 5), .ref (qm 6), .ref (qm 7), .int sp, .ref (qm 8), .ref (qm 9), .ref (qm 10), .ref (qm 11), .ref (qm 12), .ref (qm 13), .ref (qm 14), .int fa, .ref (qm 15), .long v35])) := eF36
        have hFo_36 : F36 o = .inr (8, [.int th, .ref (qm 0), .ref (qm 1), .ref (qm 2), .ref (qm 3), .ref (qm 4), .ref (qm 5), .ref (qm 6), .ref (qm 7), .int sp, .ref (qm 8), .ref (qm 9), .ref (qm 10), .ref (qm 11), .ref (qm 12), .ref (qm 13), .ref (qm 14), .int fa, .ref (qm 15), .long v35]) := by rw [eF36]; exact va_up_self _ _ _
        exact W.vret hx hb hr (fun t ht hW => ⟨⟨F36, rfl, (by rw [eF36]; rw [ev35, hr34, ev33]), (by show va_P _ _ _ t.heap; rw [ht]; exact hP)⟩, hS.F ht⟩) hS.2.2 dX9_reckonFloats_231
      · refine lv_fload_n hx hb dX9_reckonFloats_90 rfl (lv_at hl 4 rfl) ?_
        refine lv_fconst0 hx hb dX9_reckonFloats_91 ?_
        refine lv_fcmp hx hb dX9_reckonFloats_92 ?_
        refine lv_if_ne (tgt := 100) hx hb dX9_reckonFloats_93 (by decide) (fun c37 => ?_) (fun c37 => ?_)
        · refine lv_iconst (v := 0) hx hb dX9_reckonFloats_100 (by decide) ?_
          refine lv_goto (tgt := 155) hx hb dX9_reckonFloats_101 (by decide) ?_
          refine lv_istore (lv' := [(6, .int 0), (5, .int r2), (4, .int r1), (0, .ref o), (1, .int 2), (2, .float x), (3, .float y)]) hx hb dX9_reckonFloats_155 hl (by decide) rfl (fun ls hl => ?_)
          refine lv_iload hx hb dX9_reckonFloats_157 (lv_at hl 0 rfl) ?_
          refine lv_if_eq (tgt := 168) hx hb dX9_reckonFloats_159 (by decide) (fun c38 => ?_) (fun c38 => absurd (by decide) c38)
          refine lv_aload_n hx hb dX9_reckonFloats_168 rfl (lv_at hl 3 rfl) ?_
          refine lv_iload_n hx hb dX9_reckonFloats_169 rfl (lv_at hl 4 rfl) ?_
          refine lv_if_ne (tgt := 179) hx hb dX9_reckonFloats_170 (by decide) (fun c39 => ?_) (fun c39 => absurd c39 (by decide))
          refine lv_iload_n hx hb dX9_reckonFloats_179 rfl (lv_at hl 4 rfl) ?_
          refine lv_iconst (v := 1) hx hb dX9_reckonFloats_180 (by decide) ?_
          refine lv_icmp_ne (tgt := 190) hx hb dX9_reckonFloats_181 (by decide) (fun c40 => ?_) (fun c40 => absurd c40 (by decide))
          refine lv_iload_n hx hb dX9_reckonFloats_190 rfl (lv_at hl 4 rfl) ?_
          refine lv_iconst (v := 2) hx hb dX9_reckonFloats_191 (by decide) ?_
          refine lv_icmp_ne (tgt := 201) hx hb dX9_reckonFloats_192 (by decide) (fun c41 => absurd (by decide) c41) (fun c41 => ?_)
          refine lv_fload_n hx hb dX9_reckonFloats_195 rfl (lv_at hl 5 rfl) ?_
          refine lv_fload_n hx hb dX9_reckonFloats_196 rfl (lv_at hl 6 rfl) ?_
          refine lv_fmul hx hb dX9_reckonFloats_197 (n32.mpr ((FP.Core.notNaN_iff32 _).mp hv)) ?_
          refine lv_topf (fun v42 ev42 => ?_)
          refine lv_goto (tgt := 224) hx hb dX9_reckonFloats_198 (by decide) ?_
          refine vp_callSi (W.runS (As := [.float v42]) (rest := [.ref o]) ⟨hx, hb, hml, hown, hts⟩ (c9_f2ib l v42 (by rw [ev42]; exact (FP.Core.notNaN_iff32 _).mp hv)) (va_cwS 1 hts gX9_reckonFloats_Jxf58ca_floatToIntBits_5c35a rfl rfl rfl (by decide +kernel) ⟨Nat.le_of_ble_eq_true rfl, Nat.le_of_ble_eq_true rfl⟩) (preS_of okT (trivial)) rfl rfl hl.1 rfl (lv_room (Nat.le_of_ble_eq_true rfl)) dX9_reckonFloats_224 ⟨Nat.le_of_ble_eq_true rfl, Nat.le_of_ble_eq_true rfl⟩) (fun r43 hr43 => ?_)
          refine lv_i2l hx hb dX9_reckonFloats_227 rfl ?_
          refine lv_topl (fun v44 ev44 => ?_)
          refine pg_put (ci := 8) (v := .long v44) (ty := .long) (C := RX9) (T := TX9) (N := 20) hx hb hts hinX9 tyX9 tyX9_ok nmX9 hown hK hP hD hS hmo hFo rfl 19 (by decide) (hts (.fieldLink RX9 131 "RopeDrumsModel" "outcome" "J") (by decide +kernel)) (fun _ h9 => h9) rfl (by decide +kernel) (rfl) (rfl) (Nat.le_of_ble_eq_true rfl) dX9_reckonFloats_228 (fun H locs F45 eF45 hP hS => ?_)
          have eF45 : F45 = va_up F o (.inr (8, [.int th, .ref (qm 0), .ref (qm 1), .ref (qm 2), .ref (qm 3), .ref (qm 4), .ref (qm 5), .ref (qm 6), .ref (qm 7), .int sp, .ref (qm 8), .ref (qm 9), .ref (qm 10), .ref (qm 11), .ref (qm 12), .ref (qm 13), .ref (qm 14), .int fa, .ref (qm 15), .long v44])) := eF45
          have hFo_45 : F45 o = .inr (8, [.int th, .ref (qm 0), .ref (qm 1), .ref (qm 2), .ref (qm 3), .ref (qm 4), .ref (qm 5), .ref (qm 6), .ref (qm 7), .int sp, .ref (qm 8), .ref (qm 9), .ref (qm 10), .ref (qm 11), .ref (qm 12), .ref (qm 13), .ref (qm 14), .int fa, .ref (qm 15), .long v44]) := by rw [eF45]; exact va_up_self _ _ _
          exact W.vret hx hb hr (fun t ht hW => ⟨⟨F45, rfl, (by rw [eF45]; rw [ev44, hr43, ev42]), (by show va_P _ _ _ t.heap; rw [ht]; exact hP)⟩, hS.F ht⟩) hS.2.2 dX9_reckonFloats_231
        · refine lv_iconst (v := 1) hx hb dX9_reckonFloats_96 (by decide) ?_
          refine lv_goto (tgt := 155) hx hb dX9_reckonFloats_97 (by decide) ?_
          refine lv_istore (lv' := [(6, .int 1), (5, .int r2), (4, .int r1), (0, .ref o), (1, .int 2), (2, .float x), (3, .float y)]) hx hb dX9_reckonFloats_155 hl (by decide) rfl (fun ls hl => ?_)
          refine lv_iload hx hb dX9_reckonFloats_157 (lv_at hl 0 rfl) ?_
          refine lv_if_eq (tgt := 168) hx hb dX9_reckonFloats_159 (by decide) (fun c46 => absurd c46 (by decide)) (fun c46 => ?_)
          exfalso
          have f1 := pz2 hr1 c6
          have f2 := (not_congr (z_iff32 hy9)).mp c26
          have f3 := pz2 hr2 c28
          have f4 := (z_iff32 hx9).mp c37
          have hv9 := (not_congr (nan_mul32 hx9 hy9)).mp (by rw [hv]; decide)
          exact hv9 (by omega)

set_option maxHeartbeats 8000000 in
set_option maxRecDepth 100000 in
theorem c9_rF_2_no (l : Launch) (G : va_G) (cy : Nat → ClassId) (L : List Nat) (F : Nat → va_E) (sz : Nat) (o : Nat) (qm : Nat → Nat) (th sp fa : Int32) (oc : Int64) (hmo : o ∈ L) (hFo : F o = .inr (8, [.int th, .ref (qm 0), .ref (qm 1), .ref (qm 2), .ref (qm 3), .ref (qm 4), .ref (qm 5), .ref (qm 6), .ref (qm 7), .int sp, .ref (qm 8), .ref (qm 9), .ref (qm 10), .ref (qm 11), .ref (qm 12), .ref (qm 13), .ref (qm 14), .int fa, .ref (qm 15), .long oc])) (x y : UInt32) (hx9 : FP.Core.val32 x ≠ .nan) (hy9 : FP.Core.val32 y ≠ .nan) (hv : FP.Core.fIsNaN (FP.fmul x y) = true)  : Met l yX9_reckonFloats wsX9_reckonFloats ({ frames := 2, cells := 0, slots := 0, locals := 44 }) (va_Pc [.ref o, .int 2, .float x, .float y] (fun U => bQ G cy L F sz U U.heap)) (va_Qv (fun F' : Nat → va_E => F' = va_up F o (.inr (8, [.int th, .ref (qm 0), .ref (qm 1), .ref (qm 2), .ref (qm 3), .ref (qm 4), .ref (qm 5), .ref (qm 6), .ref (qm 7), .int sp, .ref (qm 8), .ref (qm 9), .ref (qm 10), .ref (qm 11), .ref (qm 12), .ref (qm 13), .ref (qm 14), .int 5, .ref (qm 15), .long oc]))) (fun F' t => va_P G vwCl (va_pl L F') t.heap) (va_A (va_pl L F) sz)) 0 0 (va_A (va_pl L F) sz) := by
  refine Met.ofW (cc := cX9_reckonFloats) (maxL := 7) (ret := none) (by decide) rfl ?_
  intro p e s m args below meth c s₁ B hml hv
  obtain ⟨rfl, hsz, hP, hK, hD0⟩ := hv
  have hx := B.exec
  have hb := B.bytes
  have hr := B.returns
  have hts := atoms_spec (ws := wsX9_reckonFloats) B.pre
  have hown : s.vm.findClass RX9 = some m.cls := findClass_of_methodNamed B.named
  have hlocks := B.notSynchronized
  have hinX9 : ∀ w ∈ wsX90, w ∈ wsX9_reckonFloats := by decide +kernel
  subst hsz
  have hD := hD0.self F s.heap.size
  generalize hAe : va_A (va_pl L F) s.heap.size = A at hD ⊢
  have hA : ∀ q : Nat, s.heap.size ≤ q → A q := fun q h => by rw [← hAe]; exact Or.inr h
  have hS : va_S A s.heap s.heap [] := va_S.rf
  have hl := lv_entry ([.ref o, .int 2, .float x, .float y]) (n := 7) (Nat.le_of_ble_eq_true rfl)
  rw [lg_entry_eq]
  generalize (lg_sl ([.ref o, .int 2, .float x, .float y]) ++ List.replicate (7 - (lg_sl ([.ref o, .int 2, .float x, .float y])).length) Slot.unset).toArray = ls at hl ⊢
  have hl : lv_has ls 7 [(0, .ref o), (1, .int 2), (2, .float x), (3, .float y)] := hl
  refine lv_fload_n hx hb dX9_reckonFloats_0 rfl (lv_at hl 2 rfl) ?_
  refine vp_callSi (W.runS (As := [.float x]) (rest := []) ⟨hx, hb, hml, hown, hts⟩ (c9_isEndlessFloat l x hx9) (va_cwS 1 hts gX9_reckonFloats_X9_isEndlessFloat rfl rfl rfl (by decide +kernel) ⟨Nat.le_of_ble_eq_true rfl, Nat.le_of_ble_eq_true rfl⟩) (preS_of okT (trivial)) rfl rfl hl.1 rfl (lv_room (Nat.le_of_ble_eq_true rfl)) dX9_reckonFloats_1 ⟨Nat.le_of_ble_eq_true rfl, Nat.le_of_ble_eq_true rfl⟩) (fun r1 hr1 => ?_)
  refine lv_istore (lv' := [(4, .int r1), (0, .ref o), (1, .int 2), (2, .float x), (3, .float y)]) hx hb dX9_reckonFloats_4 hl (by decide) rfl (fun ls hl => ?_)
  refine lv_fload_n hx hb dX9_reckonFloats_6 rfl (lv_at hl 4 rfl) ?_
  refine vp_callSi (W.runS (As := [.float y]) (rest := []) ⟨hx, hb, hml, hown, hts⟩ (c9_isEndlessFloat l y hy9) (va_cwS 1 hts gX9_reckonFloats_X9_isEndlessFloat rfl rfl rfl (by decide +kernel) ⟨Nat.le_of_ble_eq_true rfl, Nat.le_of_ble_eq_true rfl⟩) (preS_of okT (trivial)) rfl rfl hl.1 rfl (lv_room (Nat.le_of_ble_eq_true rfl)) dX9_reckonFloats_7 ⟨Nat.le_of_ble_eq_true rfl, Nat.le_of_ble_eq_true rfl⟩) (fun r2 hr2 => ?_)
  refine lv_istore (lv' := [(5, .int r2), (4, .int r1), (0, .ref o), (1, .int 2), (2, .float x), (3, .float y)]) hx hb dX9_reckonFloats_10 hl (by decide) rfl (fun ls hl => ?_)
  refine lv_iload_n hx hb dX9_reckonFloats_12 rfl (lv_at hl 3 rfl) ?_
  refine lv_if_ne (tgt := 40) hx hb dX9_reckonFloats_13 (by decide) (fun c3 => ?_) (fun c3 => absurd c3 (by decide))
  refine lv_iload_n hx hb dX9_reckonFloats_40 rfl (lv_at hl 3 rfl) ?_
  refine lv_iconst (v := 1) hx hb dX9_reckonFloats_41 (by decide) ?_
  refine lv_icmp_ne (tgt := 69) hx hb dX9_reckonFloats_42 (by decide) (fun c4 => ?_) (fun c4 => absurd c4 (by decide))
  refine lv_iload_n hx hb dX9_reckonFloats_69 rfl (lv_at hl 3 rfl) ?_
  refine lv_iconst (v := 2) hx hb dX9_reckonFloats_70 (by decide) ?_
  refine lv_icmp_ne (tgt := 104) hx hb dX9_reckonFloats_71 (by decide) (fun c5 => absurd (by decide) c5) (fun c5 => ?_)
  refine lv_iload hx hb dX9_reckonFloats_74 (lv_at hl 1 rfl) ?_
  refine lv_if_eq (tgt := 85) hx hb dX9_reckonFloats_76 (by decide) (fun c6 => ?_) (fun c6 => ?_)
  · refine lv_iload hx hb dX9_reckonFloats_85 (lv_at hl 0 rfl) ?_
    refine lv_if_eq (tgt := 100) hx hb dX9_reckonFloats_87 (by decide) (fun c7 => ?_) (fun c7 => ?_)
    · refine lv_iconst (v := 0) hx hb dX9_reckonFloats_100 (by decide) ?_
      refine lv_goto (tgt := 155) hx hb dX9_reckonFloats_101 (by decide) ?_
      refine lv_istore (lv' := [(6, .int 0), (5, .int r2), (4, .int r1), (0, .ref o), (1, .int 2), (2, .float x), (3, .float y)]) hx hb dX9_reckonFloats_155 hl (by decide) rfl (fun ls hl => ?_)
      refine lv_iload hx hb dX9_reckonFloats_157 (lv_at hl 0 rfl) ?_
      refine lv_if_eq (tgt := 168) hx hb dX9_reckonFloats_159 (by decide) (fun c8 => ?_) (fun c8 => absurd (by decide) c8)
      exfalso
      have f1 := pz1 hr1 c6
      have f2 := pz1 hr2 c7
      have hv9 := (nan_mul32 hx9 hy9).mp hv
      omega
    · refine lv_fload_n hx hb dX9_reckonFloats_90 rfl (lv_at hl 4 rfl) ?_
      refine lv_fconst0 hx hb dX9_reckonFloats_91 ?_
      refine lv_fcmp hx hb dX9_reckonFloats_92 ?_
      refine lv_if_ne (tgt := 100) hx hb dX9_reckonFloats_93 (by decide) (fun c9 => ?_) (fun c9 => ?_)
      · refine lv_iconst (v := 0) hx hb dX9_reckonFloats_100 (by decide) ?_
        refine lv_goto (tgt := 155) hx hb dX9_reckonFloats_101 (by decide) ?_
        refine lv_istore (lv' := [(6, .int 0), (5, .int r2), (4, .int r1), (0, .ref o), (1, .int 2), (2, .float x), (3, .float y)]) hx hb dX9_reckonFloats_155 hl (by decide) rfl (fun ls hl => ?_)
        refine lv_iload hx hb dX9_reckonFloats_157 (lv_at hl 0 rfl) ?_
        refine lv_if_eq (tgt := 168) hx hb dX9_reckonFloats_159 (by decide) (fun c10 => ?_) (fun c10 => absurd (by decide) c10)
        exfalso
        have f1 := pz1 hr1 c6
        have f2 := pz2 hr2 c7
        have f3 := (not_congr (z_iff32 hx9)).mp c9
        have hv9 := (nan_mul32 hx9 hy9).mp hv
        omega
      · refine lv_iconst (v := 1) hx hb dX9_reckonFloats_96 (by decide) ?_
        refine lv_goto (tgt := 155) hx hb dX9_reckonFloats_97 (by decide) ?_
        refine lv_istore (lv' := [(6, .int 1), (5, .int r2), (4, .int r1), (0, .ref o), (1, .int 2), (2, .float x), (3, .float y)]) hx hb dX9_reckonFloats_155 hl (by decide) rfl (fun ls hl => ?_)
        refine lv_iload hx hb dX9_reckonFloats_157 (lv_at hl 0 rfl) ?_
        refine lv_if_eq (tgt := 168) hx hb dX9_reckonFloats_159 (by decide) (fun c11 => absurd c11 (by decide)) (fun c11 => ?_)
        refine lv_aload_n hx hb dX9_reckonFloats_162 rfl (lv_at hl 3 rfl) ?_
        refine lv_iconst (v := 5) hx hb dX9_reckonFloats_163 (by decide) ?_
        refine pg_put (ci := 8) (v := .int 5) (ty := .int) (C := RX9) (T := TX9) (N := 20) hx hb hts hinX9 tyX9 tyX9_ok nmX9 hown hK hP hD hS hmo hFo rfl 17 (by decide) (hts (.fieldLink RX9 65 "RopeDrumsModel" "failed" "I") (by decide +kernel)) (fun _ h9 => h9) rfl (by decide +kernel) (rfl) (rfl) (Nat.le_of_ble_eq_true rfl) dX9_reckonFloats_164 (fun H locs F12 eF12 hP hS => ?_)
        have eF12 : F12 = va_up F o (.inr (8, [.int th, .ref (qm 0), .ref (qm 1), .ref (qm 2), .ref (qm 3), .ref (qm 4), .ref (qm 5), .ref (qm 6), .ref (qm 7), .int sp, .ref (qm 8), .ref (qm 9), .ref (qm 10), .ref (qm 11), .ref (qm 12), .ref (qm 13), .ref (qm 14), .int 5, .ref (qm 15), .long oc])) := eF12
        have hFo_12 : F12 o = .inr (8, [.int th, .ref (qm 0), .ref (qm 1), .ref (qm 2), .ref (qm 3), .ref (qm 4), .ref (qm 5), .ref (qm 6), .ref (qm 7), .int sp, .ref (qm 8), .ref (qm 9), .ref (qm 10), .ref (qm 11), .ref (qm 12), .ref (qm 13), .ref (qm 14), .int 5, .ref (qm 15), .long oc]) := by rw [eF12]; exact va_up_self _ _ _
        exact W.vret hx hb hr (fun t ht hW => ⟨⟨F12, rfl, (by rw [eF12]), (by show va_P _ _ _ t.heap; rw [ht]; exact hP)⟩, hS.F ht⟩) hS.2.2 dX9_reckonFloats_167
  · refine lv_fload_n hx hb dX9_reckonFloats_79 rfl (lv_at hl 5 rfl) ?_
    refine lv_fconst0 hx hb dX9_reckonFloats_80 ?_
    refine lv_fcmp hx hb dX9_reckonFloats_81 ?_
    refine lv_if_eq (tgt := 96) hx hb dX9_reckonFloats_82 (by decide) (fun c13 => ?_) (fun c13 => ?_)
    · refine lv_iconst (v := 1) hx hb dX9_reckonFloats_96 (by decide) ?_
      refine lv_goto (tgt := 155) hx hb dX9_reckonFloats_97 (by decide) ?_
      refine lv_istore (lv' := [(6, .int 1), (5, .int r2), (4, .int r1), (0, .ref o), (1, .int 2), (2, .float x), (3, .float y)]) hx hb dX9_reckonFloats_155 hl (by decide) rfl (fun ls hl => ?_)
      refine lv_iload hx hb dX9_reckonFloats_157 (lv_at hl 0 rfl) ?_
      refine lv_if_eq (tgt := 168) hx hb dX9_reckonFloats_159 (by decide) (fun c14 => absurd c14 (by decide)) (fun c14 => ?_)
      refine lv_aload_n hx hb dX9_reckonFloats_162 rfl (lv_at hl 3 rfl) ?_
      refine lv_iconst (v := 5) hx hb dX9_reckonFloats_163 (by decide) ?_
      refine pg_put (ci := 8) (v := .int 5) (ty := .int) (C := RX9) (T := TX9) (N := 20) hx hb hts hinX9 tyX9 tyX9_ok nmX9 hown hK hP hD hS hmo hFo rfl 17 (by decide) (hts (.fieldLink RX9 65 "RopeDrumsModel" "failed" "I") (by decide +kernel)) (fun _ h9 => h9) rfl (by decide +kernel) (rfl) (rfl) (Nat.le_of_ble_eq_true rfl) dX9_reckonFloats_164 (fun H locs F15 eF15 hP hS => ?_)
      have eF15 : F15 = va_up F o (.inr (8, [.int th, .ref (qm 0), .ref (qm 1), .ref (qm 2), .ref (qm 3), .ref (qm 4), .ref (qm 5), .ref (qm 6), .ref (qm 7), .int sp, .ref (qm 8), .ref (qm 9), .ref (qm 10), .ref (qm 11), .ref (qm 12), .ref (qm 13), .ref (qm 14), .int 5, .ref (qm 15), .long oc])) := eF15
      have hFo_15 : F15 o = .inr (8, [.int th, .ref (qm 0), .ref (qm 1), .ref (qm 2), .ref (qm 3), .ref (qm 4), .ref (qm 5), .ref (qm 6), .ref (qm 7), .int sp, .ref (qm 8), .ref (qm 9), .ref (qm 10), .ref (qm 11), .ref (qm 12), .ref (qm 13), .ref (qm 14), .int 5, .ref (qm 15), .long oc]) := by rw [eF15]; exact va_up_self _ _ _
      exact W.vret hx hb hr (fun t ht hW => ⟨⟨F15, rfl, (by rw [eF15]), (by show va_P _ _ _ t.heap; rw [ht]; exact hP)⟩, hS.F ht⟩) hS.2.2 dX9_reckonFloats_167
    · refine lv_iload hx hb dX9_reckonFloats_85 (lv_at hl 0 rfl) ?_
      refine lv_if_eq (tgt := 100) hx hb dX9_reckonFloats_87 (by decide) (fun c16 => ?_) (fun c16 => ?_)
      · refine lv_iconst (v := 0) hx hb dX9_reckonFloats_100 (by decide) ?_
        refine lv_goto (tgt := 155) hx hb dX9_reckonFloats_101 (by decide) ?_
        refine lv_istore (lv' := [(6, .int 0), (5, .int r2), (4, .int r1), (0, .ref o), (1, .int 2), (2, .float x), (3, .float y)]) hx hb dX9_reckonFloats_155 hl (by decide) rfl (fun ls hl => ?_)
        refine lv_iload hx hb dX9_reckonFloats_157 (lv_at hl 0 rfl) ?_
        refine lv_if_eq (tgt := 168) hx hb dX9_reckonFloats_159 (by decide) (fun c17 => ?_) (fun c17 => absurd (by decide) c17)
        exfalso
        have f1 := pz2 hr1 c6
        have f2 := (not_congr (z_iff32 hy9)).mp c13
        have f3 := pz1 hr2 c16
        have hv9 := (nan_mul32 hx9 hy9).mp hv
        omega
      · refine lv_fload_n hx hb dX9_reckonFloats_90 rfl (lv_at hl 4 rfl) ?_
        refine lv_fconst0 hx hb dX9_reckonFloats_91 ?_
        refine lv_fcmp hx hb dX9_reckonFloats_92 ?_
        refine lv_if_ne (tgt := 100) hx hb dX9_reckonFloats_93 (by decide) (fun c18 => ?_) (fun c18 => ?_)
        · refine lv_iconst (v := 0) hx hb dX9_reckonFloats_100 (by decide) ?_
          refine lv_goto (tgt := 155) hx hb dX9_reckonFloats_101 (by decide) ?_
          refine lv_istore (lv' := [(6, .int 0), (5, .int r2), (4, .int r1), (0, .ref o), (1, .int 2), (2, .float x), (3, .float y)]) hx hb dX9_reckonFloats_155 hl (by decide) rfl (fun ls hl => ?_)
          refine lv_iload hx hb dX9_reckonFloats_157 (lv_at hl 0 rfl) ?_
          refine lv_if_eq (tgt := 168) hx hb dX9_reckonFloats_159 (by decide) (fun c19 => ?_) (fun c19 => absurd (by decide) c19)
          exfalso
          have f1 := pz2 hr1 c6
          have f2 := (not_congr (z_iff32 hy9)).mp c13
          have f3 := pz2 hr2 c16
          have f4 := (not_congr (z_iff32 hx9)).mp c18
          have hv9 := (nan_mul32 hx9 hy9).mp hv
          omega
        · refine lv_iconst (v := 1) hx hb dX9_reckonFloats_96 (by decide) ?_
          refine lv_goto (tgt := 155) hx hb dX9_reckonFloats_97 (by decide) ?_
          refine lv_istore (lv' := [(6, .int 1), (5, .int r2), (4, .int r1), (0, .ref o), (1, .int 2), (2, .float x), (3, .float y)]) hx hb dX9_reckonFloats_155 hl (by decide) rfl (fun ls hl => ?_)
          refine lv_iload hx hb dX9_reckonFloats_157 (lv_at hl 0 rfl) ?_
          refine lv_if_eq (tgt := 168) hx hb dX9_reckonFloats_159 (by decide) (fun c20 => absurd c20 (by decide)) (fun c20 => ?_)
          refine lv_aload_n hx hb dX9_reckonFloats_162 rfl (lv_at hl 3 rfl) ?_
          refine lv_iconst (v := 5) hx hb dX9_reckonFloats_163 (by decide) ?_
          refine pg_put (ci := 8) (v := .int 5) (ty := .int) (C := RX9) (T := TX9) (N := 20) hx hb hts hinX9 tyX9 tyX9_ok nmX9 hown hK hP hD hS hmo hFo rfl 17 (by decide) (hts (.fieldLink RX9 65 "RopeDrumsModel" "failed" "I") (by decide +kernel)) (fun _ h9 => h9) rfl (by decide +kernel) (rfl) (rfl) (Nat.le_of_ble_eq_true rfl) dX9_reckonFloats_164 (fun H locs F21 eF21 hP hS => ?_)
          have eF21 : F21 = va_up F o (.inr (8, [.int th, .ref (qm 0), .ref (qm 1), .ref (qm 2), .ref (qm 3), .ref (qm 4), .ref (qm 5), .ref (qm 6), .ref (qm 7), .int sp, .ref (qm 8), .ref (qm 9), .ref (qm 10), .ref (qm 11), .ref (qm 12), .ref (qm 13), .ref (qm 14), .int 5, .ref (qm 15), .long oc])) := eF21
          have hFo_21 : F21 o = .inr (8, [.int th, .ref (qm 0), .ref (qm 1), .ref (qm 2), .ref (qm 3), .ref (qm 4), .ref (qm 5), .ref (qm 6), .ref (qm 7), .int sp, .ref (qm 8), .ref (qm 9), .ref (qm 10), .ref (qm 11), .ref (qm 12), .ref (qm 13), .ref (qm 14), .int 5, .ref (qm 15), .long oc]) := by rw [eF21]; exact va_up_self _ _ _
          exact W.vret hx hb hr (fun t ht hW => ⟨⟨F21, rfl, (by rw [eF21]), (by show va_P _ _ _ t.heap; rw [ht]; exact hP)⟩, hS.F ht⟩) hS.2.2 dX9_reckonFloats_167

set_option maxHeartbeats 8000000 in
set_option maxRecDepth 100000 in
theorem c9_rF_3 (l : Launch) (G : va_G) (cy : Nat → ClassId) (L : List Nat) (F : Nat → va_E) (sz : Nat) (o : Nat) (qm : Nat → Nat) (th sp fa : Int32) (oc : Int64) (hmo : o ∈ L) (hFo : F o = .inr (8, [.int th, .ref (qm 0), .ref (qm 1), .ref (qm 2), .ref (qm 3), .ref (qm 4), .ref (qm 5), .ref (qm 6), .ref (qm 7), .int sp, .ref (qm 8), .ref (qm 9), .ref (qm 10), .ref (qm 11), .ref (qm 12), .ref (qm 13), .ref (qm 14), .int fa, .ref (qm 15), .long oc])) (x y : UInt32) (hx9 : FP.Core.val32 x ≠ .nan) (hy9 : FP.Core.val32 y ≠ .nan) (hv : FP.Core.fIsNaN (FP.fdiv x y) = false)  : Met l yX9_reckonFloats wsX9_reckonFloats ({ frames := 2, cells := 0, slots := 0, locals := 44 }) (va_Pc [.ref o, .int 3, .float x, .float y] (fun U => bQ G cy L F sz U U.heap)) (va_Qv (fun F' : Nat → va_E => F' = va_up F o (.inr (8, [.int th, .ref (qm 0), .ref (qm 1), .ref (qm 2), .ref (qm 3), .ref (qm 4), .ref (qm 5), .ref (qm 6), .ref (qm 7), .int sp, .ref (qm 8), .ref (qm 9), .ref (qm 10), .ref (qm 11), .ref (qm 12), .ref (qm 13), .ref (qm 14), .int fa, .ref (qm 15), .long ((FP.fdiv x y).toInt32.toInt64)]))) (fun F' t => va_P G vwCl (va_pl L F') t.heap) (va_A (va_pl L F) sz)) 0 0 (va_A (va_pl L F) sz) := by
  refine Met.ofW (cc := cX9_reckonFloats) (maxL := 7) (ret := none) (by decide) rfl ?_
  intro p e s m args below meth c s₁ B hml hv
  obtain ⟨rfl, hsz, hP, hK, hD0⟩ := hv
  have hx := B.exec
  have hb := B.bytes
  have hr := B.returns
  have hts := atoms_spec (ws := wsX9_reckonFloats) B.pre
  have hown : s.vm.findClass RX9 = some m.cls := findClass_of_methodNamed B.named
  have hlocks := B.notSynchronized
  have hinX9 : ∀ w ∈ wsX90, w ∈ wsX9_reckonFloats := by decide +kernel
  subst hsz
  have hD := hD0.self F s.heap.size
  generalize hAe : va_A (va_pl L F) s.heap.size = A at hD ⊢
  have hA : ∀ q : Nat, s.heap.size ≤ q → A q := fun q h => by rw [← hAe]; exact Or.inr h
  have hS : va_S A s.heap s.heap [] := va_S.rf
  have hl := lv_entry ([.ref o, .int 3, .float x, .float y]) (n := 7) (Nat.le_of_ble_eq_true rfl)
  rw [lg_entry_eq]
  generalize (lg_sl ([.ref o, .int 3, .float x, .float y]) ++ List.replicate (7 - (lg_sl ([.ref o, .int 3, .float x, .float y])).length) Slot.unset).toArray = ls at hl ⊢
  have hl : lv_has ls 7 [(0, .ref o), (1, .int 3), (2, .float x), (3, .float y)] := hl
  refine lv_fload_n hx hb dX9_reckonFloats_0 rfl (lv_at hl 2 rfl) ?_
  refine vp_callSi (W.runS (As := [.float x]) (rest := []) ⟨hx, hb, hml, hown, hts⟩ (c9_isEndlessFloat l x hx9) (va_cwS 1 hts gX9_reckonFloats_X9_isEndlessFloat rfl rfl rfl (by decide +kernel) ⟨Nat.le_of_ble_eq_true rfl, Nat.le_of_ble_eq_true rfl⟩) (preS_of okT (trivial)) rfl rfl hl.1 rfl (lv_room (Nat.le_of_ble_eq_true rfl)) dX9_reckonFloats_1 ⟨Nat.le_of_ble_eq_true rfl, Nat.le_of_ble_eq_true rfl⟩) (fun r1 hr1 => ?_)
  refine lv_istore (lv' := [(4, .int r1), (0, .ref o), (1, .int 3), (2, .float x), (3, .float y)]) hx hb dX9_reckonFloats_4 hl (by decide) rfl (fun ls hl => ?_)
  refine lv_fload_n hx hb dX9_reckonFloats_6 rfl (lv_at hl 4 rfl) ?_
  refine vp_callSi (W.runS (As := [.float y]) (rest := []) ⟨hx, hb, hml, hown, hts⟩ (c9_isEndlessFloat l y hy9) (va_cwS 1 hts gX9_reckonFloats_X9_isEndlessFloat rfl rfl rfl (by decide +kernel) ⟨Nat.le_of_ble_eq_true rfl, Nat.le_of_ble_eq_true rfl⟩) (preS_of okT (trivial)) rfl rfl hl.1 rfl (lv_room (Nat.le_of_ble_eq_true rfl)) dX9_reckonFloats_7 ⟨Nat.le_of_ble_eq_true rfl, Nat.le_of_ble_eq_true rfl⟩) (fun r2 hr2 => ?_)
  refine lv_istore (lv' := [(5, .int r2), (4, .int r1), (0, .ref o), (1, .int 3), (2, .float x), (3, .float y)]) hx hb dX9_reckonFloats_10 hl (by decide) rfl (fun ls hl => ?_)
  refine lv_iload_n hx hb dX9_reckonFloats_12 rfl (lv_at hl 3 rfl) ?_
  refine lv_if_ne (tgt := 40) hx hb dX9_reckonFloats_13 (by decide) (fun c3 => ?_) (fun c3 => absurd c3 (by decide))
  refine lv_iload_n hx hb dX9_reckonFloats_40 rfl (lv_at hl 3 rfl) ?_
  refine lv_iconst (v := 1) hx hb dX9_reckonFloats_41 (by decide) ?_
  refine lv_icmp_ne (tgt := 69) hx hb dX9_reckonFloats_42 (by decide) (fun c4 => ?_) (fun c4 => absurd c4 (by decide))
  refine lv_iload_n hx hb dX9_reckonFloats_69 rfl (lv_at hl 3 rfl) ?_
  refine lv_iconst (v := 2) hx hb dX9_reckonFloats_70 (by decide) ?_
  refine lv_icmp_ne (tgt := 104) hx hb dX9_reckonFloats_71 (by decide) (fun c5 => ?_) (fun c5 => absurd c5 (by decide))
  refine lv_iload_n hx hb dX9_reckonFloats_104 rfl (lv_at hl 3 rfl) ?_
  refine lv_iconst (v := 3) hx hb dX9_reckonFloats_105 (by decide) ?_
  refine lv_icmp_ne (tgt := 139) hx hb dX9_reckonFloats_106 (by decide) (fun c6 => absurd (by decide) c6) (fun c6 => ?_)
  refine lv_iload hx hb dX9_reckonFloats_109 (lv_at hl 1 rfl) ?_
  refine lv_if_eq (tgt := 119) hx hb dX9_reckonFloats_111 (by decide) (fun c7 => ?_) (fun c7 => ?_)
  · refine lv_fload_n hx hb dX9_reckonFloats_119 rfl (lv_at hl 4 rfl) ?_
    refine lv_fconst0 hx hb dX9_reckonFloats_120 ?_
    refine lv_fcmp hx hb dX9_reckonFloats_121 ?_
    refine lv_if_ne (tgt := 135) hx hb dX9_reckonFloats_122 (by decide) (fun c8 => ?_) (fun c8 => ?_)
    · refine lv_iconst (v := 0) hx hb dX9_reckonFloats_135 (by decide) ?_
      refine lv_goto (tgt := 155) hx hb dX9_reckonFloats_136 (by decide) ?_
      refine lv_istore (lv' := [(6, .int 0), (5, .int r2), (4, .int r1), (0, .ref o), (1, .int 3), (2, .float x), (3, .float y)]) hx hb dX9_reckonFloats_155 hl (by decide) rfl (fun ls hl => ?_)
      refine lv_iload hx hb dX9_reckonFloats_157 (lv_at hl 0 rfl) ?_
      refine lv_if_eq (tgt := 168) hx hb dX9_reckonFloats_159 (by decide) (fun c9 => ?_) (fun c9 => absurd (by decide) c9)
      refine lv_aload_n hx hb dX9_reckonFloats_168 rfl (lv_at hl 3 rfl) ?_
      refine lv_iload_n hx hb dX9_reckonFloats_169 rfl (lv_at hl 4 rfl) ?_
      refine lv_if_ne (tgt := 179) hx hb dX9_reckonFloats_170 (by decide) (fun c10 => ?_) (fun c10 => absurd c10 (by decide))
      refine lv_iload_n hx hb dX9_reckonFloats_179 rfl (lv_at hl 4 rfl) ?_
      refine lv_iconst (v := 1) hx hb dX9_reckonFloats_180 (by decide) ?_
      refine lv_icmp_ne (tgt := 190) hx hb dX9_reckonFloats_181 (by decide) (fun c11 => ?_) (fun c11 => absurd c11 (by decide))
      refine lv_iload_n hx hb dX9_reckonFloats_190 rfl (lv_at hl 4 rfl) ?_
      refine lv_iconst (v := 2) hx hb dX9_reckonFloats_191 (by decide) ?_
      refine lv_icmp_ne (tgt := 201) hx hb dX9_reckonFloats_192 (by decide) (fun c12 => ?_) (fun c12 => absurd c12 (by decide))
      refine lv_iload_n hx hb dX9_reckonFloats_201 rfl (lv_at hl 4 rfl) ?_
      refine lv_iconst (v := 3) hx hb dX9_reckonFloats_202 (by decide) ?_
      refine lv_icmp_ne (tgt := 212) hx hb dX9_reckonFloats_203 (by decide) (fun c13 => absurd (by decide) c13) (fun c13 => ?_)
      refine lv_fload_n hx hb dX9_reckonFloats_206 rfl (lv_at hl 5 rfl) ?_
      refine lv_fload_n hx hb dX9_reckonFloats_207 rfl (lv_at hl 6 rfl) ?_
      refine lv_fdiv hx hb dX9_reckonFloats_208 (n32.mpr ((FP.Core.notNaN_iff32 _).mp hv)) ?_
      refine lv_topf (fun v14 ev14 => ?_)
      refine lv_goto (tgt := 224) hx hb dX9_reckonFloats_209 (by decide) ?_
      refine vp_callSi (W.runS (As := [.float v14]) (rest := [.ref o]) ⟨hx, hb, hml, hown, hts⟩ (c9_f2ib l v14 (by rw [ev14]; exact (FP.Core.notNaN_iff32 _).mp hv)) (va_cwS 1 hts gX9_reckonFloats_Jxf58ca_floatToIntBits_5c35a rfl rfl rfl (by decide +kernel) ⟨Nat.le_of_ble_eq_true rfl, Nat.le_of_ble_eq_true rfl⟩) (preS_of okT (trivial)) rfl rfl hl.1 rfl (lv_room (Nat.le_of_ble_eq_true rfl)) dX9_reckonFloats_224 ⟨Nat.le_of_ble_eq_true rfl, Nat.le_of_ble_eq_true rfl⟩) (fun r15 hr15 => ?_)
      refine lv_i2l hx hb dX9_reckonFloats_227 rfl ?_
      refine lv_topl (fun v16 ev16 => ?_)
      refine pg_put (ci := 8) (v := .long v16) (ty := .long) (C := RX9) (T := TX9) (N := 20) hx hb hts hinX9 tyX9 tyX9_ok nmX9 hown hK hP hD hS hmo hFo rfl 19 (by decide) (hts (.fieldLink RX9 131 "RopeDrumsModel" "outcome" "J") (by decide +kernel)) (fun _ h9 => h9) rfl (by decide +kernel) (rfl) (rfl) (Nat.le_of_ble_eq_true rfl) dX9_reckonFloats_228 (fun H locs F17 eF17 hP hS => ?_)
      have eF17 : F17 = va_up F o (.inr (8, [.int th, .ref (qm 0), .ref (qm 1), .ref (qm 2), .ref (qm 3), .ref (qm 4), .ref (qm 5), .ref (qm 6), .ref (qm 7), .int sp, .ref (qm 8), .ref (qm 9), .ref (qm 10), .ref (qm 11), .ref (qm 12), .ref (qm 13), .ref (qm 14), .int fa, .ref (qm 15), .long v16])) := eF17
      have hFo_17 : F17 o = .inr (8, [.int th, .ref (qm 0), .ref (qm 1), .ref (qm 2), .ref (qm 3), .ref (qm 4), .ref (qm 5), .ref (qm 6), .ref (qm 7), .int sp, .ref (qm 8), .ref (qm 9), .ref (qm 10), .ref (qm 11), .ref (qm 12), .ref (qm 13), .ref (qm 14), .int fa, .ref (qm 15), .long v16]) := by rw [eF17]; exact va_up_self _ _ _
      exact W.vret hx hb hr (fun t ht hW => ⟨⟨F17, rfl, (by rw [eF17]; rw [ev16, hr15, ev14]), (by show va_P _ _ _ t.heap; rw [ht]; exact hP)⟩, hS.F ht⟩) hS.2.2 dX9_reckonFloats_231
    · refine lv_fload_n hx hb dX9_reckonFloats_125 rfl (lv_at hl 5 rfl) ?_
      refine lv_fconst0 hx hb dX9_reckonFloats_126 ?_
      refine lv_fcmp hx hb dX9_reckonFloats_127 ?_
      refine lv_if_ne (tgt := 135) hx hb dX9_reckonFloats_128 (by decide) (fun c18 => ?_) (fun c18 => ?_)
      · refine lv_iconst (v := 0) hx hb dX9_reckonFloats_135 (by decide) ?_
        refine lv_goto (tgt := 155) hx hb dX9_reckonFloats_136 (by decide) ?_
        refine lv_istore (lv' := [(6, .int 0), (5, .int r2), (4, .int r1), (0, .ref o), (1, .int 3), (2, .float x), (3, .float y)]) hx hb dX9_reckonFloats_155 hl (by decide) rfl (fun ls hl => ?_)
        refine lv_iload hx hb dX9_reckonFloats_157 (lv_at hl 0 rfl) ?_
        refine lv_if_eq (tgt := 168) hx hb dX9_reckonFloats_159 (by decide) (fun c19 => ?_) (fun c19 => absurd (by decide) c19)
        refine lv_aload_n hx hb dX9_reckonFloats_168 rfl (lv_at hl 3 rfl) ?_
        refine lv_iload_n hx hb dX9_reckonFloats_169 rfl (lv_at hl 4 rfl) ?_
        refine lv_if_ne (tgt := 179) hx hb dX9_reckonFloats_170 (by decide) (fun c20 => ?_) (fun c20 => absurd c20 (by decide))
        refine lv_iload_n hx hb dX9_reckonFloats_179 rfl (lv_at hl 4 rfl) ?_
        refine lv_iconst (v := 1) hx hb dX9_reckonFloats_180 (by decide) ?_
        refine lv_icmp_ne (tgt := 190) hx hb dX9_reckonFloats_181 (by decide) (fun c21 => ?_) (fun c21 => absurd c21 (by decide))
        refine lv_iload_n hx hb dX9_reckonFloats_190 rfl (lv_at hl 4 rfl) ?_
        refine lv_iconst (v := 2) hx hb dX9_reckonFloats_191 (by decide) ?_
        refine lv_icmp_ne (tgt := 201) hx hb dX9_reckonFloats_192 (by decide) (fun c22 => ?_) (fun c22 => absurd c22 (by decide))
        refine lv_iload_n hx hb dX9_reckonFloats_201 rfl (lv_at hl 4 rfl) ?_
        refine lv_iconst (v := 3) hx hb dX9_reckonFloats_202 (by decide) ?_
        refine lv_icmp_ne (tgt := 212) hx hb dX9_reckonFloats_203 (by decide) (fun c23 => absurd (by decide) c23) (fun c23 => ?_)
        refine lv_fload_n hx hb dX9_reckonFloats_206 rfl (lv_at hl 5 rfl) ?_
        refine lv_fload_n hx hb dX9_reckonFloats_207 rfl (lv_at hl 6 rfl) ?_
        refine lv_fdiv hx hb dX9_reckonFloats_208 (n32.mpr ((FP.Core.notNaN_iff32 _).mp hv)) ?_
        refine lv_topf (fun v24 ev24 => ?_)
        refine lv_goto (tgt := 224) hx hb dX9_reckonFloats_209 (by decide) ?_
        refine vp_callSi (W.runS (As := [.float v24]) (rest := [.ref o]) ⟨hx, hb, hml, hown, hts⟩ (c9_f2ib l v24 (by rw [ev24]; exact (FP.Core.notNaN_iff32 _).mp hv)) (va_cwS 1 hts gX9_reckonFloats_Jxf58ca_floatToIntBits_5c35a rfl rfl rfl (by decide +kernel) ⟨Nat.le_of_ble_eq_true rfl, Nat.le_of_ble_eq_true rfl⟩) (preS_of okT (trivial)) rfl rfl hl.1 rfl (lv_room (Nat.le_of_ble_eq_true rfl)) dX9_reckonFloats_224 ⟨Nat.le_of_ble_eq_true rfl, Nat.le_of_ble_eq_true rfl⟩) (fun r25 hr25 => ?_)
        refine lv_i2l hx hb dX9_reckonFloats_227 rfl ?_
        refine lv_topl (fun v26 ev26 => ?_)
        refine pg_put (ci := 8) (v := .long v26) (ty := .long) (C := RX9) (T := TX9) (N := 20) hx hb hts hinX9 tyX9 tyX9_ok nmX9 hown hK hP hD hS hmo hFo rfl 19 (by decide) (hts (.fieldLink RX9 131 "RopeDrumsModel" "outcome" "J") (by decide +kernel)) (fun _ h9 => h9) rfl (by decide +kernel) (rfl) (rfl) (Nat.le_of_ble_eq_true rfl) dX9_reckonFloats_228 (fun H locs F27 eF27 hP hS => ?_)
        have eF27 : F27 = va_up F o (.inr (8, [.int th, .ref (qm 0), .ref (qm 1), .ref (qm 2), .ref (qm 3), .ref (qm 4), .ref (qm 5), .ref (qm 6), .ref (qm 7), .int sp, .ref (qm 8), .ref (qm 9), .ref (qm 10), .ref (qm 11), .ref (qm 12), .ref (qm 13), .ref (qm 14), .int fa, .ref (qm 15), .long v26])) := eF27
        have hFo_27 : F27 o = .inr (8, [.int th, .ref (qm 0), .ref (qm 1), .ref (qm 2), .ref (qm 3), .ref (qm 4), .ref (qm 5), .ref (qm 6), .ref (qm 7), .int sp, .ref (qm 8), .ref (qm 9), .ref (qm 10), .ref (qm 11), .ref (qm 12), .ref (qm 13), .ref (qm 14), .int fa, .ref (qm 15), .long v26]) := by rw [eF27]; exact va_up_self _ _ _
        exact W.vret hx hb hr (fun t ht hW => ⟨⟨F27, rfl, (by rw [eF27]; rw [ev26, hr25, ev24]), (by show va_P _ _ _ t.heap; rw [ht]; exact hP)⟩, hS.F ht⟩) hS.2.2 dX9_reckonFloats_231
      · refine lv_iconst (v := 1) hx hb dX9_reckonFloats_131 (by decide) ?_
        refine lv_goto (tgt := 155) hx hb dX9_reckonFloats_132 (by decide) ?_
        refine lv_istore (lv' := [(6, .int 1), (5, .int r2), (4, .int r1), (0, .ref o), (1, .int 3), (2, .float x), (3, .float y)]) hx hb dX9_reckonFloats_155 hl (by decide) rfl (fun ls hl => ?_)
        refine lv_iload hx hb dX9_reckonFloats_157 (lv_at hl 0 rfl) ?_
        refine lv_if_eq (tgt := 168) hx hb dX9_reckonFloats_159 (by decide) (fun c28 => absurd c28 (by decide)) (fun c28 => ?_)
        exfalso
        have f1 := pz1 hr1 c7
        have f2 := (z_iff32 hx9).mp c8
        have f3 := (z_iff32 hy9).mp c18
        have hv9 := (not_congr (nan_div32 hx9 hy9)).mp (by rw [hv]; decide)
        exact hv9 (by omega)
  · refine lv_iload hx hb dX9_reckonFloats_114 (lv_at hl 0 rfl) ?_
    refine lv_if_ne (tgt := 131) hx hb dX9_reckonFloats_116 (by decide) (fun c29 => ?_) (fun c29 => ?_)
    · refine lv_iconst (v := 1) hx hb dX9_reckonFloats_131 (by decide) ?_
      refine lv_goto (tgt := 155) hx hb dX9_reckonFloats_132 (by decide) ?_
      refine lv_istore (lv' := [(6, .int 1), (5, .int r2), (4, .int r1), (0, .ref o), (1, .int 3), (2, .float x), (3, .float y)]) hx hb dX9_reckonFloats_155 hl (by decide) rfl (fun ls hl => ?_)
      refine lv_iload hx hb dX9_reckonFloats_157 (lv_at hl 0 rfl) ?_
      refine lv_if_eq (tgt := 168) hx hb dX9_reckonFloats_159 (by decide) (fun c30 => absurd c30 (by decide)) (fun c30 => ?_)
      exfalso
      have f1 := pz2 hr1 c7
      have f2 := pz2 hr2 c29
      have hv9 := (not_congr (nan_div32 hx9 hy9)).mp (by rw [hv]; decide)
      exact hv9 (by omega)
    · refine lv_fload_n hx hb dX9_reckonFloats_119 rfl (lv_at hl 4 rfl) ?_
      refine lv_fconst0 hx hb dX9_reckonFloats_120 ?_
      refine lv_fcmp hx hb dX9_reckonFloats_121 ?_
      refine lv_if_ne (tgt := 135) hx hb dX9_reckonFloats_122 (by decide) (fun c31 => ?_) (fun c31 => ?_)
      · refine lv_iconst (v := 0) hx hb dX9_reckonFloats_135 (by decide) ?_
        refine lv_goto (tgt := 155) hx hb dX9_reckonFloats_136 (by decide) ?_
        refine lv_istore (lv' := [(6, .int 0), (5, .int r2), (4, .int r1), (0, .ref o), (1, .int 3), (2, .float x), (3, .float y)]) hx hb dX9_reckonFloats_155 hl (by decide) rfl (fun ls hl => ?_)
        refine lv_iload hx hb dX9_reckonFloats_157 (lv_at hl 0 rfl) ?_
        refine lv_if_eq (tgt := 168) hx hb dX9_reckonFloats_159 (by decide) (fun c32 => ?_) (fun c32 => absurd (by decide) c32)
        refine lv_aload_n hx hb dX9_reckonFloats_168 rfl (lv_at hl 3 rfl) ?_
        refine lv_iload_n hx hb dX9_reckonFloats_169 rfl (lv_at hl 4 rfl) ?_
        refine lv_if_ne (tgt := 179) hx hb dX9_reckonFloats_170 (by decide) (fun c33 => ?_) (fun c33 => absurd c33 (by decide))
        refine lv_iload_n hx hb dX9_reckonFloats_179 rfl (lv_at hl 4 rfl) ?_
        refine lv_iconst (v := 1) hx hb dX9_reckonFloats_180 (by decide) ?_
        refine lv_icmp_ne (tgt := 190) hx hb dX9_reckonFloats_181 (by decide) (fun c34 => ?_) (fun c34 => absurd c34 (by decide))
        refine lv_iload_n hx hb dX9_reckonFloats_190 rfl (lv_at hl 4 rfl) ?_
        refine lv_iconst (v := 2) hx hb dX9_reckonFloats_191 (by decide) ?_
        refine lv_icmp_ne (tgt := 201) hx hb dX9_reckonFloats_192 (by decide) (fun c35 => ?_) (fun c35 => absurd c35 (by decide))
        refine lv_iload_n hx hb dX9_reckonFloats_201 rfl (lv_at hl 4 rfl) ?_
        refine lv_iconst (v := 3) hx hb dX9_reckonFloats_202 (by decide) ?_
        refine lv_icmp_ne (tgt := 212) hx hb dX9_reckonFloats_203 (by decide) (fun c36 => absurd (by decide) c36) (fun c36 => ?_)
        refine lv_fload_n hx hb dX9_reckonFloats_206 rfl (lv_at hl 5 rfl) ?_
        refine lv_fload_n hx hb dX9_reckonFloats_207 rfl (lv_at hl 6 rfl) ?_
        refine lv_fdiv hx hb dX9_reckonFloats_208 (n32.mpr ((FP.Core.notNaN_iff32 _).mp hv)) ?_
        refine lv_topf (fun v37 ev37 => ?_)
        refine lv_goto (tgt := 224) hx hb dX9_reckonFloats_209 (by decide) ?_
        refine vp_callSi (W.runS (As := [.float v37]) (rest := [.ref o]) ⟨hx, hb, hml, hown, hts⟩ (c9_f2ib l v37 (by rw [ev37]; exact (FP.Core.notNaN_iff32 _).mp hv)) (va_cwS 1 hts gX9_reckonFloats_Jxf58ca_floatToIntBits_5c35a rfl rfl rfl (by decide +kernel) ⟨Nat.le_of_ble_eq_true rfl, Nat.le_of_ble_eq_true rfl⟩) (preS_of okT (trivial)) rfl rfl hl.1 rfl (lv_room (Nat.le_of_ble_eq_true rfl)) dX9_reckonFloats_224 ⟨Nat.le_of_ble_eq_true rfl, Nat.le_of_ble_eq_true rfl⟩) (fun r38 hr38 => ?_)
        refine lv_i2l hx hb dX9_reckonFloats_227 rfl ?_
        refine lv_topl (fun v39 ev39 => ?_)
        refine pg_put (ci := 8) (v := .long v39) (ty := .long) (C := RX9) (T := TX9) (N := 20) hx hb hts hinX9 tyX9 tyX9_ok nmX9 hown hK hP hD hS hmo hFo rfl 19 (by decide) (hts (.fieldLink RX9 131 "RopeDrumsModel" "outcome" "J") (by decide +kernel)) (fun _ h9 => h9) rfl (by decide +kernel) (rfl) (rfl) (Nat.le_of_ble_eq_true rfl) dX9_reckonFloats_228 (fun H locs F40 eF40 hP hS => ?_)
        have eF40 : F40 = va_up F o (.inr (8, [.int th, .ref (qm 0), .ref (qm 1), .ref (qm 2), .ref (qm 3), .ref (qm 4), .ref (qm 5), .ref (qm 6), .ref (qm 7), .int sp, .ref (qm 8), .ref (qm 9), .ref (qm 10), .ref (qm 11), .ref (qm 12), .ref (qm 13), .ref (qm 14), .int fa, .ref (qm 15), .long v39])) := eF40
        have hFo_40 : F40 o = .inr (8, [.int th, .ref (qm 0), .ref (qm 1), .ref (qm 2), .ref (qm 3), .ref (qm 4), .ref (qm 5), .ref (qm 6), .ref (qm 7), .int sp, .ref (qm 8), .ref (qm 9), .ref (qm 10), .ref (qm 11), .ref (qm 12), .ref (qm 13), .ref (qm 14), .int fa, .ref (qm 15), .long v39]) := by rw [eF40]; exact va_up_self _ _ _
        exact W.vret hx hb hr (fun t ht hW => ⟨⟨F40, rfl, (by rw [eF40]; rw [ev39, hr38, ev37]), (by show va_P _ _ _ t.heap; rw [ht]; exact hP)⟩, hS.F ht⟩) hS.2.2 dX9_reckonFloats_231
      · refine lv_fload_n hx hb dX9_reckonFloats_125 rfl (lv_at hl 5 rfl) ?_
        refine lv_fconst0 hx hb dX9_reckonFloats_126 ?_
        refine lv_fcmp hx hb dX9_reckonFloats_127 ?_
        refine lv_if_ne (tgt := 135) hx hb dX9_reckonFloats_128 (by decide) (fun c41 => ?_) (fun c41 => ?_)
        · refine lv_iconst (v := 0) hx hb dX9_reckonFloats_135 (by decide) ?_
          refine lv_goto (tgt := 155) hx hb dX9_reckonFloats_136 (by decide) ?_
          refine lv_istore (lv' := [(6, .int 0), (5, .int r2), (4, .int r1), (0, .ref o), (1, .int 3), (2, .float x), (3, .float y)]) hx hb dX9_reckonFloats_155 hl (by decide) rfl (fun ls hl => ?_)
          refine lv_iload hx hb dX9_reckonFloats_157 (lv_at hl 0 rfl) ?_
          refine lv_if_eq (tgt := 168) hx hb dX9_reckonFloats_159 (by decide) (fun c42 => ?_) (fun c42 => absurd (by decide) c42)
          refine lv_aload_n hx hb dX9_reckonFloats_168 rfl (lv_at hl 3 rfl) ?_
          refine lv_iload_n hx hb dX9_reckonFloats_169 rfl (lv_at hl 4 rfl) ?_
          refine lv_if_ne (tgt := 179) hx hb dX9_reckonFloats_170 (by decide) (fun c43 => ?_) (fun c43 => absurd c43 (by decide))
          refine lv_iload_n hx hb dX9_reckonFloats_179 rfl (lv_at hl 4 rfl) ?_
          refine lv_iconst (v := 1) hx hb dX9_reckonFloats_180 (by decide) ?_
          refine lv_icmp_ne (tgt := 190) hx hb dX9_reckonFloats_181 (by decide) (fun c44 => ?_) (fun c44 => absurd c44 (by decide))
          refine lv_iload_n hx hb dX9_reckonFloats_190 rfl (lv_at hl 4 rfl) ?_
          refine lv_iconst (v := 2) hx hb dX9_reckonFloats_191 (by decide) ?_
          refine lv_icmp_ne (tgt := 201) hx hb dX9_reckonFloats_192 (by decide) (fun c45 => ?_) (fun c45 => absurd c45 (by decide))
          refine lv_iload_n hx hb dX9_reckonFloats_201 rfl (lv_at hl 4 rfl) ?_
          refine lv_iconst (v := 3) hx hb dX9_reckonFloats_202 (by decide) ?_
          refine lv_icmp_ne (tgt := 212) hx hb dX9_reckonFloats_203 (by decide) (fun c46 => absurd (by decide) c46) (fun c46 => ?_)
          refine lv_fload_n hx hb dX9_reckonFloats_206 rfl (lv_at hl 5 rfl) ?_
          refine lv_fload_n hx hb dX9_reckonFloats_207 rfl (lv_at hl 6 rfl) ?_
          refine lv_fdiv hx hb dX9_reckonFloats_208 (n32.mpr ((FP.Core.notNaN_iff32 _).mp hv)) ?_
          refine lv_topf (fun v47 ev47 => ?_)
          refine lv_goto (tgt := 224) hx hb dX9_reckonFloats_209 (by decide) ?_
          refine vp_callSi (W.runS (As := [.float v47]) (rest := [.ref o]) ⟨hx, hb, hml, hown, hts⟩ (c9_f2ib l v47 (by rw [ev47]; exact (FP.Core.notNaN_iff32 _).mp hv)) (va_cwS 1 hts gX9_reckonFloats_Jxf58ca_floatToIntBits_5c35a rfl rfl rfl (by decide +kernel) ⟨Nat.le_of_ble_eq_true rfl, Nat.le_of_ble_eq_true rfl⟩) (preS_of okT (trivial)) rfl rfl hl.1 rfl (lv_room (Nat.le_of_ble_eq_true rfl)) dX9_reckonFloats_224 ⟨Nat.le_of_ble_eq_true rfl, Nat.le_of_ble_eq_true rfl⟩) (fun r48 hr48 => ?_)
          refine lv_i2l hx hb dX9_reckonFloats_227 rfl ?_
          refine lv_topl (fun v49 ev49 => ?_)
          refine pg_put (ci := 8) (v := .long v49) (ty := .long) (C := RX9) (T := TX9) (N := 20) hx hb hts hinX9 tyX9 tyX9_ok nmX9 hown hK hP hD hS hmo hFo rfl 19 (by decide) (hts (.fieldLink RX9 131 "RopeDrumsModel" "outcome" "J") (by decide +kernel)) (fun _ h9 => h9) rfl (by decide +kernel) (rfl) (rfl) (Nat.le_of_ble_eq_true rfl) dX9_reckonFloats_228 (fun H locs F50 eF50 hP hS => ?_)
          have eF50 : F50 = va_up F o (.inr (8, [.int th, .ref (qm 0), .ref (qm 1), .ref (qm 2), .ref (qm 3), .ref (qm 4), .ref (qm 5), .ref (qm 6), .ref (qm 7), .int sp, .ref (qm 8), .ref (qm 9), .ref (qm 10), .ref (qm 11), .ref (qm 12), .ref (qm 13), .ref (qm 14), .int fa, .ref (qm 15), .long v49])) := eF50
          have hFo_50 : F50 o = .inr (8, [.int th, .ref (qm 0), .ref (qm 1), .ref (qm 2), .ref (qm 3), .ref (qm 4), .ref (qm 5), .ref (qm 6), .ref (qm 7), .int sp, .ref (qm 8), .ref (qm 9), .ref (qm 10), .ref (qm 11), .ref (qm 12), .ref (qm 13), .ref (qm 14), .int fa, .ref (qm 15), .long v49]) := by rw [eF50]; exact va_up_self _ _ _
          exact W.vret hx hb hr (fun t ht hW => ⟨⟨F50, rfl, (by rw [eF50]; rw [ev49, hr48, ev47]), (by show va_P _ _ _ t.heap; rw [ht]; exact hP)⟩, hS.F ht⟩) hS.2.2 dX9_reckonFloats_231
        · refine lv_iconst (v := 1) hx hb dX9_reckonFloats_131 (by decide) ?_
          refine lv_goto (tgt := 155) hx hb dX9_reckonFloats_132 (by decide) ?_
          refine lv_istore (lv' := [(6, .int 1), (5, .int r2), (4, .int r1), (0, .ref o), (1, .int 3), (2, .float x), (3, .float y)]) hx hb dX9_reckonFloats_155 hl (by decide) rfl (fun ls hl => ?_)
          refine lv_iload hx hb dX9_reckonFloats_157 (lv_at hl 0 rfl) ?_
          refine lv_if_eq (tgt := 168) hx hb dX9_reckonFloats_159 (by decide) (fun c51 => absurd c51 (by decide)) (fun c51 => ?_)
          exfalso
          have f1 := pz2 hr1 c7
          have f2 := pz1 hr2 c29
          have f3 := (z_iff32 hx9).mp c31
          have f4 := (z_iff32 hy9).mp c41
          have hv9 := (not_congr (nan_div32 hx9 hy9)).mp (by rw [hv]; decide)
          exact hv9 (by omega)

set_option maxHeartbeats 8000000 in
set_option maxRecDepth 100000 in
theorem c9_rF_3_no (l : Launch) (G : va_G) (cy : Nat → ClassId) (L : List Nat) (F : Nat → va_E) (sz : Nat) (o : Nat) (qm : Nat → Nat) (th sp fa : Int32) (oc : Int64) (hmo : o ∈ L) (hFo : F o = .inr (8, [.int th, .ref (qm 0), .ref (qm 1), .ref (qm 2), .ref (qm 3), .ref (qm 4), .ref (qm 5), .ref (qm 6), .ref (qm 7), .int sp, .ref (qm 8), .ref (qm 9), .ref (qm 10), .ref (qm 11), .ref (qm 12), .ref (qm 13), .ref (qm 14), .int fa, .ref (qm 15), .long oc])) (x y : UInt32) (hx9 : FP.Core.val32 x ≠ .nan) (hy9 : FP.Core.val32 y ≠ .nan) (hv : FP.Core.fIsNaN (FP.fdiv x y) = true)  : Met l yX9_reckonFloats wsX9_reckonFloats ({ frames := 2, cells := 0, slots := 0, locals := 44 }) (va_Pc [.ref o, .int 3, .float x, .float y] (fun U => bQ G cy L F sz U U.heap)) (va_Qv (fun F' : Nat → va_E => F' = va_up F o (.inr (8, [.int th, .ref (qm 0), .ref (qm 1), .ref (qm 2), .ref (qm 3), .ref (qm 4), .ref (qm 5), .ref (qm 6), .ref (qm 7), .int sp, .ref (qm 8), .ref (qm 9), .ref (qm 10), .ref (qm 11), .ref (qm 12), .ref (qm 13), .ref (qm 14), .int 5, .ref (qm 15), .long oc]))) (fun F' t => va_P G vwCl (va_pl L F') t.heap) (va_A (va_pl L F) sz)) 0 0 (va_A (va_pl L F) sz) := by
  refine Met.ofW (cc := cX9_reckonFloats) (maxL := 7) (ret := none) (by decide) rfl ?_
  intro p e s m args below meth c s₁ B hml hv
  obtain ⟨rfl, hsz, hP, hK, hD0⟩ := hv
  have hx := B.exec
  have hb := B.bytes
  have hr := B.returns
  have hts := atoms_spec (ws := wsX9_reckonFloats) B.pre
  have hown : s.vm.findClass RX9 = some m.cls := findClass_of_methodNamed B.named
  have hlocks := B.notSynchronized
  have hinX9 : ∀ w ∈ wsX90, w ∈ wsX9_reckonFloats := by decide +kernel
  subst hsz
  have hD := hD0.self F s.heap.size
  generalize hAe : va_A (va_pl L F) s.heap.size = A at hD ⊢
  have hA : ∀ q : Nat, s.heap.size ≤ q → A q := fun q h => by rw [← hAe]; exact Or.inr h
  have hS : va_S A s.heap s.heap [] := va_S.rf
  have hl := lv_entry ([.ref o, .int 3, .float x, .float y]) (n := 7) (Nat.le_of_ble_eq_true rfl)
  rw [lg_entry_eq]
  generalize (lg_sl ([.ref o, .int 3, .float x, .float y]) ++ List.replicate (7 - (lg_sl ([.ref o, .int 3, .float x, .float y])).length) Slot.unset).toArray = ls at hl ⊢
  have hl : lv_has ls 7 [(0, .ref o), (1, .int 3), (2, .float x), (3, .float y)] := hl
  refine lv_fload_n hx hb dX9_reckonFloats_0 rfl (lv_at hl 2 rfl) ?_
  refine vp_callSi (W.runS (As := [.float x]) (rest := []) ⟨hx, hb, hml, hown, hts⟩ (c9_isEndlessFloat l x hx9) (va_cwS 1 hts gX9_reckonFloats_X9_isEndlessFloat rfl rfl rfl (by decide +kernel) ⟨Nat.le_of_ble_eq_true rfl, Nat.le_of_ble_eq_true rfl⟩) (preS_of okT (trivial)) rfl rfl hl.1 rfl (lv_room (Nat.le_of_ble_eq_true rfl)) dX9_reckonFloats_1 ⟨Nat.le_of_ble_eq_true rfl, Nat.le_of_ble_eq_true rfl⟩) (fun r1 hr1 => ?_)
  refine lv_istore (lv' := [(4, .int r1), (0, .ref o), (1, .int 3), (2, .float x), (3, .float y)]) hx hb dX9_reckonFloats_4 hl (by decide) rfl (fun ls hl => ?_)
  refine lv_fload_n hx hb dX9_reckonFloats_6 rfl (lv_at hl 4 rfl) ?_
  refine vp_callSi (W.runS (As := [.float y]) (rest := []) ⟨hx, hb, hml, hown, hts⟩ (c9_isEndlessFloat l y hy9) (va_cwS 1 hts gX9_reckonFloats_X9_isEndlessFloat rfl rfl rfl (by decide +kernel) ⟨Nat.le_of_ble_eq_true rfl, Nat.le_of_ble_eq_true rfl⟩) (preS_of okT (trivial)) rfl rfl hl.1 rfl (lv_room (Nat.le_of_ble_eq_true rfl)) dX9_reckonFloats_7 ⟨Nat.le_of_ble_eq_true rfl, Nat.le_of_ble_eq_true rfl⟩) (fun r2 hr2 => ?_)
  refine lv_istore (lv' := [(5, .int r2), (4, .int r1), (0, .ref o), (1, .int 3), (2, .float x), (3, .float y)]) hx hb dX9_reckonFloats_10 hl (by decide) rfl (fun ls hl => ?_)
  refine lv_iload_n hx hb dX9_reckonFloats_12 rfl (lv_at hl 3 rfl) ?_
  refine lv_if_ne (tgt := 40) hx hb dX9_reckonFloats_13 (by decide) (fun c3 => ?_) (fun c3 => absurd c3 (by decide))
  refine lv_iload_n hx hb dX9_reckonFloats_40 rfl (lv_at hl 3 rfl) ?_
  refine lv_iconst (v := 1) hx hb dX9_reckonFloats_41 (by decide) ?_
  refine lv_icmp_ne (tgt := 69) hx hb dX9_reckonFloats_42 (by decide) (fun c4 => ?_) (fun c4 => absurd c4 (by decide))
  refine lv_iload_n hx hb dX9_reckonFloats_69 rfl (lv_at hl 3 rfl) ?_
  refine lv_iconst (v := 2) hx hb dX9_reckonFloats_70 (by decide) ?_
  refine lv_icmp_ne (tgt := 104) hx hb dX9_reckonFloats_71 (by decide) (fun c5 => ?_) (fun c5 => absurd c5 (by decide))
  refine lv_iload_n hx hb dX9_reckonFloats_104 rfl (lv_at hl 3 rfl) ?_
  refine lv_iconst (v := 3) hx hb dX9_reckonFloats_105 (by decide) ?_
  refine lv_icmp_ne (tgt := 139) hx hb dX9_reckonFloats_106 (by decide) (fun c6 => absurd (by decide) c6) (fun c6 => ?_)
  refine lv_iload hx hb dX9_reckonFloats_109 (lv_at hl 1 rfl) ?_
  refine lv_if_eq (tgt := 119) hx hb dX9_reckonFloats_111 (by decide) (fun c7 => ?_) (fun c7 => ?_)
  · refine lv_fload_n hx hb dX9_reckonFloats_119 rfl (lv_at hl 4 rfl) ?_
    refine lv_fconst0 hx hb dX9_reckonFloats_120 ?_
    refine lv_fcmp hx hb dX9_reckonFloats_121 ?_
    refine lv_if_ne (tgt := 135) hx hb dX9_reckonFloats_122 (by decide) (fun c8 => ?_) (fun c8 => ?_)
    · refine lv_iconst (v := 0) hx hb dX9_reckonFloats_135 (by decide) ?_
      refine lv_goto (tgt := 155) hx hb dX9_reckonFloats_136 (by decide) ?_
      refine lv_istore (lv' := [(6, .int 0), (5, .int r2), (4, .int r1), (0, .ref o), (1, .int 3), (2, .float x), (3, .float y)]) hx hb dX9_reckonFloats_155 hl (by decide) rfl (fun ls hl => ?_)
      refine lv_iload hx hb dX9_reckonFloats_157 (lv_at hl 0 rfl) ?_
      refine lv_if_eq (tgt := 168) hx hb dX9_reckonFloats_159 (by decide) (fun c9 => ?_) (fun c9 => absurd (by decide) c9)
      exfalso
      have f1 := pz1 hr1 c7
      have f2 := (not_congr (z_iff32 hx9)).mp c8
      have hv9 := (nan_div32 hx9 hy9).mp hv
      omega
    · refine lv_fload_n hx hb dX9_reckonFloats_125 rfl (lv_at hl 5 rfl) ?_
      refine lv_fconst0 hx hb dX9_reckonFloats_126 ?_
      refine lv_fcmp hx hb dX9_reckonFloats_127 ?_
      refine lv_if_ne (tgt := 135) hx hb dX9_reckonFloats_128 (by decide) (fun c10 => ?_) (fun c10 => ?_)
      · refine lv_iconst (v := 0) hx hb dX9_reckonFloats_135 (by decide) ?_
        refine lv_goto (tgt := 155) hx hb dX9_reckonFloats_136 (by decide) ?_
        refine lv_istore (lv' := [(6, .int 0), (5, .int r2), (4, .int r1), (0, .ref o), (1, .int 3), (2, .float x), (3, .float y)]) hx hb dX9_reckonFloats_155 hl (by decide) rfl (fun ls hl => ?_)
        refine lv_iload hx hb dX9_reckonFloats_157 (lv_at hl 0 rfl) ?_
        refine lv_if_eq (tgt := 168) hx hb dX9_reckonFloats_159 (by decide) (fun c11 => ?_) (fun c11 => absurd (by decide) c11)
        exfalso
        have f1 := pz1 hr1 c7
        have f2 := (z_iff32 hx9).mp c8
        have f3 := (not_congr (z_iff32 hy9)).mp c10
        have hv9 := (nan_div32 hx9 hy9).mp hv
        omega
      · refine lv_iconst (v := 1) hx hb dX9_reckonFloats_131 (by decide) ?_
        refine lv_goto (tgt := 155) hx hb dX9_reckonFloats_132 (by decide) ?_
        refine lv_istore (lv' := [(6, .int 1), (5, .int r2), (4, .int r1), (0, .ref o), (1, .int 3), (2, .float x), (3, .float y)]) hx hb dX9_reckonFloats_155 hl (by decide) rfl (fun ls hl => ?_)
        refine lv_iload hx hb dX9_reckonFloats_157 (lv_at hl 0 rfl) ?_
        refine lv_if_eq (tgt := 168) hx hb dX9_reckonFloats_159 (by decide) (fun c12 => absurd c12 (by decide)) (fun c12 => ?_)
        refine lv_aload_n hx hb dX9_reckonFloats_162 rfl (lv_at hl 3 rfl) ?_
        refine lv_iconst (v := 5) hx hb dX9_reckonFloats_163 (by decide) ?_
        refine pg_put (ci := 8) (v := .int 5) (ty := .int) (C := RX9) (T := TX9) (N := 20) hx hb hts hinX9 tyX9 tyX9_ok nmX9 hown hK hP hD hS hmo hFo rfl 17 (by decide) (hts (.fieldLink RX9 65 "RopeDrumsModel" "failed" "I") (by decide +kernel)) (fun _ h9 => h9) rfl (by decide +kernel) (rfl) (rfl) (Nat.le_of_ble_eq_true rfl) dX9_reckonFloats_164 (fun H locs F13 eF13 hP hS => ?_)
        have eF13 : F13 = va_up F o (.inr (8, [.int th, .ref (qm 0), .ref (qm 1), .ref (qm 2), .ref (qm 3), .ref (qm 4), .ref (qm 5), .ref (qm 6), .ref (qm 7), .int sp, .ref (qm 8), .ref (qm 9), .ref (qm 10), .ref (qm 11), .ref (qm 12), .ref (qm 13), .ref (qm 14), .int 5, .ref (qm 15), .long oc])) := eF13
        have hFo_13 : F13 o = .inr (8, [.int th, .ref (qm 0), .ref (qm 1), .ref (qm 2), .ref (qm 3), .ref (qm 4), .ref (qm 5), .ref (qm 6), .ref (qm 7), .int sp, .ref (qm 8), .ref (qm 9), .ref (qm 10), .ref (qm 11), .ref (qm 12), .ref (qm 13), .ref (qm 14), .int 5, .ref (qm 15), .long oc]) := by rw [eF13]; exact va_up_self _ _ _
        exact W.vret hx hb hr (fun t ht hW => ⟨⟨F13, rfl, (by rw [eF13]), (by show va_P _ _ _ t.heap; rw [ht]; exact hP)⟩, hS.F ht⟩) hS.2.2 dX9_reckonFloats_167
  · refine lv_iload hx hb dX9_reckonFloats_114 (lv_at hl 0 rfl) ?_
    refine lv_if_ne (tgt := 131) hx hb dX9_reckonFloats_116 (by decide) (fun c14 => ?_) (fun c14 => ?_)
    · refine lv_iconst (v := 1) hx hb dX9_reckonFloats_131 (by decide) ?_
      refine lv_goto (tgt := 155) hx hb dX9_reckonFloats_132 (by decide) ?_
      refine lv_istore (lv' := [(6, .int 1), (5, .int r2), (4, .int r1), (0, .ref o), (1, .int 3), (2, .float x), (3, .float y)]) hx hb dX9_reckonFloats_155 hl (by decide) rfl (fun ls hl => ?_)
      refine lv_iload hx hb dX9_reckonFloats_157 (lv_at hl 0 rfl) ?_
      refine lv_if_eq (tgt := 168) hx hb dX9_reckonFloats_159 (by decide) (fun c15 => absurd c15 (by decide)) (fun c15 => ?_)
      refine lv_aload_n hx hb dX9_reckonFloats_162 rfl (lv_at hl 3 rfl) ?_
      refine lv_iconst (v := 5) hx hb dX9_reckonFloats_163 (by decide) ?_
      refine pg_put (ci := 8) (v := .int 5) (ty := .int) (C := RX9) (T := TX9) (N := 20) hx hb hts hinX9 tyX9 tyX9_ok nmX9 hown hK hP hD hS hmo hFo rfl 17 (by decide) (hts (.fieldLink RX9 65 "RopeDrumsModel" "failed" "I") (by decide +kernel)) (fun _ h9 => h9) rfl (by decide +kernel) (rfl) (rfl) (Nat.le_of_ble_eq_true rfl) dX9_reckonFloats_164 (fun H locs F16 eF16 hP hS => ?_)
      have eF16 : F16 = va_up F o (.inr (8, [.int th, .ref (qm 0), .ref (qm 1), .ref (qm 2), .ref (qm 3), .ref (qm 4), .ref (qm 5), .ref (qm 6), .ref (qm 7), .int sp, .ref (qm 8), .ref (qm 9), .ref (qm 10), .ref (qm 11), .ref (qm 12), .ref (qm 13), .ref (qm 14), .int 5, .ref (qm 15), .long oc])) := eF16
      have hFo_16 : F16 o = .inr (8, [.int th, .ref (qm 0), .ref (qm 1), .ref (qm 2), .ref (qm 3), .ref (qm 4), .ref (qm 5), .ref (qm 6), .ref (qm 7), .int sp, .ref (qm 8), .ref (qm 9), .ref (qm 10), .ref (qm 11), .ref (qm 12), .ref (qm 13), .ref (qm 14), .int 5, .ref (qm 15), .long oc]) := by rw [eF16]; exact va_up_self _ _ _
      exact W.vret hx hb hr (fun t ht hW => ⟨⟨F16, rfl, (by rw [eF16]), (by show va_P _ _ _ t.heap; rw [ht]; exact hP)⟩, hS.F ht⟩) hS.2.2 dX9_reckonFloats_167
    · refine lv_fload_n hx hb dX9_reckonFloats_119 rfl (lv_at hl 4 rfl) ?_
      refine lv_fconst0 hx hb dX9_reckonFloats_120 ?_
      refine lv_fcmp hx hb dX9_reckonFloats_121 ?_
      refine lv_if_ne (tgt := 135) hx hb dX9_reckonFloats_122 (by decide) (fun c17 => ?_) (fun c17 => ?_)
      · refine lv_iconst (v := 0) hx hb dX9_reckonFloats_135 (by decide) ?_
        refine lv_goto (tgt := 155) hx hb dX9_reckonFloats_136 (by decide) ?_
        refine lv_istore (lv' := [(6, .int 0), (5, .int r2), (4, .int r1), (0, .ref o), (1, .int 3), (2, .float x), (3, .float y)]) hx hb dX9_reckonFloats_155 hl (by decide) rfl (fun ls hl => ?_)
        refine lv_iload hx hb dX9_reckonFloats_157 (lv_at hl 0 rfl) ?_
        refine lv_if_eq (tgt := 168) hx hb dX9_reckonFloats_159 (by decide) (fun c18 => ?_) (fun c18 => absurd (by decide) c18)
        exfalso
        have f1 := pz2 hr1 c7
        have f2 := pz1 hr2 c14
        have f3 := (not_congr (z_iff32 hx9)).mp c17
        have hv9 := (nan_div32 hx9 hy9).mp hv
        omega
      · refine lv_fload_n hx hb dX9_reckonFloats_125 rfl (lv_at hl 5 rfl) ?_
        refine lv_fconst0 hx hb dX9_reckonFloats_126 ?_
        refine lv_fcmp hx hb dX9_reckonFloats_127 ?_
        refine lv_if_ne (tgt := 135) hx hb dX9_reckonFloats_128 (by decide) (fun c19 => ?_) (fun c19 => ?_)
        · refine lv_iconst (v := 0) hx hb dX9_reckonFloats_135 (by decide) ?_
          refine lv_goto (tgt := 155) hx hb dX9_reckonFloats_136 (by decide) ?_
          refine lv_istore (lv' := [(6, .int 0), (5, .int r2), (4, .int r1), (0, .ref o), (1, .int 3), (2, .float x), (3, .float y)]) hx hb dX9_reckonFloats_155 hl (by decide) rfl (fun ls hl => ?_)
          refine lv_iload hx hb dX9_reckonFloats_157 (lv_at hl 0 rfl) ?_
          refine lv_if_eq (tgt := 168) hx hb dX9_reckonFloats_159 (by decide) (fun c20 => ?_) (fun c20 => absurd (by decide) c20)
          exfalso
          have f1 := pz2 hr1 c7
          have f2 := pz1 hr2 c14
          have f3 := (z_iff32 hx9).mp c17
          have f4 := (not_congr (z_iff32 hy9)).mp c19
          have hv9 := (nan_div32 hx9 hy9).mp hv
          omega
        · refine lv_iconst (v := 1) hx hb dX9_reckonFloats_131 (by decide) ?_
          refine lv_goto (tgt := 155) hx hb dX9_reckonFloats_132 (by decide) ?_
          refine lv_istore (lv' := [(6, .int 1), (5, .int r2), (4, .int r1), (0, .ref o), (1, .int 3), (2, .float x), (3, .float y)]) hx hb dX9_reckonFloats_155 hl (by decide) rfl (fun ls hl => ?_)
          refine lv_iload hx hb dX9_reckonFloats_157 (lv_at hl 0 rfl) ?_
          refine lv_if_eq (tgt := 168) hx hb dX9_reckonFloats_159 (by decide) (fun c21 => absurd c21 (by decide)) (fun c21 => ?_)
          refine lv_aload_n hx hb dX9_reckonFloats_162 rfl (lv_at hl 3 rfl) ?_
          refine lv_iconst (v := 5) hx hb dX9_reckonFloats_163 (by decide) ?_
          refine pg_put (ci := 8) (v := .int 5) (ty := .int) (C := RX9) (T := TX9) (N := 20) hx hb hts hinX9 tyX9 tyX9_ok nmX9 hown hK hP hD hS hmo hFo rfl 17 (by decide) (hts (.fieldLink RX9 65 "RopeDrumsModel" "failed" "I") (by decide +kernel)) (fun _ h9 => h9) rfl (by decide +kernel) (rfl) (rfl) (Nat.le_of_ble_eq_true rfl) dX9_reckonFloats_164 (fun H locs F22 eF22 hP hS => ?_)
          have eF22 : F22 = va_up F o (.inr (8, [.int th, .ref (qm 0), .ref (qm 1), .ref (qm 2), .ref (qm 3), .ref (qm 4), .ref (qm 5), .ref (qm 6), .ref (qm 7), .int sp, .ref (qm 8), .ref (qm 9), .ref (qm 10), .ref (qm 11), .ref (qm 12), .ref (qm 13), .ref (qm 14), .int 5, .ref (qm 15), .long oc])) := eF22
          have hFo_22 : F22 o = .inr (8, [.int th, .ref (qm 0), .ref (qm 1), .ref (qm 2), .ref (qm 3), .ref (qm 4), .ref (qm 5), .ref (qm 6), .ref (qm 7), .int sp, .ref (qm 8), .ref (qm 9), .ref (qm 10), .ref (qm 11), .ref (qm 12), .ref (qm 13), .ref (qm 14), .int 5, .ref (qm 15), .long oc]) := by rw [eF22]; exact va_up_self _ _ _
          exact W.vret hx hb hr (fun t ht hW => ⟨⟨F22, rfl, (by rw [eF22]), (by show va_P _ _ _ t.heap; rw [ht]; exact hP)⟩, hS.F ht⟩) hS.2.2 dX9_reckonFloats_167

set_option maxHeartbeats 8000000 in
set_option maxRecDepth 100000 in
theorem c9_rF_4 (l : Launch) (G : va_G) (cy : Nat → ClassId) (L : List Nat) (F : Nat → va_E) (sz : Nat) (o : Nat) (qm : Nat → Nat) (th sp fa : Int32) (oc : Int64) (hmo : o ∈ L) (hFo : F o = .inr (8, [.int th, .ref (qm 0), .ref (qm 1), .ref (qm 2), .ref (qm 3), .ref (qm 4), .ref (qm 5), .ref (qm 6), .ref (qm 7), .int sp, .ref (qm 8), .ref (qm 9), .ref (qm 10), .ref (qm 11), .ref (qm 12), .ref (qm 13), .ref (qm 14), .int fa, .ref (qm 15), .long oc])) (x y : UInt32) (hx9 : FP.Core.val32 x ≠ .nan) (hy9 : FP.Core.val32 y ≠ .nan) (hv : FP.Core.fIsNaN (FP.frem x y) = false)  : Met l yX9_reckonFloats wsX9_reckonFloats ({ frames := 2, cells := 0, slots := 0, locals := 44 }) (va_Pc [.ref o, .int 4, .float x, .float y] (fun U => bQ G cy L F sz U U.heap)) (va_Qv (fun F' : Nat → va_E => F' = va_up F o (.inr (8, [.int th, .ref (qm 0), .ref (qm 1), .ref (qm 2), .ref (qm 3), .ref (qm 4), .ref (qm 5), .ref (qm 6), .ref (qm 7), .int sp, .ref (qm 8), .ref (qm 9), .ref (qm 10), .ref (qm 11), .ref (qm 12), .ref (qm 13), .ref (qm 14), .int fa, .ref (qm 15), .long ((FP.frem x y).toInt32.toInt64)]))) (fun F' t => va_P G vwCl (va_pl L F') t.heap) (va_A (va_pl L F) sz)) 0 0 (va_A (va_pl L F) sz) := by
  refine Met.ofW (cc := cX9_reckonFloats) (maxL := 7) (ret := none) (by decide) rfl ?_
  intro p e s m args below meth c s₁ B hml hv
  obtain ⟨rfl, hsz, hP, hK, hD0⟩ := hv
  have hx := B.exec
  have hb := B.bytes
  have hr := B.returns
  have hts := atoms_spec (ws := wsX9_reckonFloats) B.pre
  have hown : s.vm.findClass RX9 = some m.cls := findClass_of_methodNamed B.named
  have hlocks := B.notSynchronized
  have hinX9 : ∀ w ∈ wsX90, w ∈ wsX9_reckonFloats := by decide +kernel
  subst hsz
  have hD := hD0.self F s.heap.size
  generalize hAe : va_A (va_pl L F) s.heap.size = A at hD ⊢
  have hA : ∀ q : Nat, s.heap.size ≤ q → A q := fun q h => by rw [← hAe]; exact Or.inr h
  have hS : va_S A s.heap s.heap [] := va_S.rf
  have hl := lv_entry ([.ref o, .int 4, .float x, .float y]) (n := 7) (Nat.le_of_ble_eq_true rfl)
  rw [lg_entry_eq]
  generalize (lg_sl ([.ref o, .int 4, .float x, .float y]) ++ List.replicate (7 - (lg_sl ([.ref o, .int 4, .float x, .float y])).length) Slot.unset).toArray = ls at hl ⊢
  have hl : lv_has ls 7 [(0, .ref o), (1, .int 4), (2, .float x), (3, .float y)] := hl
  refine lv_fload_n hx hb dX9_reckonFloats_0 rfl (lv_at hl 2 rfl) ?_
  refine vp_callSi (W.runS (As := [.float x]) (rest := []) ⟨hx, hb, hml, hown, hts⟩ (c9_isEndlessFloat l x hx9) (va_cwS 1 hts gX9_reckonFloats_X9_isEndlessFloat rfl rfl rfl (by decide +kernel) ⟨Nat.le_of_ble_eq_true rfl, Nat.le_of_ble_eq_true rfl⟩) (preS_of okT (trivial)) rfl rfl hl.1 rfl (lv_room (Nat.le_of_ble_eq_true rfl)) dX9_reckonFloats_1 ⟨Nat.le_of_ble_eq_true rfl, Nat.le_of_ble_eq_true rfl⟩) (fun r1 hr1 => ?_)
  refine lv_istore (lv' := [(4, .int r1), (0, .ref o), (1, .int 4), (2, .float x), (3, .float y)]) hx hb dX9_reckonFloats_4 hl (by decide) rfl (fun ls hl => ?_)
  refine lv_fload_n hx hb dX9_reckonFloats_6 rfl (lv_at hl 4 rfl) ?_
  refine vp_callSi (W.runS (As := [.float y]) (rest := []) ⟨hx, hb, hml, hown, hts⟩ (c9_isEndlessFloat l y hy9) (va_cwS 1 hts gX9_reckonFloats_X9_isEndlessFloat rfl rfl rfl (by decide +kernel) ⟨Nat.le_of_ble_eq_true rfl, Nat.le_of_ble_eq_true rfl⟩) (preS_of okT (trivial)) rfl rfl hl.1 rfl (lv_room (Nat.le_of_ble_eq_true rfl)) dX9_reckonFloats_7 ⟨Nat.le_of_ble_eq_true rfl, Nat.le_of_ble_eq_true rfl⟩) (fun r2 hr2 => ?_)
  refine lv_istore (lv' := [(5, .int r2), (4, .int r1), (0, .ref o), (1, .int 4), (2, .float x), (3, .float y)]) hx hb dX9_reckonFloats_10 hl (by decide) rfl (fun ls hl => ?_)
  refine lv_iload_n hx hb dX9_reckonFloats_12 rfl (lv_at hl 3 rfl) ?_
  refine lv_if_ne (tgt := 40) hx hb dX9_reckonFloats_13 (by decide) (fun c3 => ?_) (fun c3 => absurd c3 (by decide))
  refine lv_iload_n hx hb dX9_reckonFloats_40 rfl (lv_at hl 3 rfl) ?_
  refine lv_iconst (v := 1) hx hb dX9_reckonFloats_41 (by decide) ?_
  refine lv_icmp_ne (tgt := 69) hx hb dX9_reckonFloats_42 (by decide) (fun c4 => ?_) (fun c4 => absurd c4 (by decide))
  refine lv_iload_n hx hb dX9_reckonFloats_69 rfl (lv_at hl 3 rfl) ?_
  refine lv_iconst (v := 2) hx hb dX9_reckonFloats_70 (by decide) ?_
  refine lv_icmp_ne (tgt := 104) hx hb dX9_reckonFloats_71 (by decide) (fun c5 => ?_) (fun c5 => absurd c5 (by decide))
  refine lv_iload_n hx hb dX9_reckonFloats_104 rfl (lv_at hl 3 rfl) ?_
  refine lv_iconst (v := 3) hx hb dX9_reckonFloats_105 (by decide) ?_
  refine lv_icmp_ne (tgt := 139) hx hb dX9_reckonFloats_106 (by decide) (fun c6 => ?_) (fun c6 => absurd c6 (by decide))
  refine lv_iload hx hb dX9_reckonFloats_139 (lv_at hl 1 rfl) ?_
  refine lv_if_ne (tgt := 150) hx hb dX9_reckonFloats_141 (by decide) (fun c7 => ?_) (fun c7 => ?_)
  · refine lv_iconst (v := 1) hx hb dX9_reckonFloats_150 (by decide) ?_
    refine lv_goto (tgt := 155) hx hb dX9_reckonFloats_151 (by decide) ?_
    refine lv_istore (lv' := [(6, .int 1), (5, .int r2), (4, .int r1), (0, .ref o), (1, .int 4), (2, .float x), (3, .float y)]) hx hb dX9_reckonFloats_155 hl (by decide) rfl (fun ls hl => ?_)
    refine lv_iload hx hb dX9_reckonFloats_157 (lv_at hl 0 rfl) ?_
    refine lv_if_eq (tgt := 168) hx hb dX9_reckonFloats_159 (by decide) (fun c8 => absurd c8 (by decide)) (fun c8 => ?_)
    exfalso
    have f1 := pz2 hr1 c7
    have hv9 := (not_congr (nan_rem32 hx9 hy9)).mp (by rw [hv]; decide)
    exact hv9 (by omega)
  · refine lv_fload_n hx hb dX9_reckonFloats_144 rfl (lv_at hl 5 rfl) ?_
    refine lv_fconst0 hx hb dX9_reckonFloats_145 ?_
    refine lv_fcmp hx hb dX9_reckonFloats_146 ?_
    refine lv_if_ne (tgt := 154) hx hb dX9_reckonFloats_147 (by decide) (fun c9 => ?_) (fun c9 => ?_)
    · refine lv_iconst (v := 0) hx hb dX9_reckonFloats_154 (by decide) ?_
      refine lv_istore (lv' := [(6, .int 0), (5, .int r2), (4, .int r1), (0, .ref o), (1, .int 4), (2, .float x), (3, .float y)]) hx hb dX9_reckonFloats_155 hl (by decide) rfl (fun ls hl => ?_)
      refine lv_iload hx hb dX9_reckonFloats_157 (lv_at hl 0 rfl) ?_
      refine lv_if_eq (tgt := 168) hx hb dX9_reckonFloats_159 (by decide) (fun c10 => ?_) (fun c10 => absurd (by decide) c10)
      refine lv_aload_n hx hb dX9_reckonFloats_168 rfl (lv_at hl 3 rfl) ?_
      refine lv_iload_n hx hb dX9_reckonFloats_169 rfl (lv_at hl 4 rfl) ?_
      refine lv_if_ne (tgt := 179) hx hb dX9_reckonFloats_170 (by decide) (fun c11 => ?_) (fun c11 => absurd c11 (by decide))
      refine lv_iload_n hx hb dX9_reckonFloats_179 rfl (lv_at hl 4 rfl) ?_
      refine lv_iconst (v := 1) hx hb dX9_reckonFloats_180 (by decide) ?_
      refine lv_icmp_ne (tgt := 190) hx hb dX9_reckonFloats_181 (by decide) (fun c12 => ?_) (fun c12 => absurd c12 (by decide))
      refine lv_iload_n hx hb dX9_reckonFloats_190 rfl (lv_at hl 4 rfl) ?_
      refine lv_iconst (v := 2) hx hb dX9_reckonFloats_191 (by decide) ?_
      refine lv_icmp_ne (tgt := 201) hx hb dX9_reckonFloats_192 (by decide) (fun c13 => ?_) (fun c13 => absurd c13 (by decide))
      refine lv_iload_n hx hb dX9_reckonFloats_201 rfl (lv_at hl 4 rfl) ?_
      refine lv_iconst (v := 3) hx hb dX9_reckonFloats_202 (by decide) ?_
      refine lv_icmp_ne (tgt := 212) hx hb dX9_reckonFloats_203 (by decide) (fun c14 => ?_) (fun c14 => absurd c14 (by decide))
      refine lv_iload hx hb dX9_reckonFloats_212 (lv_at hl 1 rfl) ?_
      refine lv_if_eq (tgt := 221) hx hb dX9_reckonFloats_214 (by decide) (fun c15 => ?_) (fun c15 => ?_)
      · refine lv_fload_n hx hb dX9_reckonFloats_221 rfl (lv_at hl 5 rfl) ?_
        refine lv_fload_n hx hb dX9_reckonFloats_222 rfl (lv_at hl 6 rfl) ?_
        refine lv_frem hx hb dX9_reckonFloats_223 (n32.mpr ((FP.Core.notNaN_iff32 _).mp hv)) ?_
        refine lv_topf (fun v16 ev16 => ?_)
        refine vp_callSi (W.runS (As := [.float v16]) (rest := [.ref o]) ⟨hx, hb, hml, hown, hts⟩ (c9_f2ib l v16 (by rw [ev16]; exact (FP.Core.notNaN_iff32 _).mp hv)) (va_cwS 1 hts gX9_reckonFloats_Jxf58ca_floatToIntBits_5c35a rfl rfl rfl (by decide +kernel) ⟨Nat.le_of_ble_eq_true rfl, Nat.le_of_ble_eq_true rfl⟩) (preS_of okT (trivial)) rfl rfl hl.1 rfl (lv_room (Nat.le_of_ble_eq_true rfl)) dX9_reckonFloats_224 ⟨Nat.le_of_ble_eq_true rfl, Nat.le_of_ble_eq_true rfl⟩) (fun r17 hr17 => ?_)
        refine lv_i2l hx hb dX9_reckonFloats_227 rfl ?_
        refine lv_topl (fun v18 ev18 => ?_)
        refine pg_put (ci := 8) (v := .long v18) (ty := .long) (C := RX9) (T := TX9) (N := 20) hx hb hts hinX9 tyX9 tyX9_ok nmX9 hown hK hP hD hS hmo hFo rfl 19 (by decide) (hts (.fieldLink RX9 131 "RopeDrumsModel" "outcome" "J") (by decide +kernel)) (fun _ h9 => h9) rfl (by decide +kernel) (rfl) (rfl) (Nat.le_of_ble_eq_true rfl) dX9_reckonFloats_228 (fun H locs F19 eF19 hP hS => ?_)
        have eF19 : F19 = va_up F o (.inr (8, [.int th, .ref (qm 0), .ref (qm 1), .ref (qm 2), .ref (qm 3), .ref (qm 4), .ref (qm 5), .ref (qm 6), .ref (qm 7), .int sp, .ref (qm 8), .ref (qm 9), .ref (qm 10), .ref (qm 11), .ref (qm 12), .ref (qm 13), .ref (qm 14), .int fa, .ref (qm 15), .long v18])) := eF19
        have hFo_19 : F19 o = .inr (8, [.int th, .ref (qm 0), .ref (qm 1), .ref (qm 2), .ref (qm 3), .ref (qm 4), .ref (qm 5), .ref (qm 6), .ref (qm 7), .int sp, .ref (qm 8), .ref (qm 9), .ref (qm 10), .ref (qm 11), .ref (qm 12), .ref (qm 13), .ref (qm 14), .int fa, .ref (qm 15), .long v18]) := by rw [eF19]; exact va_up_self _ _ _
        exact W.vret hx hb hr (fun t ht hW => ⟨⟨F19, rfl, (by rw [eF19]; rw [ev18, hr17, ev16]), (by show va_P _ _ _ t.heap; rw [ht]; exact hP)⟩, hS.F ht⟩) hS.2.2 dX9_reckonFloats_231
      · refine lv_fload_n hx hb dX9_reckonFloats_217 rfl (lv_at hl 5 rfl) ?_
        refine lv_goto (tgt := 224) hx hb dX9_reckonFloats_218 (by decide) ?_
        refine vp_callSi (W.runS (As := [.float x]) (rest := [.ref o]) ⟨hx, hb, hml, hown, hts⟩ (c9_f2ib l x hx9) (va_cwS 1 hts gX9_reckonFloats_Jxf58ca_floatToIntBits_5c35a rfl rfl rfl (by decide +kernel) ⟨Nat.le_of_ble_eq_true rfl, Nat.le_of_ble_eq_true rfl⟩) (preS_of okT (trivial)) rfl rfl hl.1 rfl (lv_room (Nat.le_of_ble_eq_true rfl)) dX9_reckonFloats_224 ⟨Nat.le_of_ble_eq_true rfl, Nat.le_of_ble_eq_true rfl⟩) (fun r20 hr20 => ?_)
        refine lv_i2l hx hb dX9_reckonFloats_227 rfl ?_
        refine lv_topl (fun v21 ev21 => ?_)
        refine pg_put (ci := 8) (v := .long v21) (ty := .long) (C := RX9) (T := TX9) (N := 20) hx hb hts hinX9 tyX9 tyX9_ok nmX9 hown hK hP hD hS hmo hFo rfl 19 (by decide) (hts (.fieldLink RX9 131 "RopeDrumsModel" "outcome" "J") (by decide +kernel)) (fun _ h9 => h9) rfl (by decide +kernel) (rfl) (rfl) (Nat.le_of_ble_eq_true rfl) dX9_reckonFloats_228 (fun H locs F22 eF22 hP hS => ?_)
        have eF22 : F22 = va_up F o (.inr (8, [.int th, .ref (qm 0), .ref (qm 1), .ref (qm 2), .ref (qm 3), .ref (qm 4), .ref (qm 5), .ref (qm 6), .ref (qm 7), .int sp, .ref (qm 8), .ref (qm 9), .ref (qm 10), .ref (qm 11), .ref (qm 12), .ref (qm 13), .ref (qm 14), .int fa, .ref (qm 15), .long v21])) := eF22
        have hFo_22 : F22 o = .inr (8, [.int th, .ref (qm 0), .ref (qm 1), .ref (qm 2), .ref (qm 3), .ref (qm 4), .ref (qm 5), .ref (qm 6), .ref (qm 7), .int sp, .ref (qm 8), .ref (qm 9), .ref (qm 10), .ref (qm 11), .ref (qm 12), .ref (qm 13), .ref (qm 14), .int fa, .ref (qm 15), .long v21]) := by rw [eF22]; exact va_up_self _ _ _
        exact W.vret hx hb hr (fun t ht hW => ⟨⟨F22, rfl, (by have hfx := frem_inf32 hx9 hy9 hv (pz2 hr2 c15); rw [eF22]; rw [hfx]; rw [ev21, hr20]), (by show va_P _ _ _ t.heap; rw [ht]; exact hP)⟩, hS.F ht⟩) hS.2.2 dX9_reckonFloats_231
    · refine lv_iconst (v := 1) hx hb dX9_reckonFloats_150 (by decide) ?_
      refine lv_goto (tgt := 155) hx hb dX9_reckonFloats_151 (by decide) ?_
      refine lv_istore (lv' := [(6, .int 1), (5, .int r2), (4, .int r1), (0, .ref o), (1, .int 4), (2, .float x), (3, .float y)]) hx hb dX9_reckonFloats_155 hl (by decide) rfl (fun ls hl => ?_)
      refine lv_iload hx hb dX9_reckonFloats_157 (lv_at hl 0 rfl) ?_
      refine lv_if_eq (tgt := 168) hx hb dX9_reckonFloats_159 (by decide) (fun c23 => absurd c23 (by decide)) (fun c23 => ?_)
      exfalso
      have f1 := pz1 hr1 c7
      have f2 := (z_iff32 hy9).mp c9
      have hv9 := (not_congr (nan_rem32 hx9 hy9)).mp (by rw [hv]; decide)
      exact hv9 (by omega)

set_option maxHeartbeats 8000000 in
set_option maxRecDepth 100000 in
theorem c9_rF_4_no (l : Launch) (G : va_G) (cy : Nat → ClassId) (L : List Nat) (F : Nat → va_E) (sz : Nat) (o : Nat) (qm : Nat → Nat) (th sp fa : Int32) (oc : Int64) (hmo : o ∈ L) (hFo : F o = .inr (8, [.int th, .ref (qm 0), .ref (qm 1), .ref (qm 2), .ref (qm 3), .ref (qm 4), .ref (qm 5), .ref (qm 6), .ref (qm 7), .int sp, .ref (qm 8), .ref (qm 9), .ref (qm 10), .ref (qm 11), .ref (qm 12), .ref (qm 13), .ref (qm 14), .int fa, .ref (qm 15), .long oc])) (x y : UInt32) (hx9 : FP.Core.val32 x ≠ .nan) (hy9 : FP.Core.val32 y ≠ .nan) (hv : FP.Core.fIsNaN (FP.frem x y) = true)  : Met l yX9_reckonFloats wsX9_reckonFloats ({ frames := 2, cells := 0, slots := 0, locals := 44 }) (va_Pc [.ref o, .int 4, .float x, .float y] (fun U => bQ G cy L F sz U U.heap)) (va_Qv (fun F' : Nat → va_E => F' = va_up F o (.inr (8, [.int th, .ref (qm 0), .ref (qm 1), .ref (qm 2), .ref (qm 3), .ref (qm 4), .ref (qm 5), .ref (qm 6), .ref (qm 7), .int sp, .ref (qm 8), .ref (qm 9), .ref (qm 10), .ref (qm 11), .ref (qm 12), .ref (qm 13), .ref (qm 14), .int 5, .ref (qm 15), .long oc]))) (fun F' t => va_P G vwCl (va_pl L F') t.heap) (va_A (va_pl L F) sz)) 0 0 (va_A (va_pl L F) sz) := by
  refine Met.ofW (cc := cX9_reckonFloats) (maxL := 7) (ret := none) (by decide) rfl ?_
  intro p e s m args below meth c s₁ B hml hv
  obtain ⟨rfl, hsz, hP, hK, hD0⟩ := hv
  have hx := B.exec
  have hb := B.bytes
  have hr := B.returns
  have hts := atoms_spec (ws := wsX9_reckonFloats) B.pre
  have hown : s.vm.findClass RX9 = some m.cls := findClass_of_methodNamed B.named
  have hlocks := B.notSynchronized
  have hinX9 : ∀ w ∈ wsX90, w ∈ wsX9_reckonFloats := by decide +kernel
  subst hsz
  have hD := hD0.self F s.heap.size
  generalize hAe : va_A (va_pl L F) s.heap.size = A at hD ⊢
  have hA : ∀ q : Nat, s.heap.size ≤ q → A q := fun q h => by rw [← hAe]; exact Or.inr h
  have hS : va_S A s.heap s.heap [] := va_S.rf
  have hl := lv_entry ([.ref o, .int 4, .float x, .float y]) (n := 7) (Nat.le_of_ble_eq_true rfl)
  rw [lg_entry_eq]
  generalize (lg_sl ([.ref o, .int 4, .float x, .float y]) ++ List.replicate (7 - (lg_sl ([.ref o, .int 4, .float x, .float y])).length) Slot.unset).toArray = ls at hl ⊢
  have hl : lv_has ls 7 [(0, .ref o), (1, .int 4), (2, .float x), (3, .float y)] := hl
  refine lv_fload_n hx hb dX9_reckonFloats_0 rfl (lv_at hl 2 rfl) ?_
  refine vp_callSi (W.runS (As := [.float x]) (rest := []) ⟨hx, hb, hml, hown, hts⟩ (c9_isEndlessFloat l x hx9) (va_cwS 1 hts gX9_reckonFloats_X9_isEndlessFloat rfl rfl rfl (by decide +kernel) ⟨Nat.le_of_ble_eq_true rfl, Nat.le_of_ble_eq_true rfl⟩) (preS_of okT (trivial)) rfl rfl hl.1 rfl (lv_room (Nat.le_of_ble_eq_true rfl)) dX9_reckonFloats_1 ⟨Nat.le_of_ble_eq_true rfl, Nat.le_of_ble_eq_true rfl⟩) (fun r1 hr1 => ?_)
  refine lv_istore (lv' := [(4, .int r1), (0, .ref o), (1, .int 4), (2, .float x), (3, .float y)]) hx hb dX9_reckonFloats_4 hl (by decide) rfl (fun ls hl => ?_)
  refine lv_fload_n hx hb dX9_reckonFloats_6 rfl (lv_at hl 4 rfl) ?_
  refine vp_callSi (W.runS (As := [.float y]) (rest := []) ⟨hx, hb, hml, hown, hts⟩ (c9_isEndlessFloat l y hy9) (va_cwS 1 hts gX9_reckonFloats_X9_isEndlessFloat rfl rfl rfl (by decide +kernel) ⟨Nat.le_of_ble_eq_true rfl, Nat.le_of_ble_eq_true rfl⟩) (preS_of okT (trivial)) rfl rfl hl.1 rfl (lv_room (Nat.le_of_ble_eq_true rfl)) dX9_reckonFloats_7 ⟨Nat.le_of_ble_eq_true rfl, Nat.le_of_ble_eq_true rfl⟩) (fun r2 hr2 => ?_)
  refine lv_istore (lv' := [(5, .int r2), (4, .int r1), (0, .ref o), (1, .int 4), (2, .float x), (3, .float y)]) hx hb dX9_reckonFloats_10 hl (by decide) rfl (fun ls hl => ?_)
  refine lv_iload_n hx hb dX9_reckonFloats_12 rfl (lv_at hl 3 rfl) ?_
  refine lv_if_ne (tgt := 40) hx hb dX9_reckonFloats_13 (by decide) (fun c3 => ?_) (fun c3 => absurd c3 (by decide))
  refine lv_iload_n hx hb dX9_reckonFloats_40 rfl (lv_at hl 3 rfl) ?_
  refine lv_iconst (v := 1) hx hb dX9_reckonFloats_41 (by decide) ?_
  refine lv_icmp_ne (tgt := 69) hx hb dX9_reckonFloats_42 (by decide) (fun c4 => ?_) (fun c4 => absurd c4 (by decide))
  refine lv_iload_n hx hb dX9_reckonFloats_69 rfl (lv_at hl 3 rfl) ?_
  refine lv_iconst (v := 2) hx hb dX9_reckonFloats_70 (by decide) ?_
  refine lv_icmp_ne (tgt := 104) hx hb dX9_reckonFloats_71 (by decide) (fun c5 => ?_) (fun c5 => absurd c5 (by decide))
  refine lv_iload_n hx hb dX9_reckonFloats_104 rfl (lv_at hl 3 rfl) ?_
  refine lv_iconst (v := 3) hx hb dX9_reckonFloats_105 (by decide) ?_
  refine lv_icmp_ne (tgt := 139) hx hb dX9_reckonFloats_106 (by decide) (fun c6 => ?_) (fun c6 => absurd c6 (by decide))
  refine lv_iload hx hb dX9_reckonFloats_139 (lv_at hl 1 rfl) ?_
  refine lv_if_ne (tgt := 150) hx hb dX9_reckonFloats_141 (by decide) (fun c7 => ?_) (fun c7 => ?_)
  · refine lv_iconst (v := 1) hx hb dX9_reckonFloats_150 (by decide) ?_
    refine lv_goto (tgt := 155) hx hb dX9_reckonFloats_151 (by decide) ?_
    refine lv_istore (lv' := [(6, .int 1), (5, .int r2), (4, .int r1), (0, .ref o), (1, .int 4), (2, .float x), (3, .float y)]) hx hb dX9_reckonFloats_155 hl (by decide) rfl (fun ls hl => ?_)
    refine lv_iload hx hb dX9_reckonFloats_157 (lv_at hl 0 rfl) ?_
    refine lv_if_eq (tgt := 168) hx hb dX9_reckonFloats_159 (by decide) (fun c8 => absurd c8 (by decide)) (fun c8 => ?_)
    refine lv_aload_n hx hb dX9_reckonFloats_162 rfl (lv_at hl 3 rfl) ?_
    refine lv_iconst (v := 5) hx hb dX9_reckonFloats_163 (by decide) ?_
    refine pg_put (ci := 8) (v := .int 5) (ty := .int) (C := RX9) (T := TX9) (N := 20) hx hb hts hinX9 tyX9 tyX9_ok nmX9 hown hK hP hD hS hmo hFo rfl 17 (by decide) (hts (.fieldLink RX9 65 "RopeDrumsModel" "failed" "I") (by decide +kernel)) (fun _ h9 => h9) rfl (by decide +kernel) (rfl) (rfl) (Nat.le_of_ble_eq_true rfl) dX9_reckonFloats_164 (fun H locs F9 eF9 hP hS => ?_)
    have eF9 : F9 = va_up F o (.inr (8, [.int th, .ref (qm 0), .ref (qm 1), .ref (qm 2), .ref (qm 3), .ref (qm 4), .ref (qm 5), .ref (qm 6), .ref (qm 7), .int sp, .ref (qm 8), .ref (qm 9), .ref (qm 10), .ref (qm 11), .ref (qm 12), .ref (qm 13), .ref (qm 14), .int 5, .ref (qm 15), .long oc])) := eF9
    have hFo_9 : F9 o = .inr (8, [.int th, .ref (qm 0), .ref (qm 1), .ref (qm 2), .ref (qm 3), .ref (qm 4), .ref (qm 5), .ref (qm 6), .ref (qm 7), .int sp, .ref (qm 8), .ref (qm 9), .ref (qm 10), .ref (qm 11), .ref (qm 12), .ref (qm 13), .ref (qm 14), .int 5, .ref (qm 15), .long oc]) := by rw [eF9]; exact va_up_self _ _ _
    exact W.vret hx hb hr (fun t ht hW => ⟨⟨F9, rfl, (by rw [eF9]), (by show va_P _ _ _ t.heap; rw [ht]; exact hP)⟩, hS.F ht⟩) hS.2.2 dX9_reckonFloats_167
  · refine lv_fload_n hx hb dX9_reckonFloats_144 rfl (lv_at hl 5 rfl) ?_
    refine lv_fconst0 hx hb dX9_reckonFloats_145 ?_
    refine lv_fcmp hx hb dX9_reckonFloats_146 ?_
    refine lv_if_ne (tgt := 154) hx hb dX9_reckonFloats_147 (by decide) (fun c10 => ?_) (fun c10 => ?_)
    · refine lv_iconst (v := 0) hx hb dX9_reckonFloats_154 (by decide) ?_
      refine lv_istore (lv' := [(6, .int 0), (5, .int r2), (4, .int r1), (0, .ref o), (1, .int 4), (2, .float x), (3, .float y)]) hx hb dX9_reckonFloats_155 hl (by decide) rfl (fun ls hl => ?_)
      refine lv_iload hx hb dX9_reckonFloats_157 (lv_at hl 0 rfl) ?_
      refine lv_if_eq (tgt := 168) hx hb dX9_reckonFloats_159 (by decide) (fun c11 => ?_) (fun c11 => absurd (by decide) c11)
      exfalso
      have f1 := pz1 hr1 c7
      have f2 := (not_congr (z_iff32 hy9)).mp c10
      have hv9 := (nan_rem32 hx9 hy9).mp hv
      omega
    · refine lv_iconst (v := 1) hx hb dX9_reckonFloats_150 (by decide) ?_
      refine lv_goto (tgt := 155) hx hb dX9_reckonFloats_151 (by decide) ?_
      refine lv_istore (lv' := [(6, .int 1), (5, .int r2), (4, .int r1), (0, .ref o), (1, .int 4), (2, .float x), (3, .float y)]) hx hb dX9_reckonFloats_155 hl (by decide) rfl (fun ls hl => ?_)
      refine lv_iload hx hb dX9_reckonFloats_157 (lv_at hl 0 rfl) ?_
      refine lv_if_eq (tgt := 168) hx hb dX9_reckonFloats_159 (by decide) (fun c12 => absurd c12 (by decide)) (fun c12 => ?_)
      refine lv_aload_n hx hb dX9_reckonFloats_162 rfl (lv_at hl 3 rfl) ?_
      refine lv_iconst (v := 5) hx hb dX9_reckonFloats_163 (by decide) ?_
      refine pg_put (ci := 8) (v := .int 5) (ty := .int) (C := RX9) (T := TX9) (N := 20) hx hb hts hinX9 tyX9 tyX9_ok nmX9 hown hK hP hD hS hmo hFo rfl 17 (by decide) (hts (.fieldLink RX9 65 "RopeDrumsModel" "failed" "I") (by decide +kernel)) (fun _ h9 => h9) rfl (by decide +kernel) (rfl) (rfl) (Nat.le_of_ble_eq_true rfl) dX9_reckonFloats_164 (fun H locs F13 eF13 hP hS => ?_)
      have eF13 : F13 = va_up F o (.inr (8, [.int th, .ref (qm 0), .ref (qm 1), .ref (qm 2), .ref (qm 3), .ref (qm 4), .ref (qm 5), .ref (qm 6), .ref (qm 7), .int sp, .ref (qm 8), .ref (qm 9), .ref (qm 10), .ref (qm 11), .ref (qm 12), .ref (qm 13), .ref (qm 14), .int 5, .ref (qm 15), .long oc])) := eF13
      have hFo_13 : F13 o = .inr (8, [.int th, .ref (qm 0), .ref (qm 1), .ref (qm 2), .ref (qm 3), .ref (qm 4), .ref (qm 5), .ref (qm 6), .ref (qm 7), .int sp, .ref (qm 8), .ref (qm 9), .ref (qm 10), .ref (qm 11), .ref (qm 12), .ref (qm 13), .ref (qm 14), .int 5, .ref (qm 15), .long oc]) := by rw [eF13]; exact va_up_self _ _ _
      exact W.vret hx hb hr (fun t ht hW => ⟨⟨F13, rfl, (by rw [eF13]), (by show va_P _ _ _ t.heap; rw [ht]; exact hP)⟩, hS.F ht⟩) hS.2.2 dX9_reckonFloats_167

set_option maxHeartbeats 8000000 in
set_option maxRecDepth 100000 in
theorem c9_rD_0 (l : Launch) (G : va_G) (cy : Nat → ClassId) (L : List Nat) (F : Nat → va_E) (sz : Nat) (o : Nat) (qm : Nat → Nat) (th sp fa : Int32) (oc : Int64) (hmo : o ∈ L) (hFo : F o = .inr (8, [.int th, .ref (qm 0), .ref (qm 1), .ref (qm 2), .ref (qm 3), .ref (qm 4), .ref (qm 5), .ref (qm 6), .ref (qm 7), .int sp, .ref (qm 8), .ref (qm 9), .ref (qm 10), .ref (qm 11), .ref (qm 12), .ref (qm 13), .ref (qm 14), .int fa, .ref (qm 15), .long oc])) (x y : UInt64) (hx9 : FP.Core.val64 x ≠ .nan) (hy9 : FP.Core.val64 y ≠ .nan) (hv : FP.Core.dIsNaN (FP.dadd x y) = false)  : Met l yX9_reckonDoubles wsX9_reckonDoubles ({ frames := 2, cells := 0, slots := 0, locals := 45 }) (va_Pc [.ref o, .int 0, .double x, .double y] (fun U => bQ G cy L F sz U U.heap)) (va_Qv (fun F' : Nat → va_E => F' = va_up F o (.inr (8, [.int th, .ref (qm 0), .ref (qm 1), .ref (qm 2), .ref (qm 3), .ref (qm 4), .ref (qm 5), .ref (qm 6), .ref (qm 7), .int sp, .ref (qm 8), .ref (qm 9), .ref (qm 10), .ref (qm 11), .ref (qm 12), .ref (qm 13), .ref (qm 14), .int fa, .ref (qm 15), .long ((FP.dadd x y).toInt64)]))) (fun F' t => va_P G vwCl (va_pl L F') t.heap) (va_A (va_pl L F) sz)) 0 0 (va_A (va_pl L F) sz) := by
  refine Met.ofW (cc := cX9_reckonDoubles) (maxL := 9) (ret := none) (by decide) rfl ?_
  intro p e s m args below meth c s₁ B hml hv
  obtain ⟨rfl, hsz, hP, hK, hD0⟩ := hv
  have hx := B.exec
  have hb := B.bytes
  have hr := B.returns
  have hts := atoms_spec (ws := wsX9_reckonDoubles) B.pre
  have hown : s.vm.findClass RX9 = some m.cls := findClass_of_methodNamed B.named
  have hlocks := B.notSynchronized
  have hinX9 : ∀ w ∈ wsX90, w ∈ wsX9_reckonDoubles := by decide +kernel
  subst hsz
  have hD := hD0.self F s.heap.size
  generalize hAe : va_A (va_pl L F) s.heap.size = A at hD ⊢
  have hA : ∀ q : Nat, s.heap.size ≤ q → A q := fun q h => by rw [← hAe]; exact Or.inr h
  have hS : va_S A s.heap s.heap [] := va_S.rf
  have hl := lv_entry ([.ref o, .int 0, .double x, .double y]) (n := 9) (Nat.le_of_ble_eq_true rfl)
  rw [lg_entry_eq]
  generalize (lg_sl ([.ref o, .int 0, .double x, .double y]) ++ List.replicate (9 - (lg_sl ([.ref o, .int 0, .double x, .double y])).length) Slot.unset).toArray = ls at hl ⊢
  have hl : lv_has ls 9 [(0, .ref o), (1, .int 0), (2, .double x), (4, .double y)] := hl
  refine lv_dload_n hx hb dX9_reckonDoubles_0 rfl (lv_at hl 2 rfl) ?_
  refine vp_callSi (W.runS (As := [.double x]) (rest := []) ⟨hx, hb, hml, hown, hts⟩ (c9_isEndless l x hx9) (va_cwS 1 hts gX9_reckonDoubles_X9_isEndless rfl rfl rfl (by decide +kernel) ⟨Nat.le_of_ble_eq_true rfl, Nat.le_of_ble_eq_true rfl⟩) (preS_of okT (trivial)) rfl rfl hl.1 rfl (lv_room (Nat.le_of_ble_eq_true rfl)) dX9_reckonDoubles_1 ⟨Nat.le_of_ble_eq_true rfl, Nat.le_of_ble_eq_true rfl⟩) (fun r1 hr1 => ?_)
  refine lv_istore (lv' := [(6, .int r1), (0, .ref o), (1, .int 0), (2, .double x), (4, .double y)]) hx hb dX9_reckonDoubles_4 hl (by decide) rfl (fun ls hl => ?_)
  refine lv_dload hx hb dX9_reckonDoubles_6 (lv_at hl 4 rfl) ?_
  refine vp_callSi (W.runS (As := [.double y]) (rest := []) ⟨hx, hb, hml, hown, hts⟩ (c9_isEndless l y hy9) (va_cwS 1 hts gX9_reckonDoubles_X9_isEndless rfl rfl rfl (by decide +kernel) ⟨Nat.le_of_ble_eq_true rfl, Nat.le_of_ble_eq_true rfl⟩) (preS_of okT (trivial)) rfl rfl hl.1 rfl (lv_room (Nat.le_of_ble_eq_true rfl)) dX9_reckonDoubles_8 ⟨Nat.le_of_ble_eq_true rfl, Nat.le_of_ble_eq_true rfl⟩) (fun r2 hr2 => ?_)
  refine lv_istore (lv' := [(7, .int r2), (6, .int r1), (0, .ref o), (1, .int 0), (2, .double x), (4, .double y)]) hx hb dX9_reckonDoubles_11 hl (by decide) rfl (fun ls hl => ?_)
  refine lv_iload_n hx hb dX9_reckonDoubles_13 rfl (lv_at hl 3 rfl) ?_
  refine lv_if_ne (tgt := 42) hx hb dX9_reckonDoubles_14 (by decide) (fun c3 => absurd (by decide) c3) (fun c3 => ?_)
  refine lv_iload hx hb dX9_reckonDoubles_17 (lv_at hl 1 rfl) ?_
  refine lv_if_eq (tgt := 38) hx hb dX9_reckonDoubles_19 (by decide) (fun c4 => ?_) (fun c4 => ?_)
  · refine lv_iconst (v := 0) hx hb dX9_reckonDoubles_38 (by decide) ?_
    refine lv_goto (tgt := 161) hx hb dX9_reckonDoubles_39 (by decide) ?_
    refine lv_istore (lv' := [(8, .int 0), (7, .int r2), (6, .int r1), (0, .ref o), (1, .int 0), (2, .double x), (4, .double y)]) hx hb dX9_reckonDoubles_161 hl (by decide) rfl (fun ls hl => ?_)
    refine lv_iload hx hb dX9_reckonDoubles_163 (lv_at hl 0 rfl) ?_
    refine lv_if_eq (tgt := 174) hx hb dX9_reckonDoubles_165 (by decide) (fun c5 => ?_) (fun c5 => absurd (by decide) c5)
    refine lv_aload_n hx hb dX9_reckonDoubles_174 rfl (lv_at hl 3 rfl) ?_
    refine lv_iload_n hx hb dX9_reckonDoubles_175 rfl (lv_at hl 4 rfl) ?_
    refine lv_if_ne (tgt := 186) hx hb dX9_reckonDoubles_176 (by decide) (fun c6 => absurd (by decide) c6) (fun c6 => ?_)
    refine lv_dload_n hx hb dX9_reckonDoubles_179 rfl (lv_at hl 5 rfl) ?_
    refine lv_dload hx hb dX9_reckonDoubles_180 (lv_at hl 6 rfl) ?_
    refine lv_dadd hx hb dX9_reckonDoubles_182 (n64.mpr ((FP.Core.notNaN_iff _).mp hv)) ?_
    refine lv_topd (fun v7 ev7 => ?_)
    refine lv_goto (tgt := 235) hx hb dX9_reckonDoubles_183 (by decide) ?_
    refine vp_callSl (W.runS (As := [.double v7]) (rest := [.ref o]) ⟨hx, hb, hml, hown, hts⟩ (c9_d2lb l v7 (by rw [ev7]; exact (FP.Core.notNaN_iff _).mp hv)) (va_cwS 1 hts gX9_reckonDoubles_Jxe99ae_doubleToLongBits_ccdee rfl rfl rfl (by decide +kernel) ⟨Nat.le_of_ble_eq_true rfl, Nat.le_of_ble_eq_true rfl⟩) (preS_of okT (trivial)) rfl rfl hl.1 rfl (lv_room (Nat.le_of_ble_eq_true rfl)) dX9_reckonDoubles_235 ⟨Nat.le_of_ble_eq_true rfl, Nat.le_of_ble_eq_true rfl⟩) (fun r8 hr8 => ?_)
    refine pg_put (ci := 8) (v := .long r8) (ty := .long) (C := RX9) (T := TX9) (N := 20) hx hb hts hinX9 tyX9 tyX9_ok nmX9 hown hK hP hD hS hmo hFo rfl 19 (by decide) (hts (.fieldLink RX9 131 "RopeDrumsModel" "outcome" "J") (by decide +kernel)) (fun _ h9 => h9) rfl (by decide +kernel) (rfl) (rfl) (Nat.le_of_ble_eq_true rfl) dX9_reckonDoubles_238 (fun H locs F9 eF9 hP hS => ?_)
    have eF9 : F9 = va_up F o (.inr (8, [.int th, .ref (qm 0), .ref (qm 1), .ref (qm 2), .ref (qm 3), .ref (qm 4), .ref (qm 5), .ref (qm 6), .ref (qm 7), .int sp, .ref (qm 8), .ref (qm 9), .ref (qm 10), .ref (qm 11), .ref (qm 12), .ref (qm 13), .ref (qm 14), .int fa, .ref (qm 15), .long r8])) := eF9
    have hFo_9 : F9 o = .inr (8, [.int th, .ref (qm 0), .ref (qm 1), .ref (qm 2), .ref (qm 3), .ref (qm 4), .ref (qm 5), .ref (qm 6), .ref (qm 7), .int sp, .ref (qm 8), .ref (qm 9), .ref (qm 10), .ref (qm 11), .ref (qm 12), .ref (qm 13), .ref (qm 14), .int fa, .ref (qm 15), .long r8]) := by rw [eF9]; exact va_up_self _ _ _
    exact W.vret hx hb hr (fun t ht hW => ⟨⟨F9, rfl, (by rw [eF9]; rw [hr8, ev7]), (by show va_P _ _ _ t.heap; rw [ht]; exact hP)⟩, hS.F ht⟩) hS.2.2 dX9_reckonDoubles_241
  · refine lv_iload hx hb dX9_reckonDoubles_22 (lv_at hl 0 rfl) ?_
    refine lv_if_eq (tgt := 38) hx hb dX9_reckonDoubles_24 (by decide) (fun c10 => ?_) (fun c10 => ?_)
    · refine lv_iconst (v := 0) hx hb dX9_reckonDoubles_38 (by decide) ?_
      refine lv_goto (tgt := 161) hx hb dX9_reckonDoubles_39 (by decide) ?_
      refine lv_istore (lv' := [(8, .int 0), (7, .int r2), (6, .int r1), (0, .ref o), (1, .int 0), (2, .double x), (4, .double y)]) hx hb dX9_reckonDoubles_161 hl (by decide) rfl (fun ls hl => ?_)
      refine lv_iload hx hb dX9_reckonDoubles_163 (lv_at hl 0 rfl) ?_
      refine lv_if_eq (tgt := 174) hx hb dX9_reckonDoubles_165 (by decide) (fun c11 => ?_) (fun c11 => absurd (by decide) c11)
      refine lv_aload_n hx hb dX9_reckonDoubles_174 rfl (lv_at hl 3 rfl) ?_
      refine lv_iload_n hx hb dX9_reckonDoubles_175 rfl (lv_at hl 4 rfl) ?_
      refine lv_if_ne (tgt := 186) hx hb dX9_reckonDoubles_176 (by decide) (fun c12 => absurd (by decide) c12) (fun c12 => ?_)
      refine lv_dload_n hx hb dX9_reckonDoubles_179 rfl (lv_at hl 5 rfl) ?_
      refine lv_dload hx hb dX9_reckonDoubles_180 (lv_at hl 6 rfl) ?_
      refine lv_dadd hx hb dX9_reckonDoubles_182 (n64.mpr ((FP.Core.notNaN_iff _).mp hv)) ?_
      refine lv_topd (fun v13 ev13 => ?_)
      refine lv_goto (tgt := 235) hx hb dX9_reckonDoubles_183 (by decide) ?_
      refine vp_callSl (W.runS (As := [.double v13]) (rest := [.ref o]) ⟨hx, hb, hml, hown, hts⟩ (c9_d2lb l v13 (by rw [ev13]; exact (FP.Core.notNaN_iff _).mp hv)) (va_cwS 1 hts gX9_reckonDoubles_Jxe99ae_doubleToLongBits_ccdee rfl rfl rfl (by decide +kernel) ⟨Nat.le_of_ble_eq_true rfl, Nat.le_of_ble_eq_true rfl⟩) (preS_of okT (trivial)) rfl rfl hl.1 rfl (lv_room (Nat.le_of_ble_eq_true rfl)) dX9_reckonDoubles_235 ⟨Nat.le_of_ble_eq_true rfl, Nat.le_of_ble_eq_true rfl⟩) (fun r14 hr14 => ?_)
      refine pg_put (ci := 8) (v := .long r14) (ty := .long) (C := RX9) (T := TX9) (N := 20) hx hb hts hinX9 tyX9 tyX9_ok nmX9 hown hK hP hD hS hmo hFo rfl 19 (by decide) (hts (.fieldLink RX9 131 "RopeDrumsModel" "outcome" "J") (by decide +kernel)) (fun _ h9 => h9) rfl (by decide +kernel) (rfl) (rfl) (Nat.le_of_ble_eq_true rfl) dX9_reckonDoubles_238 (fun H locs F15 eF15 hP hS => ?_)
      have eF15 : F15 = va_up F o (.inr (8, [.int th, .ref (qm 0), .ref (qm 1), .ref (qm 2), .ref (qm 3), .ref (qm 4), .ref (qm 5), .ref (qm 6), .ref (qm 7), .int sp, .ref (qm 8), .ref (qm 9), .ref (qm 10), .ref (qm 11), .ref (qm 12), .ref (qm 13), .ref (qm 14), .int fa, .ref (qm 15), .long r14])) := eF15
      have hFo_15 : F15 o = .inr (8, [.int th, .ref (qm 0), .ref (qm 1), .ref (qm 2), .ref (qm 3), .ref (qm 4), .ref (qm 5), .ref (qm 6), .ref (qm 7), .int sp, .ref (qm 8), .ref (qm 9), .ref (qm 10), .ref (qm 11), .ref (qm 12), .ref (qm 13), .ref (qm 14), .int fa, .ref (qm 15), .long r14]) := by rw [eF15]; exact va_up_self _ _ _
      exact W.vret hx hb hr (fun t ht hW => ⟨⟨F15, rfl, (by rw [eF15]; rw [hr14, ev13]), (by show va_P _ _ _ t.heap; rw [ht]; exact hP)⟩, hS.F ht⟩) hS.2.2 dX9_reckonDoubles_241
    · refine lv_dload_n hx hb dX9_reckonDoubles_27 rfl (lv_at hl 4 rfl) ?_
      refine lv_dload hx hb dX9_reckonDoubles_28 (lv_at hl 5 rfl) ?_
      refine lv_dcmp hx hb dX9_reckonDoubles_30 ?_
      refine lv_if_eq (tgt := 38) hx hb dX9_reckonDoubles_31 (by decide) (fun c16 => ?_) (fun c16 => ?_)
      · refine lv_iconst (v := 0) hx hb dX9_reckonDoubles_38 (by decide) ?_
        refine lv_goto (tgt := 161) hx hb dX9_reckonDoubles_39 (by decide) ?_
        refine lv_istore (lv' := [(8, .int 0), (7, .int r2), (6, .int r1), (0, .ref o), (1, .int 0), (2, .double x), (4, .double y)]) hx hb dX9_reckonDoubles_161 hl (by decide) rfl (fun ls hl => ?_)
        refine lv_iload hx hb dX9_reckonDoubles_163 (lv_at hl 0 rfl) ?_
        refine lv_if_eq (tgt := 174) hx hb dX9_reckonDoubles_165 (by decide) (fun c17 => ?_) (fun c17 => absurd (by decide) c17)
        refine lv_aload_n hx hb dX9_reckonDoubles_174 rfl (lv_at hl 3 rfl) ?_
        refine lv_iload_n hx hb dX9_reckonDoubles_175 rfl (lv_at hl 4 rfl) ?_
        refine lv_if_ne (tgt := 186) hx hb dX9_reckonDoubles_176 (by decide) (fun c18 => absurd (by decide) c18) (fun c18 => ?_)
        refine lv_dload_n hx hb dX9_reckonDoubles_179 rfl (lv_at hl 5 rfl) ?_
        refine lv_dload hx hb dX9_reckonDoubles_180 (lv_at hl 6 rfl) ?_
        refine lv_dadd hx hb dX9_reckonDoubles_182 (n64.mpr ((FP.Core.notNaN_iff _).mp hv)) ?_
        refine lv_topd (fun v19 ev19 => ?_)
        refine lv_goto (tgt := 235) hx hb dX9_reckonDoubles_183 (by decide) ?_
        refine vp_callSl (W.runS (As := [.double v19]) (rest := [.ref o]) ⟨hx, hb, hml, hown, hts⟩ (c9_d2lb l v19 (by rw [ev19]; exact (FP.Core.notNaN_iff _).mp hv)) (va_cwS 1 hts gX9_reckonDoubles_Jxe99ae_doubleToLongBits_ccdee rfl rfl rfl (by decide +kernel) ⟨Nat.le_of_ble_eq_true rfl, Nat.le_of_ble_eq_true rfl⟩) (preS_of okT (trivial)) rfl rfl hl.1 rfl (lv_room (Nat.le_of_ble_eq_true rfl)) dX9_reckonDoubles_235 ⟨Nat.le_of_ble_eq_true rfl, Nat.le_of_ble_eq_true rfl⟩) (fun r20 hr20 => ?_)
        refine pg_put (ci := 8) (v := .long r20) (ty := .long) (C := RX9) (T := TX9) (N := 20) hx hb hts hinX9 tyX9 tyX9_ok nmX9 hown hK hP hD hS hmo hFo rfl 19 (by decide) (hts (.fieldLink RX9 131 "RopeDrumsModel" "outcome" "J") (by decide +kernel)) (fun _ h9 => h9) rfl (by decide +kernel) (rfl) (rfl) (Nat.le_of_ble_eq_true rfl) dX9_reckonDoubles_238 (fun H locs F21 eF21 hP hS => ?_)
        have eF21 : F21 = va_up F o (.inr (8, [.int th, .ref (qm 0), .ref (qm 1), .ref (qm 2), .ref (qm 3), .ref (qm 4), .ref (qm 5), .ref (qm 6), .ref (qm 7), .int sp, .ref (qm 8), .ref (qm 9), .ref (qm 10), .ref (qm 11), .ref (qm 12), .ref (qm 13), .ref (qm 14), .int fa, .ref (qm 15), .long r20])) := eF21
        have hFo_21 : F21 o = .inr (8, [.int th, .ref (qm 0), .ref (qm 1), .ref (qm 2), .ref (qm 3), .ref (qm 4), .ref (qm 5), .ref (qm 6), .ref (qm 7), .int sp, .ref (qm 8), .ref (qm 9), .ref (qm 10), .ref (qm 11), .ref (qm 12), .ref (qm 13), .ref (qm 14), .int fa, .ref (qm 15), .long r20]) := by rw [eF21]; exact va_up_self _ _ _
        exact W.vret hx hb hr (fun t ht hW => ⟨⟨F21, rfl, (by rw [eF21]; rw [hr20, ev19]), (by show va_P _ _ _ t.heap; rw [ht]; exact hP)⟩, hS.F ht⟩) hS.2.2 dX9_reckonDoubles_241
      · refine lv_iconst (v := 1) hx hb dX9_reckonDoubles_34 (by decide) ?_
        refine lv_goto (tgt := 161) hx hb dX9_reckonDoubles_35 (by decide) ?_
        refine lv_istore (lv' := [(8, .int 1), (7, .int r2), (6, .int r1), (0, .ref o), (1, .int 0), (2, .double x), (4, .double y)]) hx hb dX9_reckonDoubles_161 hl (by decide) rfl (fun ls hl => ?_)
        refine lv_iload hx hb dX9_reckonDoubles_163 (lv_at hl 0 rfl) ?_
        refine lv_if_eq (tgt := 174) hx hb dX9_reckonDoubles_165 (by decide) (fun c22 => absurd c22 (by decide)) (fun c22 => ?_)
        exfalso
        have f1 := pz2 hr1 c4
        have f2 := pz2 hr2 c10
        have f3 := (not_congr (eq_iff hx9 hy9)).mp c16
        have hv9 := (not_congr (nan_add hx9 hy9)).mp (by rw [hv]; decide)
        have hk9 := keyE f1 f2
        exact hv9 ⟨f1, f2, by first | exact hk9.mp (by assumption) | exact fun z => absurd (hk9.mpr z) (by assumption)⟩

set_option maxHeartbeats 8000000 in
set_option maxRecDepth 100000 in
theorem c9_rD_0_no (l : Launch) (G : va_G) (cy : Nat → ClassId) (L : List Nat) (F : Nat → va_E) (sz : Nat) (o : Nat) (qm : Nat → Nat) (th sp fa : Int32) (oc : Int64) (hmo : o ∈ L) (hFo : F o = .inr (8, [.int th, .ref (qm 0), .ref (qm 1), .ref (qm 2), .ref (qm 3), .ref (qm 4), .ref (qm 5), .ref (qm 6), .ref (qm 7), .int sp, .ref (qm 8), .ref (qm 9), .ref (qm 10), .ref (qm 11), .ref (qm 12), .ref (qm 13), .ref (qm 14), .int fa, .ref (qm 15), .long oc])) (x y : UInt64) (hx9 : FP.Core.val64 x ≠ .nan) (hy9 : FP.Core.val64 y ≠ .nan) (hv : FP.Core.dIsNaN (FP.dadd x y) = true)  : Met l yX9_reckonDoubles wsX9_reckonDoubles ({ frames := 2, cells := 0, slots := 0, locals := 45 }) (va_Pc [.ref o, .int 0, .double x, .double y] (fun U => bQ G cy L F sz U U.heap)) (va_Qv (fun F' : Nat → va_E => F' = va_up F o (.inr (8, [.int th, .ref (qm 0), .ref (qm 1), .ref (qm 2), .ref (qm 3), .ref (qm 4), .ref (qm 5), .ref (qm 6), .ref (qm 7), .int sp, .ref (qm 8), .ref (qm 9), .ref (qm 10), .ref (qm 11), .ref (qm 12), .ref (qm 13), .ref (qm 14), .int 5, .ref (qm 15), .long oc]))) (fun F' t => va_P G vwCl (va_pl L F') t.heap) (va_A (va_pl L F) sz)) 0 0 (va_A (va_pl L F) sz) := by
  refine Met.ofW (cc := cX9_reckonDoubles) (maxL := 9) (ret := none) (by decide) rfl ?_
  intro p e s m args below meth c s₁ B hml hv
  obtain ⟨rfl, hsz, hP, hK, hD0⟩ := hv
  have hx := B.exec
  have hb := B.bytes
  have hr := B.returns
  have hts := atoms_spec (ws := wsX9_reckonDoubles) B.pre
  have hown : s.vm.findClass RX9 = some m.cls := findClass_of_methodNamed B.named
  have hlocks := B.notSynchronized
  have hinX9 : ∀ w ∈ wsX90, w ∈ wsX9_reckonDoubles := by decide +kernel
  subst hsz
  have hD := hD0.self F s.heap.size
  generalize hAe : va_A (va_pl L F) s.heap.size = A at hD ⊢
  have hA : ∀ q : Nat, s.heap.size ≤ q → A q := fun q h => by rw [← hAe]; exact Or.inr h
  have hS : va_S A s.heap s.heap [] := va_S.rf
  have hl := lv_entry ([.ref o, .int 0, .double x, .double y]) (n := 9) (Nat.le_of_ble_eq_true rfl)
  rw [lg_entry_eq]
  generalize (lg_sl ([.ref o, .int 0, .double x, .double y]) ++ List.replicate (9 - (lg_sl ([.ref o, .int 0, .double x, .double y])).length) Slot.unset).toArray = ls at hl ⊢
  have hl : lv_has ls 9 [(0, .ref o), (1, .int 0), (2, .double x), (4, .double y)] := hl
  refine lv_dload_n hx hb dX9_reckonDoubles_0 rfl (lv_at hl 2 rfl) ?_
  refine vp_callSi (W.runS (As := [.double x]) (rest := []) ⟨hx, hb, hml, hown, hts⟩ (c9_isEndless l x hx9) (va_cwS 1 hts gX9_reckonDoubles_X9_isEndless rfl rfl rfl (by decide +kernel) ⟨Nat.le_of_ble_eq_true rfl, Nat.le_of_ble_eq_true rfl⟩) (preS_of okT (trivial)) rfl rfl hl.1 rfl (lv_room (Nat.le_of_ble_eq_true rfl)) dX9_reckonDoubles_1 ⟨Nat.le_of_ble_eq_true rfl, Nat.le_of_ble_eq_true rfl⟩) (fun r1 hr1 => ?_)
  refine lv_istore (lv' := [(6, .int r1), (0, .ref o), (1, .int 0), (2, .double x), (4, .double y)]) hx hb dX9_reckonDoubles_4 hl (by decide) rfl (fun ls hl => ?_)
  refine lv_dload hx hb dX9_reckonDoubles_6 (lv_at hl 4 rfl) ?_
  refine vp_callSi (W.runS (As := [.double y]) (rest := []) ⟨hx, hb, hml, hown, hts⟩ (c9_isEndless l y hy9) (va_cwS 1 hts gX9_reckonDoubles_X9_isEndless rfl rfl rfl (by decide +kernel) ⟨Nat.le_of_ble_eq_true rfl, Nat.le_of_ble_eq_true rfl⟩) (preS_of okT (trivial)) rfl rfl hl.1 rfl (lv_room (Nat.le_of_ble_eq_true rfl)) dX9_reckonDoubles_8 ⟨Nat.le_of_ble_eq_true rfl, Nat.le_of_ble_eq_true rfl⟩) (fun r2 hr2 => ?_)
  refine lv_istore (lv' := [(7, .int r2), (6, .int r1), (0, .ref o), (1, .int 0), (2, .double x), (4, .double y)]) hx hb dX9_reckonDoubles_11 hl (by decide) rfl (fun ls hl => ?_)
  refine lv_iload_n hx hb dX9_reckonDoubles_13 rfl (lv_at hl 3 rfl) ?_
  refine lv_if_ne (tgt := 42) hx hb dX9_reckonDoubles_14 (by decide) (fun c3 => absurd (by decide) c3) (fun c3 => ?_)
  refine lv_iload hx hb dX9_reckonDoubles_17 (lv_at hl 1 rfl) ?_
  refine lv_if_eq (tgt := 38) hx hb dX9_reckonDoubles_19 (by decide) (fun c4 => ?_) (fun c4 => ?_)
  · refine lv_iconst (v := 0) hx hb dX9_reckonDoubles_38 (by decide) ?_
    refine lv_goto (tgt := 161) hx hb dX9_reckonDoubles_39 (by decide) ?_
    refine lv_istore (lv' := [(8, .int 0), (7, .int r2), (6, .int r1), (0, .ref o), (1, .int 0), (2, .double x), (4, .double y)]) hx hb dX9_reckonDoubles_161 hl (by decide) rfl (fun ls hl => ?_)
    refine lv_iload hx hb dX9_reckonDoubles_163 (lv_at hl 0 rfl) ?_
    refine lv_if_eq (tgt := 174) hx hb dX9_reckonDoubles_165 (by decide) (fun c5 => ?_) (fun c5 => absurd (by decide) c5)
    exfalso
    have f1 := pz1 hr1 c4
    have hv9 := (nan_add hx9 hy9).mp hv
    omega
  · refine lv_iload hx hb dX9_reckonDoubles_22 (lv_at hl 0 rfl) ?_
    refine lv_if_eq (tgt := 38) hx hb dX9_reckonDoubles_24 (by decide) (fun c6 => ?_) (fun c6 => ?_)
    · refine lv_iconst (v := 0) hx hb dX9_reckonDoubles_38 (by decide) ?_
      refine lv_goto (tgt := 161) hx hb dX9_reckonDoubles_39 (by decide) ?_
      refine lv_istore (lv' := [(8, .int 0), (7, .int r2), (6, .int r1), (0, .ref o), (1, .int 0), (2, .double x), (4, .double y)]) hx hb dX9_reckonDoubles_161 hl (by decide) rfl (fun ls hl => ?_)
      refine lv_iload hx hb dX9_reckonDoubles_163 (lv_at hl 0 rfl) ?_
      refine lv_if_eq (tgt := 174) hx hb dX9_reckonDoubles_165 (by decide) (fun c7 => ?_) (fun c7 => absurd (by decide) c7)
      exfalso
      have f1 := pz2 hr1 c4
      have f2 := pz1 hr2 c6
      have hv9 := (nan_add hx9 hy9).mp hv
      omega
    · refine lv_dload_n hx hb dX9_reckonDoubles_27 rfl (lv_at hl 4 rfl) ?_
      refine lv_dload hx hb dX9_reckonDoubles_28 (lv_at hl 5 rfl) ?_
      refine lv_dcmp hx hb dX9_reckonDoubles_30 ?_
      refine lv_if_eq (tgt := 38) hx hb dX9_reckonDoubles_31 (by decide) (fun c8 => ?_) (fun c8 => ?_)
      · refine lv_iconst (v := 0) hx hb dX9_reckonDoubles_38 (by decide) ?_
        refine lv_goto (tgt := 161) hx hb dX9_reckonDoubles_39 (by decide) ?_
        refine lv_istore (lv' := [(8, .int 0), (7, .int r2), (6, .int r1), (0, .ref o), (1, .int 0), (2, .double x), (4, .double y)]) hx hb dX9_reckonDoubles_161 hl (by decide) rfl (fun ls hl => ?_)
        refine lv_iload hx hb dX9_reckonDoubles_163 (lv_at hl 0 rfl) ?_
        refine lv_if_eq (tgt := 174) hx hb dX9_reckonDoubles_165 (by decide) (fun c9 => ?_) (fun c9 => absurd (by decide) c9)
        exfalso
        have f1 := pz2 hr1 c4
        have f2 := pz2 hr2 c6
        have f3 := (eq_iff hx9 hy9).mp c8
        have hv9 := (nan_add hx9 hy9).mp hv
        have hk9 := keyE f1 f2
        first | exact absurd (hk9.mpr hv9.2.2) (by assumption) | exact hv9.2.2 (hk9.mp (by assumption))
      · refine lv_iconst (v := 1) hx hb dX9_reckonDoubles_34 (by decide) ?_
        refine lv_goto (tgt := 161) hx hb dX9_reckonDoubles_35 (by decide) ?_
        refine lv_istore (lv' := [(8, .int 1), (7, .int r2), (6, .int r1), (0, .ref o), (1, .int 0), (2, .double x), (4, .double y)]) hx hb dX9_reckonDoubles_161 hl (by decide) rfl (fun ls hl => ?_)
        refine lv_iload hx hb dX9_reckonDoubles_163 (lv_at hl 0 rfl) ?_
        refine lv_if_eq (tgt := 174) hx hb dX9_reckonDoubles_165 (by decide) (fun c10 => absurd c10 (by decide)) (fun c10 => ?_)
        refine lv_aload_n hx hb dX9_reckonDoubles_168 rfl (lv_at hl 3 rfl) ?_
        refine lv_iconst (v := 5) hx hb dX9_reckonDoubles_169 (by decide) ?_
        refine pg_put (ci := 8) (v := .int 5) (ty := .int) (C := RX9) (T := TX9) (N := 20) hx hb hts hinX9 tyX9 tyX9_ok nmX9 hown hK hP hD hS hmo hFo rfl 17 (by decide) (hts (.fieldLink RX9 65 "RopeDrumsModel" "failed" "I") (by decide +kernel)) (fun _ h9 => h9) rfl (by decide +kernel) (rfl) (rfl) (Nat.le_of_ble_eq_true rfl) dX9_reckonDoubles_170 (fun H locs F11 eF11 hP hS => ?_)
        have eF11 : F11 = va_up F o (.inr (8, [.int th, .ref (qm 0), .ref (qm 1), .ref (qm 2), .ref (qm 3), .ref (qm 4), .ref (qm 5), .ref (qm 6), .ref (qm 7), .int sp, .ref (qm 8), .ref (qm 9), .ref (qm 10), .ref (qm 11), .ref (qm 12), .ref (qm 13), .ref (qm 14), .int 5, .ref (qm 15), .long oc])) := eF11
        have hFo_11 : F11 o = .inr (8, [.int th, .ref (qm 0), .ref (qm 1), .ref (qm 2), .ref (qm 3), .ref (qm 4), .ref (qm 5), .ref (qm 6), .ref (qm 7), .int sp, .ref (qm 8), .ref (qm 9), .ref (qm 10), .ref (qm 11), .ref (qm 12), .ref (qm 13), .ref (qm 14), .int 5, .ref (qm 15), .long oc]) := by rw [eF11]; exact va_up_self _ _ _
        exact W.vret hx hb hr (fun t ht hW => ⟨⟨F11, rfl, (by rw [eF11]), (by show va_P _ _ _ t.heap; rw [ht]; exact hP)⟩, hS.F ht⟩) hS.2.2 dX9_reckonDoubles_173

set_option maxHeartbeats 8000000 in
set_option maxRecDepth 100000 in
theorem c9_rD_1 (l : Launch) (G : va_G) (cy : Nat → ClassId) (L : List Nat) (F : Nat → va_E) (sz : Nat) (o : Nat) (qm : Nat → Nat) (th sp fa : Int32) (oc : Int64) (hmo : o ∈ L) (hFo : F o = .inr (8, [.int th, .ref (qm 0), .ref (qm 1), .ref (qm 2), .ref (qm 3), .ref (qm 4), .ref (qm 5), .ref (qm 6), .ref (qm 7), .int sp, .ref (qm 8), .ref (qm 9), .ref (qm 10), .ref (qm 11), .ref (qm 12), .ref (qm 13), .ref (qm 14), .int fa, .ref (qm 15), .long oc])) (x y : UInt64) (hx9 : FP.Core.val64 x ≠ .nan) (hy9 : FP.Core.val64 y ≠ .nan) (hv : FP.Core.dIsNaN (FP.dsub x y) = false)  : Met l yX9_reckonDoubles wsX9_reckonDoubles ({ frames := 2, cells := 0, slots := 0, locals := 45 }) (va_Pc [.ref o, .int 1, .double x, .double y] (fun U => bQ G cy L F sz U U.heap)) (va_Qv (fun F' : Nat → va_E => F' = va_up F o (.inr (8, [.int th, .ref (qm 0), .ref (qm 1), .ref (qm 2), .ref (qm 3), .ref (qm 4), .ref (qm 5), .ref (qm 6), .ref (qm 7), .int sp, .ref (qm 8), .ref (qm 9), .ref (qm 10), .ref (qm 11), .ref (qm 12), .ref (qm 13), .ref (qm 14), .int fa, .ref (qm 15), .long ((FP.dsub x y).toInt64)]))) (fun F' t => va_P G vwCl (va_pl L F') t.heap) (va_A (va_pl L F) sz)) 0 0 (va_A (va_pl L F) sz) := by
  refine Met.ofW (cc := cX9_reckonDoubles) (maxL := 9) (ret := none) (by decide) rfl ?_
  intro p e s m args below meth c s₁ B hml hv
  obtain ⟨rfl, hsz, hP, hK, hD0⟩ := hv
  have hx := B.exec
  have hb := B.bytes
  have hr := B.returns
  have hts := atoms_spec (ws := wsX9_reckonDoubles) B.pre
  have hown : s.vm.findClass RX9 = some m.cls := findClass_of_methodNamed B.named
  have hlocks := B.notSynchronized
  have hinX9 : ∀ w ∈ wsX90, w ∈ wsX9_reckonDoubles := by decide +kernel
  subst hsz
  have hD := hD0.self F s.heap.size
  generalize hAe : va_A (va_pl L F) s.heap.size = A at hD ⊢
  have hA : ∀ q : Nat, s.heap.size ≤ q → A q := fun q h => by rw [← hAe]; exact Or.inr h
  have hS : va_S A s.heap s.heap [] := va_S.rf
  have hl := lv_entry ([.ref o, .int 1, .double x, .double y]) (n := 9) (Nat.le_of_ble_eq_true rfl)
  rw [lg_entry_eq]
  generalize (lg_sl ([.ref o, .int 1, .double x, .double y]) ++ List.replicate (9 - (lg_sl ([.ref o, .int 1, .double x, .double y])).length) Slot.unset).toArray = ls at hl ⊢
  have hl : lv_has ls 9 [(0, .ref o), (1, .int 1), (2, .double x), (4, .double y)] := hl
  refine lv_dload_n hx hb dX9_reckonDoubles_0 rfl (lv_at hl 2 rfl) ?_
  refine vp_callSi (W.runS (As := [.double x]) (rest := []) ⟨hx, hb, hml, hown, hts⟩ (c9_isEndless l x hx9) (va_cwS 1 hts gX9_reckonDoubles_X9_isEndless rfl rfl rfl (by decide +kernel) ⟨Nat.le_of_ble_eq_true rfl, Nat.le_of_ble_eq_true rfl⟩) (preS_of okT (trivial)) rfl rfl hl.1 rfl (lv_room (Nat.le_of_ble_eq_true rfl)) dX9_reckonDoubles_1 ⟨Nat.le_of_ble_eq_true rfl, Nat.le_of_ble_eq_true rfl⟩) (fun r1 hr1 => ?_)
  refine lv_istore (lv' := [(6, .int r1), (0, .ref o), (1, .int 1), (2, .double x), (4, .double y)]) hx hb dX9_reckonDoubles_4 hl (by decide) rfl (fun ls hl => ?_)
  refine lv_dload hx hb dX9_reckonDoubles_6 (lv_at hl 4 rfl) ?_
  refine vp_callSi (W.runS (As := [.double y]) (rest := []) ⟨hx, hb, hml, hown, hts⟩ (c9_isEndless l y hy9) (va_cwS 1 hts gX9_reckonDoubles_X9_isEndless rfl rfl rfl (by decide +kernel) ⟨Nat.le_of_ble_eq_true rfl, Nat.le_of_ble_eq_true rfl⟩) (preS_of okT (trivial)) rfl rfl hl.1 rfl (lv_room (Nat.le_of_ble_eq_true rfl)) dX9_reckonDoubles_8 ⟨Nat.le_of_ble_eq_true rfl, Nat.le_of_ble_eq_true rfl⟩) (fun r2 hr2 => ?_)
  refine lv_istore (lv' := [(7, .int r2), (6, .int r1), (0, .ref o), (1, .int 1), (2, .double x), (4, .double y)]) hx hb dX9_reckonDoubles_11 hl (by decide) rfl (fun ls hl => ?_)
  refine lv_iload_n hx hb dX9_reckonDoubles_13 rfl (lv_at hl 3 rfl) ?_
  refine lv_if_ne (tgt := 42) hx hb dX9_reckonDoubles_14 (by decide) (fun c3 => ?_) (fun c3 => absurd c3 (by decide))
  refine lv_iload_n hx hb dX9_reckonDoubles_42 rfl (lv_at hl 3 rfl) ?_
  refine lv_iconst (v := 1) hx hb dX9_reckonDoubles_43 (by decide) ?_
  refine lv_icmp_ne (tgt := 72) hx hb dX9_reckonDoubles_44 (by decide) (fun c4 => absurd (by decide) c4) (fun c4 => ?_)
  refine lv_iload hx hb dX9_reckonDoubles_47 (lv_at hl 1 rfl) ?_
  refine lv_if_eq (tgt := 68) hx hb dX9_reckonDoubles_49 (by decide) (fun c5 => ?_) (fun c5 => ?_)
  · refine lv_iconst (v := 0) hx hb dX9_reckonDoubles_68 (by decide) ?_
    refine lv_goto (tgt := 161) hx hb dX9_reckonDoubles_69 (by decide) ?_
    refine lv_istore (lv' := [(8, .int 0), (7, .int r2), (6, .int r1), (0, .ref o), (1, .int 1), (2, .double x), (4, .double y)]) hx hb dX9_reckonDoubles_161 hl (by decide) rfl (fun ls hl => ?_)
    refine lv_iload hx hb dX9_reckonDoubles_163 (lv_at hl 0 rfl) ?_
    refine lv_if_eq (tgt := 174) hx hb dX9_reckonDoubles_165 (by decide) (fun c6 => ?_) (fun c6 => absurd (by decide) c6)
    refine lv_aload_n hx hb dX9_reckonDoubles_174 rfl (lv_at hl 3 rfl) ?_
    refine lv_iload_n hx hb dX9_reckonDoubles_175 rfl (lv_at hl 4 rfl) ?_
    refine lv_if_ne (tgt := 186) hx hb dX9_reckonDoubles_176 (by decide) (fun c7 => ?_) (fun c7 => absurd c7 (by decide))
    refine lv_iload_n hx hb dX9_reckonDoubles_186 rfl (lv_at hl 4 rfl) ?_
    refine lv_iconst (v := 1) hx hb dX9_reckonDoubles_187 (by decide) ?_
    refine lv_icmp_ne (tgt := 198) hx hb dX9_reckonDoubles_188 (by decide) (fun c8 => absurd (by decide) c8) (fun c8 => ?_)
    refine lv_dload_n hx hb dX9_reckonDoubles_191 rfl (lv_at hl 5 rfl) ?_
    refine lv_dload hx hb dX9_reckonDoubles_192 (lv_at hl 6 rfl) ?_
    refine lv_dsub hx hb dX9_reckonDoubles_194 (n64.mpr ((FP.Core.notNaN_iff _).mp hv)) ?_
    refine lv_topd (fun v9 ev9 => ?_)
    refine lv_goto (tgt := 235) hx hb dX9_reckonDoubles_195 (by decide) ?_
    refine vp_callSl (W.runS (As := [.double v9]) (rest := [.ref o]) ⟨hx, hb, hml, hown, hts⟩ (c9_d2lb l v9 (by rw [ev9]; exact (FP.Core.notNaN_iff _).mp hv)) (va_cwS 1 hts gX9_reckonDoubles_Jxe99ae_doubleToLongBits_ccdee rfl rfl rfl (by decide +kernel) ⟨Nat.le_of_ble_eq_true rfl, Nat.le_of_ble_eq_true rfl⟩) (preS_of okT (trivial)) rfl rfl hl.1 rfl (lv_room (Nat.le_of_ble_eq_true rfl)) dX9_reckonDoubles_235 ⟨Nat.le_of_ble_eq_true rfl, Nat.le_of_ble_eq_true rfl⟩) (fun r10 hr10 => ?_)
    refine pg_put (ci := 8) (v := .long r10) (ty := .long) (C := RX9) (T := TX9) (N := 20) hx hb hts hinX9 tyX9 tyX9_ok nmX9 hown hK hP hD hS hmo hFo rfl 19 (by decide) (hts (.fieldLink RX9 131 "RopeDrumsModel" "outcome" "J") (by decide +kernel)) (fun _ h9 => h9) rfl (by decide +kernel) (rfl) (rfl) (Nat.le_of_ble_eq_true rfl) dX9_reckonDoubles_238 (fun H locs F11 eF11 hP hS => ?_)
    have eF11 : F11 = va_up F o (.inr (8, [.int th, .ref (qm 0), .ref (qm 1), .ref (qm 2), .ref (qm 3), .ref (qm 4), .ref (qm 5), .ref (qm 6), .ref (qm 7), .int sp, .ref (qm 8), .ref (qm 9), .ref (qm 10), .ref (qm 11), .ref (qm 12), .ref (qm 13), .ref (qm 14), .int fa, .ref (qm 15), .long r10])) := eF11
    have hFo_11 : F11 o = .inr (8, [.int th, .ref (qm 0), .ref (qm 1), .ref (qm 2), .ref (qm 3), .ref (qm 4), .ref (qm 5), .ref (qm 6), .ref (qm 7), .int sp, .ref (qm 8), .ref (qm 9), .ref (qm 10), .ref (qm 11), .ref (qm 12), .ref (qm 13), .ref (qm 14), .int fa, .ref (qm 15), .long r10]) := by rw [eF11]; exact va_up_self _ _ _
    exact W.vret hx hb hr (fun t ht hW => ⟨⟨F11, rfl, (by rw [eF11]; rw [hr10, ev9]), (by show va_P _ _ _ t.heap; rw [ht]; exact hP)⟩, hS.F ht⟩) hS.2.2 dX9_reckonDoubles_241
  · refine lv_iload hx hb dX9_reckonDoubles_52 (lv_at hl 0 rfl) ?_
    refine lv_if_eq (tgt := 68) hx hb dX9_reckonDoubles_54 (by decide) (fun c12 => ?_) (fun c12 => ?_)
    · refine lv_iconst (v := 0) hx hb dX9_reckonDoubles_68 (by decide) ?_
      refine lv_goto (tgt := 161) hx hb dX9_reckonDoubles_69 (by decide) ?_
      refine lv_istore (lv' := [(8, .int 0), (7, .int r2), (6, .int r1), (0, .ref o), (1, .int 1), (2, .double x), (4, .double y)]) hx hb dX9_reckonDoubles_161 hl (by decide) rfl (fun ls hl => ?_)
      refine lv_iload hx hb dX9_reckonDoubles_163 (lv_at hl 0 rfl) ?_
      refine lv_if_eq (tgt := 174) hx hb dX9_reckonDoubles_165 (by decide) (fun c13 => ?_) (fun c13 => absurd (by decide) c13)
      refine lv_aload_n hx hb dX9_reckonDoubles_174 rfl (lv_at hl 3 rfl) ?_
      refine lv_iload_n hx hb dX9_reckonDoubles_175 rfl (lv_at hl 4 rfl) ?_
      refine lv_if_ne (tgt := 186) hx hb dX9_reckonDoubles_176 (by decide) (fun c14 => ?_) (fun c14 => absurd c14 (by decide))
      refine lv_iload_n hx hb dX9_reckonDoubles_186 rfl (lv_at hl 4 rfl) ?_
      refine lv_iconst (v := 1) hx hb dX9_reckonDoubles_187 (by decide) ?_
      refine lv_icmp_ne (tgt := 198) hx hb dX9_reckonDoubles_188 (by decide) (fun c15 => absurd (by decide) c15) (fun c15 => ?_)
      refine lv_dload_n hx hb dX9_reckonDoubles_191 rfl (lv_at hl 5 rfl) ?_
      refine lv_dload hx hb dX9_reckonDoubles_192 (lv_at hl 6 rfl) ?_
      refine lv_dsub hx hb dX9_reckonDoubles_194 (n64.mpr ((FP.Core.notNaN_iff _).mp hv)) ?_
      refine lv_topd (fun v16 ev16 => ?_)
      refine lv_goto (tgt := 235) hx hb dX9_reckonDoubles_195 (by decide) ?_
      refine vp_callSl (W.runS (As := [.double v16]) (rest := [.ref o]) ⟨hx, hb, hml, hown, hts⟩ (c9_d2lb l v16 (by rw [ev16]; exact (FP.Core.notNaN_iff _).mp hv)) (va_cwS 1 hts gX9_reckonDoubles_Jxe99ae_doubleToLongBits_ccdee rfl rfl rfl (by decide +kernel) ⟨Nat.le_of_ble_eq_true rfl, Nat.le_of_ble_eq_true rfl⟩) (preS_of okT (trivial)) rfl rfl hl.1 rfl (lv_room (Nat.le_of_ble_eq_true rfl)) dX9_reckonDoubles_235 ⟨Nat.le_of_ble_eq_true rfl, Nat.le_of_ble_eq_true rfl⟩) (fun r17 hr17 => ?_)
      refine pg_put (ci := 8) (v := .long r17) (ty := .long) (C := RX9) (T := TX9) (N := 20) hx hb hts hinX9 tyX9 tyX9_ok nmX9 hown hK hP hD hS hmo hFo rfl 19 (by decide) (hts (.fieldLink RX9 131 "RopeDrumsModel" "outcome" "J") (by decide +kernel)) (fun _ h9 => h9) rfl (by decide +kernel) (rfl) (rfl) (Nat.le_of_ble_eq_true rfl) dX9_reckonDoubles_238 (fun H locs F18 eF18 hP hS => ?_)
      have eF18 : F18 = va_up F o (.inr (8, [.int th, .ref (qm 0), .ref (qm 1), .ref (qm 2), .ref (qm 3), .ref (qm 4), .ref (qm 5), .ref (qm 6), .ref (qm 7), .int sp, .ref (qm 8), .ref (qm 9), .ref (qm 10), .ref (qm 11), .ref (qm 12), .ref (qm 13), .ref (qm 14), .int fa, .ref (qm 15), .long r17])) := eF18
      have hFo_18 : F18 o = .inr (8, [.int th, .ref (qm 0), .ref (qm 1), .ref (qm 2), .ref (qm 3), .ref (qm 4), .ref (qm 5), .ref (qm 6), .ref (qm 7), .int sp, .ref (qm 8), .ref (qm 9), .ref (qm 10), .ref (qm 11), .ref (qm 12), .ref (qm 13), .ref (qm 14), .int fa, .ref (qm 15), .long r17]) := by rw [eF18]; exact va_up_self _ _ _
      exact W.vret hx hb hr (fun t ht hW => ⟨⟨F18, rfl, (by rw [eF18]; rw [hr17, ev16]), (by show va_P _ _ _ t.heap; rw [ht]; exact hP)⟩, hS.F ht⟩) hS.2.2 dX9_reckonDoubles_241
    · refine lv_dload_n hx hb dX9_reckonDoubles_57 rfl (lv_at hl 4 rfl) ?_
      refine lv_dload hx hb dX9_reckonDoubles_58 (lv_at hl 5 rfl) ?_
      refine lv_dcmp hx hb dX9_reckonDoubles_60 ?_
      refine lv_if_ne (tgt := 68) hx hb dX9_reckonDoubles_61 (by decide) (fun c19 => ?_) (fun c19 => ?_)
      · refine lv_iconst (v := 0) hx hb dX9_reckonDoubles_68 (by decide) ?_
        refine lv_goto (tgt := 161) hx hb dX9_reckonDoubles_69 (by decide) ?_
        refine lv_istore (lv' := [(8, .int 0), (7, .int r2), (6, .int r1), (0, .ref o), (1, .int 1), (2, .double x), (4, .double y)]) hx hb dX9_reckonDoubles_161 hl (by decide) rfl (fun ls hl => ?_)
        refine lv_iload hx hb dX9_reckonDoubles_163 (lv_at hl 0 rfl) ?_
        refine lv_if_eq (tgt := 174) hx hb dX9_reckonDoubles_165 (by decide) (fun c20 => ?_) (fun c20 => absurd (by decide) c20)
        refine lv_aload_n hx hb dX9_reckonDoubles_174 rfl (lv_at hl 3 rfl) ?_
        refine lv_iload_n hx hb dX9_reckonDoubles_175 rfl (lv_at hl 4 rfl) ?_
        refine lv_if_ne (tgt := 186) hx hb dX9_reckonDoubles_176 (by decide) (fun c21 => ?_) (fun c21 => absurd c21 (by decide))
        refine lv_iload_n hx hb dX9_reckonDoubles_186 rfl (lv_at hl 4 rfl) ?_
        refine lv_iconst (v := 1) hx hb dX9_reckonDoubles_187 (by decide) ?_
        refine lv_icmp_ne (tgt := 198) hx hb dX9_reckonDoubles_188 (by decide) (fun c22 => absurd (by decide) c22) (fun c22 => ?_)
        refine lv_dload_n hx hb dX9_reckonDoubles_191 rfl (lv_at hl 5 rfl) ?_
        refine lv_dload hx hb dX9_reckonDoubles_192 (lv_at hl 6 rfl) ?_
        refine lv_dsub hx hb dX9_reckonDoubles_194 (n64.mpr ((FP.Core.notNaN_iff _).mp hv)) ?_
        refine lv_topd (fun v23 ev23 => ?_)
        refine lv_goto (tgt := 235) hx hb dX9_reckonDoubles_195 (by decide) ?_
        refine vp_callSl (W.runS (As := [.double v23]) (rest := [.ref o]) ⟨hx, hb, hml, hown, hts⟩ (c9_d2lb l v23 (by rw [ev23]; exact (FP.Core.notNaN_iff _).mp hv)) (va_cwS 1 hts gX9_reckonDoubles_Jxe99ae_doubleToLongBits_ccdee rfl rfl rfl (by decide +kernel) ⟨Nat.le_of_ble_eq_true rfl, Nat.le_of_ble_eq_true rfl⟩) (preS_of okT (trivial)) rfl rfl hl.1 rfl (lv_room (Nat.le_of_ble_eq_true rfl)) dX9_reckonDoubles_235 ⟨Nat.le_of_ble_eq_true rfl, Nat.le_of_ble_eq_true rfl⟩) (fun r24 hr24 => ?_)
        refine pg_put (ci := 8) (v := .long r24) (ty := .long) (C := RX9) (T := TX9) (N := 20) hx hb hts hinX9 tyX9 tyX9_ok nmX9 hown hK hP hD hS hmo hFo rfl 19 (by decide) (hts (.fieldLink RX9 131 "RopeDrumsModel" "outcome" "J") (by decide +kernel)) (fun _ h9 => h9) rfl (by decide +kernel) (rfl) (rfl) (Nat.le_of_ble_eq_true rfl) dX9_reckonDoubles_238 (fun H locs F25 eF25 hP hS => ?_)
        have eF25 : F25 = va_up F o (.inr (8, [.int th, .ref (qm 0), .ref (qm 1), .ref (qm 2), .ref (qm 3), .ref (qm 4), .ref (qm 5), .ref (qm 6), .ref (qm 7), .int sp, .ref (qm 8), .ref (qm 9), .ref (qm 10), .ref (qm 11), .ref (qm 12), .ref (qm 13), .ref (qm 14), .int fa, .ref (qm 15), .long r24])) := eF25
        have hFo_25 : F25 o = .inr (8, [.int th, .ref (qm 0), .ref (qm 1), .ref (qm 2), .ref (qm 3), .ref (qm 4), .ref (qm 5), .ref (qm 6), .ref (qm 7), .int sp, .ref (qm 8), .ref (qm 9), .ref (qm 10), .ref (qm 11), .ref (qm 12), .ref (qm 13), .ref (qm 14), .int fa, .ref (qm 15), .long r24]) := by rw [eF25]; exact va_up_self _ _ _
        exact W.vret hx hb hr (fun t ht hW => ⟨⟨F25, rfl, (by rw [eF25]; rw [hr24, ev23]), (by show va_P _ _ _ t.heap; rw [ht]; exact hP)⟩, hS.F ht⟩) hS.2.2 dX9_reckonDoubles_241
      · refine lv_iconst (v := 1) hx hb dX9_reckonDoubles_64 (by decide) ?_
        refine lv_goto (tgt := 161) hx hb dX9_reckonDoubles_65 (by decide) ?_
        refine lv_istore (lv' := [(8, .int 1), (7, .int r2), (6, .int r1), (0, .ref o), (1, .int 1), (2, .double x), (4, .double y)]) hx hb dX9_reckonDoubles_161 hl (by decide) rfl (fun ls hl => ?_)
        refine lv_iload hx hb dX9_reckonDoubles_163 (lv_at hl 0 rfl) ?_
        refine lv_if_eq (tgt := 174) hx hb dX9_reckonDoubles_165 (by decide) (fun c26 => absurd c26 (by decide)) (fun c26 => ?_)
        exfalso
        have f1 := pz2 hr1 c5
        have f2 := pz2 hr2 c12
        have f3 := (eq_iff hx9 hy9).mp c19
        have hv9 := (not_congr (nan_sub hx9 hy9)).mp (by rw [hv]; decide)
        have hk9 := keyE f1 f2
        exact hv9 ⟨f1, f2, by first | exact hk9.mp (by assumption) | exact fun z => absurd (hk9.mpr z) (by assumption)⟩

set_option maxHeartbeats 8000000 in
set_option maxRecDepth 100000 in
theorem c9_rD_1_no (l : Launch) (G : va_G) (cy : Nat → ClassId) (L : List Nat) (F : Nat → va_E) (sz : Nat) (o : Nat) (qm : Nat → Nat) (th sp fa : Int32) (oc : Int64) (hmo : o ∈ L) (hFo : F o = .inr (8, [.int th, .ref (qm 0), .ref (qm 1), .ref (qm 2), .ref (qm 3), .ref (qm 4), .ref (qm 5), .ref (qm 6), .ref (qm 7), .int sp, .ref (qm 8), .ref (qm 9), .ref (qm 10), .ref (qm 11), .ref (qm 12), .ref (qm 13), .ref (qm 14), .int fa, .ref (qm 15), .long oc])) (x y : UInt64) (hx9 : FP.Core.val64 x ≠ .nan) (hy9 : FP.Core.val64 y ≠ .nan) (hv : FP.Core.dIsNaN (FP.dsub x y) = true)  : Met l yX9_reckonDoubles wsX9_reckonDoubles ({ frames := 2, cells := 0, slots := 0, locals := 45 }) (va_Pc [.ref o, .int 1, .double x, .double y] (fun U => bQ G cy L F sz U U.heap)) (va_Qv (fun F' : Nat → va_E => F' = va_up F o (.inr (8, [.int th, .ref (qm 0), .ref (qm 1), .ref (qm 2), .ref (qm 3), .ref (qm 4), .ref (qm 5), .ref (qm 6), .ref (qm 7), .int sp, .ref (qm 8), .ref (qm 9), .ref (qm 10), .ref (qm 11), .ref (qm 12), .ref (qm 13), .ref (qm 14), .int 5, .ref (qm 15), .long oc]))) (fun F' t => va_P G vwCl (va_pl L F') t.heap) (va_A (va_pl L F) sz)) 0 0 (va_A (va_pl L F) sz) := by
  refine Met.ofW (cc := cX9_reckonDoubles) (maxL := 9) (ret := none) (by decide) rfl ?_
  intro p e s m args below meth c s₁ B hml hv
  obtain ⟨rfl, hsz, hP, hK, hD0⟩ := hv
  have hx := B.exec
  have hb := B.bytes
  have hr := B.returns
  have hts := atoms_spec (ws := wsX9_reckonDoubles) B.pre
  have hown : s.vm.findClass RX9 = some m.cls := findClass_of_methodNamed B.named
  have hlocks := B.notSynchronized
  have hinX9 : ∀ w ∈ wsX90, w ∈ wsX9_reckonDoubles := by decide +kernel
  subst hsz
  have hD := hD0.self F s.heap.size
  generalize hAe : va_A (va_pl L F) s.heap.size = A at hD ⊢
  have hA : ∀ q : Nat, s.heap.size ≤ q → A q := fun q h => by rw [← hAe]; exact Or.inr h
  have hS : va_S A s.heap s.heap [] := va_S.rf
  have hl := lv_entry ([.ref o, .int 1, .double x, .double y]) (n := 9) (Nat.le_of_ble_eq_true rfl)
  rw [lg_entry_eq]
  generalize (lg_sl ([.ref o, .int 1, .double x, .double y]) ++ List.replicate (9 - (lg_sl ([.ref o, .int 1, .double x, .double y])).length) Slot.unset).toArray = ls at hl ⊢
  have hl : lv_has ls 9 [(0, .ref o), (1, .int 1), (2, .double x), (4, .double y)] := hl
  refine lv_dload_n hx hb dX9_reckonDoubles_0 rfl (lv_at hl 2 rfl) ?_
  refine vp_callSi (W.runS (As := [.double x]) (rest := []) ⟨hx, hb, hml, hown, hts⟩ (c9_isEndless l x hx9) (va_cwS 1 hts gX9_reckonDoubles_X9_isEndless rfl rfl rfl (by decide +kernel) ⟨Nat.le_of_ble_eq_true rfl, Nat.le_of_ble_eq_true rfl⟩) (preS_of okT (trivial)) rfl rfl hl.1 rfl (lv_room (Nat.le_of_ble_eq_true rfl)) dX9_reckonDoubles_1 ⟨Nat.le_of_ble_eq_true rfl, Nat.le_of_ble_eq_true rfl⟩) (fun r1 hr1 => ?_)
  refine lv_istore (lv' := [(6, .int r1), (0, .ref o), (1, .int 1), (2, .double x), (4, .double y)]) hx hb dX9_reckonDoubles_4 hl (by decide) rfl (fun ls hl => ?_)
  refine lv_dload hx hb dX9_reckonDoubles_6 (lv_at hl 4 rfl) ?_
  refine vp_callSi (W.runS (As := [.double y]) (rest := []) ⟨hx, hb, hml, hown, hts⟩ (c9_isEndless l y hy9) (va_cwS 1 hts gX9_reckonDoubles_X9_isEndless rfl rfl rfl (by decide +kernel) ⟨Nat.le_of_ble_eq_true rfl, Nat.le_of_ble_eq_true rfl⟩) (preS_of okT (trivial)) rfl rfl hl.1 rfl (lv_room (Nat.le_of_ble_eq_true rfl)) dX9_reckonDoubles_8 ⟨Nat.le_of_ble_eq_true rfl, Nat.le_of_ble_eq_true rfl⟩) (fun r2 hr2 => ?_)
  refine lv_istore (lv' := [(7, .int r2), (6, .int r1), (0, .ref o), (1, .int 1), (2, .double x), (4, .double y)]) hx hb dX9_reckonDoubles_11 hl (by decide) rfl (fun ls hl => ?_)
  refine lv_iload_n hx hb dX9_reckonDoubles_13 rfl (lv_at hl 3 rfl) ?_
  refine lv_if_ne (tgt := 42) hx hb dX9_reckonDoubles_14 (by decide) (fun c3 => ?_) (fun c3 => absurd c3 (by decide))
  refine lv_iload_n hx hb dX9_reckonDoubles_42 rfl (lv_at hl 3 rfl) ?_
  refine lv_iconst (v := 1) hx hb dX9_reckonDoubles_43 (by decide) ?_
  refine lv_icmp_ne (tgt := 72) hx hb dX9_reckonDoubles_44 (by decide) (fun c4 => absurd (by decide) c4) (fun c4 => ?_)
  refine lv_iload hx hb dX9_reckonDoubles_47 (lv_at hl 1 rfl) ?_
  refine lv_if_eq (tgt := 68) hx hb dX9_reckonDoubles_49 (by decide) (fun c5 => ?_) (fun c5 => ?_)
  · refine lv_iconst (v := 0) hx hb dX9_reckonDoubles_68 (by decide) ?_
    refine lv_goto (tgt := 161) hx hb dX9_reckonDoubles_69 (by decide) ?_
    refine lv_istore (lv' := [(8, .int 0), (7, .int r2), (6, .int r1), (0, .ref o), (1, .int 1), (2, .double x), (4, .double y)]) hx hb dX9_reckonDoubles_161 hl (by decide) rfl (fun ls hl => ?_)
    refine lv_iload hx hb dX9_reckonDoubles_163 (lv_at hl 0 rfl) ?_
    refine lv_if_eq (tgt := 174) hx hb dX9_reckonDoubles_165 (by decide) (fun c6 => ?_) (fun c6 => absurd (by decide) c6)
    exfalso
    have f1 := pz1 hr1 c5
    have hv9 := (nan_sub hx9 hy9).mp hv
    omega
  · refine lv_iload hx hb dX9_reckonDoubles_52 (lv_at hl 0 rfl) ?_
    refine lv_if_eq (tgt := 68) hx hb dX9_reckonDoubles_54 (by decide) (fun c7 => ?_) (fun c7 => ?_)
    · refine lv_iconst (v := 0) hx hb dX9_reckonDoubles_68 (by decide) ?_
      refine lv_goto (tgt := 161) hx hb dX9_reckonDoubles_69 (by decide) ?_
      refine lv_istore (lv' := [(8, .int 0), (7, .int r2), (6, .int r1), (0, .ref o), (1, .int 1), (2, .double x), (4, .double y)]) hx hb dX9_reckonDoubles_161 hl (by decide) rfl (fun ls hl => ?_)
      refine lv_iload hx hb dX9_reckonDoubles_163 (lv_at hl 0 rfl) ?_
      refine lv_if_eq (tgt := 174) hx hb dX9_reckonDoubles_165 (by decide) (fun c8 => ?_) (fun c8 => absurd (by decide) c8)
      exfalso
      have f1 := pz2 hr1 c5
      have f2 := pz1 hr2 c7
      have hv9 := (nan_sub hx9 hy9).mp hv
      omega
    · refine lv_dload_n hx hb dX9_reckonDoubles_57 rfl (lv_at hl 4 rfl) ?_
      refine lv_dload hx hb dX9_reckonDoubles_58 (lv_at hl 5 rfl) ?_
      refine lv_dcmp hx hb dX9_reckonDoubles_60 ?_
      refine lv_if_ne (tgt := 68) hx hb dX9_reckonDoubles_61 (by decide) (fun c9 => ?_) (fun c9 => ?_)
      · refine lv_iconst (v := 0) hx hb dX9_reckonDoubles_68 (by decide) ?_
        refine lv_goto (tgt := 161) hx hb dX9_reckonDoubles_69 (by decide) ?_
        refine lv_istore (lv' := [(8, .int 0), (7, .int r2), (6, .int r1), (0, .ref o), (1, .int 1), (2, .double x), (4, .double y)]) hx hb dX9_reckonDoubles_161 hl (by decide) rfl (fun ls hl => ?_)
        refine lv_iload hx hb dX9_reckonDoubles_163 (lv_at hl 0 rfl) ?_
        refine lv_if_eq (tgt := 174) hx hb dX9_reckonDoubles_165 (by decide) (fun c10 => ?_) (fun c10 => absurd (by decide) c10)
        exfalso
        have f1 := pz2 hr1 c5
        have f2 := pz2 hr2 c7
        have f3 := (not_congr (eq_iff hx9 hy9)).mp c9
        have hv9 := (nan_sub hx9 hy9).mp hv
        have hk9 := keyE f1 f2
        first | exact absurd (hk9.mpr hv9.2.2) (by assumption) | exact hv9.2.2 (hk9.mp (by assumption))
      · refine lv_iconst (v := 1) hx hb dX9_reckonDoubles_64 (by decide) ?_
        refine lv_goto (tgt := 161) hx hb dX9_reckonDoubles_65 (by decide) ?_
        refine lv_istore (lv' := [(8, .int 1), (7, .int r2), (6, .int r1), (0, .ref o), (1, .int 1), (2, .double x), (4, .double y)]) hx hb dX9_reckonDoubles_161 hl (by decide) rfl (fun ls hl => ?_)
        refine lv_iload hx hb dX9_reckonDoubles_163 (lv_at hl 0 rfl) ?_
        refine lv_if_eq (tgt := 174) hx hb dX9_reckonDoubles_165 (by decide) (fun c11 => absurd c11 (by decide)) (fun c11 => ?_)
        refine lv_aload_n hx hb dX9_reckonDoubles_168 rfl (lv_at hl 3 rfl) ?_
        refine lv_iconst (v := 5) hx hb dX9_reckonDoubles_169 (by decide) ?_
        refine pg_put (ci := 8) (v := .int 5) (ty := .int) (C := RX9) (T := TX9) (N := 20) hx hb hts hinX9 tyX9 tyX9_ok nmX9 hown hK hP hD hS hmo hFo rfl 17 (by decide) (hts (.fieldLink RX9 65 "RopeDrumsModel" "failed" "I") (by decide +kernel)) (fun _ h9 => h9) rfl (by decide +kernel) (rfl) (rfl) (Nat.le_of_ble_eq_true rfl) dX9_reckonDoubles_170 (fun H locs F12 eF12 hP hS => ?_)
        have eF12 : F12 = va_up F o (.inr (8, [.int th, .ref (qm 0), .ref (qm 1), .ref (qm 2), .ref (qm 3), .ref (qm 4), .ref (qm 5), .ref (qm 6), .ref (qm 7), .int sp, .ref (qm 8), .ref (qm 9), .ref (qm 10), .ref (qm 11), .ref (qm 12), .ref (qm 13), .ref (qm 14), .int 5, .ref (qm 15), .long oc])) := eF12
        have hFo_12 : F12 o = .inr (8, [.int th, .ref (qm 0), .ref (qm 1), .ref (qm 2), .ref (qm 3), .ref (qm 4), .ref (qm 5), .ref (qm 6), .ref (qm 7), .int sp, .ref (qm 8), .ref (qm 9), .ref (qm 10), .ref (qm 11), .ref (qm 12), .ref (qm 13), .ref (qm 14), .int 5, .ref (qm 15), .long oc]) := by rw [eF12]; exact va_up_self _ _ _
        exact W.vret hx hb hr (fun t ht hW => ⟨⟨F12, rfl, (by rw [eF12]), (by show va_P _ _ _ t.heap; rw [ht]; exact hP)⟩, hS.F ht⟩) hS.2.2 dX9_reckonDoubles_173

set_option maxHeartbeats 8000000 in
set_option maxRecDepth 100000 in
theorem c9_rD_2 (l : Launch) (G : va_G) (cy : Nat → ClassId) (L : List Nat) (F : Nat → va_E) (sz : Nat) (o : Nat) (qm : Nat → Nat) (th sp fa : Int32) (oc : Int64) (hmo : o ∈ L) (hFo : F o = .inr (8, [.int th, .ref (qm 0), .ref (qm 1), .ref (qm 2), .ref (qm 3), .ref (qm 4), .ref (qm 5), .ref (qm 6), .ref (qm 7), .int sp, .ref (qm 8), .ref (qm 9), .ref (qm 10), .ref (qm 11), .ref (qm 12), .ref (qm 13), .ref (qm 14), .int fa, .ref (qm 15), .long oc])) (x y : UInt64) (hx9 : FP.Core.val64 x ≠ .nan) (hy9 : FP.Core.val64 y ≠ .nan) (hv : FP.Core.dIsNaN (FP.dmul x y) = false)  : Met l yX9_reckonDoubles wsX9_reckonDoubles ({ frames := 2, cells := 0, slots := 0, locals := 45 }) (va_Pc [.ref o, .int 2, .double x, .double y] (fun U => bQ G cy L F sz U U.heap)) (va_Qv (fun F' : Nat → va_E => F' = va_up F o (.inr (8, [.int th, .ref (qm 0), .ref (qm 1), .ref (qm 2), .ref (qm 3), .ref (qm 4), .ref (qm 5), .ref (qm 6), .ref (qm 7), .int sp, .ref (qm 8), .ref (qm 9), .ref (qm 10), .ref (qm 11), .ref (qm 12), .ref (qm 13), .ref (qm 14), .int fa, .ref (qm 15), .long ((FP.dmul x y).toInt64)]))) (fun F' t => va_P G vwCl (va_pl L F') t.heap) (va_A (va_pl L F) sz)) 0 0 (va_A (va_pl L F) sz) := by
  refine Met.ofW (cc := cX9_reckonDoubles) (maxL := 9) (ret := none) (by decide) rfl ?_
  intro p e s m args below meth c s₁ B hml hv
  obtain ⟨rfl, hsz, hP, hK, hD0⟩ := hv
  have hx := B.exec
  have hb := B.bytes
  have hr := B.returns
  have hts := atoms_spec (ws := wsX9_reckonDoubles) B.pre
  have hown : s.vm.findClass RX9 = some m.cls := findClass_of_methodNamed B.named
  have hlocks := B.notSynchronized
  have hinX9 : ∀ w ∈ wsX90, w ∈ wsX9_reckonDoubles := by decide +kernel
  subst hsz
  have hD := hD0.self F s.heap.size
  generalize hAe : va_A (va_pl L F) s.heap.size = A at hD ⊢
  have hA : ∀ q : Nat, s.heap.size ≤ q → A q := fun q h => by rw [← hAe]; exact Or.inr h
  have hS : va_S A s.heap s.heap [] := va_S.rf
  have hl := lv_entry ([.ref o, .int 2, .double x, .double y]) (n := 9) (Nat.le_of_ble_eq_true rfl)
  rw [lg_entry_eq]
  generalize (lg_sl ([.ref o, .int 2, .double x, .double y]) ++ List.replicate (9 - (lg_sl ([.ref o, .int 2, .double x, .double y])).length) Slot.unset).toArray = ls at hl ⊢
  have hl : lv_has ls 9 [(0, .ref o), (1, .int 2), (2, .double x), (4, .double y)] := hl
  refine lv_dload_n hx hb dX9_reckonDoubles_0 rfl (lv_at hl 2 rfl) ?_
  refine vp_callSi (W.runS (As := [.double x]) (rest := []) ⟨hx, hb, hml, hown, hts⟩ (c9_isEndless l x hx9) (va_cwS 1 hts gX9_reckonDoubles_X9_isEndless rfl rfl rfl (by decide +kernel) ⟨Nat.le_of_ble_eq_true rfl, Nat.le_of_ble_eq_true rfl⟩) (preS_of okT (trivial)) rfl rfl hl.1 rfl (lv_room (Nat.le_of_ble_eq_true rfl)) dX9_reckonDoubles_1 ⟨Nat.le_of_ble_eq_true rfl, Nat.le_of_ble_eq_true rfl⟩) (fun r1 hr1 => ?_)
  refine lv_istore (lv' := [(6, .int r1), (0, .ref o), (1, .int 2), (2, .double x), (4, .double y)]) hx hb dX9_reckonDoubles_4 hl (by decide) rfl (fun ls hl => ?_)
  refine lv_dload hx hb dX9_reckonDoubles_6 (lv_at hl 4 rfl) ?_
  refine vp_callSi (W.runS (As := [.double y]) (rest := []) ⟨hx, hb, hml, hown, hts⟩ (c9_isEndless l y hy9) (va_cwS 1 hts gX9_reckonDoubles_X9_isEndless rfl rfl rfl (by decide +kernel) ⟨Nat.le_of_ble_eq_true rfl, Nat.le_of_ble_eq_true rfl⟩) (preS_of okT (trivial)) rfl rfl hl.1 rfl (lv_room (Nat.le_of_ble_eq_true rfl)) dX9_reckonDoubles_8 ⟨Nat.le_of_ble_eq_true rfl, Nat.le_of_ble_eq_true rfl⟩) (fun r2 hr2 => ?_)
  refine lv_istore (lv' := [(7, .int r2), (6, .int r1), (0, .ref o), (1, .int 2), (2, .double x), (4, .double y)]) hx hb dX9_reckonDoubles_11 hl (by decide) rfl (fun ls hl => ?_)
  refine lv_iload_n hx hb dX9_reckonDoubles_13 rfl (lv_at hl 3 rfl) ?_
  refine lv_if_ne (tgt := 42) hx hb dX9_reckonDoubles_14 (by decide) (fun c3 => ?_) (fun c3 => absurd c3 (by decide))
  refine lv_iload_n hx hb dX9_reckonDoubles_42 rfl (lv_at hl 3 rfl) ?_
  refine lv_iconst (v := 1) hx hb dX9_reckonDoubles_43 (by decide) ?_
  refine lv_icmp_ne (tgt := 72) hx hb dX9_reckonDoubles_44 (by decide) (fun c4 => ?_) (fun c4 => absurd c4 (by decide))
  refine lv_iload_n hx hb dX9_reckonDoubles_72 rfl (lv_at hl 3 rfl) ?_
  refine lv_iconst (v := 2) hx hb dX9_reckonDoubles_73 (by decide) ?_
  refine lv_icmp_ne (tgt := 108) hx hb dX9_reckonDoubles_74 (by decide) (fun c5 => absurd (by decide) c5) (fun c5 => ?_)
  refine lv_iload hx hb dX9_reckonDoubles_77 (lv_at hl 1 rfl) ?_
  refine lv_if_eq (tgt := 89) hx hb dX9_reckonDoubles_79 (by decide) (fun c6 => ?_) (fun c6 => ?_)
  · refine lv_iload hx hb dX9_reckonDoubles_89 (lv_at hl 0 rfl) ?_
    refine lv_if_eq (tgt := 104) hx hb dX9_reckonDoubles_91 (by decide) (fun c7 => ?_) (fun c7 => ?_)
    · refine lv_iconst (v := 0) hx hb dX9_reckonDoubles_104 (by decide) ?_
      refine lv_goto (tgt := 161) hx hb dX9_reckonDoubles_105 (by decide) ?_
      refine lv_istore (lv' := [(8, .int 0), (7, .int r2), (6, .int r1), (0, .ref o), (1, .int 2), (2, .double x), (4, .double y)]) hx hb dX9_reckonDoubles_161 hl (by decide) rfl (fun ls hl => ?_)
      refine lv_iload hx hb dX9_reckonDoubles_163 (lv_at hl 0 rfl) ?_
      refine lv_if_eq (tgt := 174) hx hb dX9_reckonDoubles_165 (by decide) (fun c8 => ?_) (fun c8 => absurd (by decide) c8)
      refine lv_aload_n hx hb dX9_reckonDoubles_174 rfl (lv_at hl 3 rfl) ?_
      refine lv_iload_n hx hb dX9_reckonDoubles_175 rfl (lv_at hl 4 rfl) ?_
      refine lv_if_ne (tgt := 186) hx hb dX9_reckonDoubles_176 (by decide) (fun c9 => ?_) (fun c9 => absurd c9 (by decide))
      refine lv_iload_n hx hb dX9_reckonDoubles_186 rfl (lv_at hl 4 rfl) ?_
      refine lv_iconst (v := 1) hx hb dX9_reckonDoubles_187 (by decide) ?_
      refine lv_icmp_ne (tgt := 198) hx hb dX9_reckonDoubles_188 (by decide) (fun c10 => ?_) (fun c10 => absurd c10 (by decide))
      refine lv_iload_n hx hb dX9_reckonDoubles_198 rfl (lv_at hl 4 rfl) ?_
      refine lv_iconst (v := 2) hx hb dX9_reckonDoubles_199 (by decide) ?_
      refine lv_icmp_ne (tgt := 210) hx hb dX9_reckonDoubles_200 (by decide) (fun c11 => absurd (by decide) c11) (fun c11 => ?_)
      refine lv_dload_n hx hb dX9_reckonDoubles_203 rfl (lv_at hl 5 rfl) ?_
      refine lv_dload hx hb dX9_reckonDoubles_204 (lv_at hl 6 rfl) ?_
      refine lv_dmul hx hb dX9_reckonDoubles_206 (n64.mpr ((FP.Core.notNaN_iff _).mp hv)) ?_
      refine lv_topd (fun v12 ev12 => ?_)
      refine lv_goto (tgt := 235) hx hb dX9_reckonDoubles_207 (by decide) ?_
      refine vp_callSl (W.runS (As := [.double v12]) (rest := [.ref o]) ⟨hx, hb, hml, hown, hts⟩ (c9_d2lb l v12 (by rw [ev12]; exact (FP.Core.notNaN_iff _).mp hv)) (va_cwS 1 hts gX9_reckonDoubles_Jxe99ae_doubleToLongBits_ccdee rfl rfl rfl (by decide +kernel) ⟨Nat.le_of_ble_eq_true rfl, Nat.le_of_ble_eq_true rfl⟩) (preS_of okT (trivial)) rfl rfl hl.1 rfl (lv_room (Nat.le_of_ble_eq_true rfl)) dX9_reckonDoubles_235 ⟨Nat.le_of_ble_eq_true rfl, Nat.le_of_ble_eq_true rfl⟩) (fun r13 hr13 => ?_)
      refine pg_put (ci := 8) (v := .long r13) (ty := .long) (C := RX9) (T := TX9) (N := 20) hx hb hts hinX9 tyX9 tyX9_ok nmX9 hown hK hP hD hS hmo hFo rfl 19 (by decide) (hts (.fieldLink RX9 131 "RopeDrumsModel" "outcome" "J") (by decide +kernel)) (fun _ h9 => h9) rfl (by decide +kernel) (rfl) (rfl) (Nat.le_of_ble_eq_true rfl) dX9_reckonDoubles_238 (fun H locs F14 eF14 hP hS => ?_)
      have eF14 : F14 = va_up F o (.inr (8, [.int th, .ref (qm 0), .ref (qm 1), .ref (qm 2), .ref (qm 3), .ref (qm 4), .ref (qm 5), .ref (qm 6), .ref (qm 7), .int sp, .ref (qm 8), .ref (qm 9), .ref (qm 10), .ref (qm 11), .ref (qm 12), .ref (qm 13), .ref (qm 14), .int fa, .ref (qm 15), .long r13])) := eF14
      have hFo_14 : F14 o = .inr (8, [.int th, .ref (qm 0), .ref (qm 1), .ref (qm 2), .ref (qm 3), .ref (qm 4), .ref (qm 5), .ref (qm 6), .ref (qm 7), .int sp, .ref (qm 8), .ref (qm 9), .ref (qm 10), .ref (qm 11), .ref (qm 12), .ref (qm 13), .ref (qm 14), .int fa, .ref (qm 15), .long r13]) := by rw [eF14]; exact va_up_self _ _ _
      exact W.vret hx hb hr (fun t ht hW => ⟨⟨F14, rfl, (by rw [eF14]; rw [hr13, ev12]), (by show va_P _ _ _ t.heap; rw [ht]; exact hP)⟩, hS.F ht⟩) hS.2.2 dX9_reckonDoubles_241
    · refine lv_dload_n hx hb dX9_reckonDoubles_94 rfl (lv_at hl 4 rfl) ?_
      refine lv_dconst0 hx hb dX9_reckonDoubles_95 ?_
      refine lv_dcmp hx hb dX9_reckonDoubles_96 ?_
      refine lv_if_ne (tgt := 104) hx hb dX9_reckonDoubles_97 (by decide) (fun c15 => ?_) (fun c15 => ?_)
      · refine lv_iconst (v := 0) hx hb dX9_reckonDoubles_104 (by decide) ?_
        refine lv_goto (tgt := 161) hx hb dX9_reckonDoubles_105 (by decide) ?_
        refine lv_istore (lv' := [(8, .int 0), (7, .int r2), (6, .int r1), (0, .ref o), (1, .int 2), (2, .double x), (4, .double y)]) hx hb dX9_reckonDoubles_161 hl (by decide) rfl (fun ls hl => ?_)
        refine lv_iload hx hb dX9_reckonDoubles_163 (lv_at hl 0 rfl) ?_
        refine lv_if_eq (tgt := 174) hx hb dX9_reckonDoubles_165 (by decide) (fun c16 => ?_) (fun c16 => absurd (by decide) c16)
        refine lv_aload_n hx hb dX9_reckonDoubles_174 rfl (lv_at hl 3 rfl) ?_
        refine lv_iload_n hx hb dX9_reckonDoubles_175 rfl (lv_at hl 4 rfl) ?_
        refine lv_if_ne (tgt := 186) hx hb dX9_reckonDoubles_176 (by decide) (fun c17 => ?_) (fun c17 => absurd c17 (by decide))
        refine lv_iload_n hx hb dX9_reckonDoubles_186 rfl (lv_at hl 4 rfl) ?_
        refine lv_iconst (v := 1) hx hb dX9_reckonDoubles_187 (by decide) ?_
        refine lv_icmp_ne (tgt := 198) hx hb dX9_reckonDoubles_188 (by decide) (fun c18 => ?_) (fun c18 => absurd c18 (by decide))
        refine lv_iload_n hx hb dX9_reckonDoubles_198 rfl (lv_at hl 4 rfl) ?_
        refine lv_iconst (v := 2) hx hb dX9_reckonDoubles_199 (by decide) ?_
        refine lv_icmp_ne (tgt := 210) hx hb dX9_reckonDoubles_200 (by decide) (fun c19 => absurd (by decide) c19) (fun c19 => ?_)
        refine lv_dload_n hx hb dX9_reckonDoubles_203 rfl (lv_at hl 5 rfl) ?_
        refine lv_dload hx hb dX9_reckonDoubles_204 (lv_at hl 6 rfl) ?_
        refine lv_dmul hx hb dX9_reckonDoubles_206 (n64.mpr ((FP.Core.notNaN_iff _).mp hv)) ?_
        refine lv_topd (fun v20 ev20 => ?_)
        refine lv_goto (tgt := 235) hx hb dX9_reckonDoubles_207 (by decide) ?_
        refine vp_callSl (W.runS (As := [.double v20]) (rest := [.ref o]) ⟨hx, hb, hml, hown, hts⟩ (c9_d2lb l v20 (by rw [ev20]; exact (FP.Core.notNaN_iff _).mp hv)) (va_cwS 1 hts gX9_reckonDoubles_Jxe99ae_doubleToLongBits_ccdee rfl rfl rfl (by decide +kernel) ⟨Nat.le_of_ble_eq_true rfl, Nat.le_of_ble_eq_true rfl⟩) (preS_of okT (trivial)) rfl rfl hl.1 rfl (lv_room (Nat.le_of_ble_eq_true rfl)) dX9_reckonDoubles_235 ⟨Nat.le_of_ble_eq_true rfl, Nat.le_of_ble_eq_true rfl⟩) (fun r21 hr21 => ?_)
        refine pg_put (ci := 8) (v := .long r21) (ty := .long) (C := RX9) (T := TX9) (N := 20) hx hb hts hinX9 tyX9 tyX9_ok nmX9 hown hK hP hD hS hmo hFo rfl 19 (by decide) (hts (.fieldLink RX9 131 "RopeDrumsModel" "outcome" "J") (by decide +kernel)) (fun _ h9 => h9) rfl (by decide +kernel) (rfl) (rfl) (Nat.le_of_ble_eq_true rfl) dX9_reckonDoubles_238 (fun H locs F22 eF22 hP hS => ?_)
        have eF22 : F22 = va_up F o (.inr (8, [.int th, .ref (qm 0), .ref (qm 1), .ref (qm 2), .ref (qm 3), .ref (qm 4), .ref (qm 5), .ref (qm 6), .ref (qm 7), .int sp, .ref (qm 8), .ref (qm 9), .ref (qm 10), .ref (qm 11), .ref (qm 12), .ref (qm 13), .ref (qm 14), .int fa, .ref (qm 15), .long r21])) := eF22
        have hFo_22 : F22 o = .inr (8, [.int th, .ref (qm 0), .ref (qm 1), .ref (qm 2), .ref (qm 3), .ref (qm 4), .ref (qm 5), .ref (qm 6), .ref (qm 7), .int sp, .ref (qm 8), .ref (qm 9), .ref (qm 10), .ref (qm 11), .ref (qm 12), .ref (qm 13), .ref (qm 14), .int fa, .ref (qm 15), .long r21]) := by rw [eF22]; exact va_up_self _ _ _
        exact W.vret hx hb hr (fun t ht hW => ⟨⟨F22, rfl, (by rw [eF22]; rw [hr21, ev20]), (by show va_P _ _ _ t.heap; rw [ht]; exact hP)⟩, hS.F ht⟩) hS.2.2 dX9_reckonDoubles_241
      · refine lv_iconst (v := 1) hx hb dX9_reckonDoubles_100 (by decide) ?_
        refine lv_goto (tgt := 161) hx hb dX9_reckonDoubles_101 (by decide) ?_
        refine lv_istore (lv' := [(8, .int 1), (7, .int r2), (6, .int r1), (0, .ref o), (1, .int 2), (2, .double x), (4, .double y)]) hx hb dX9_reckonDoubles_161 hl (by decide) rfl (fun ls hl => ?_)
        refine lv_iload hx hb dX9_reckonDoubles_163 (lv_at hl 0 rfl) ?_
        refine lv_if_eq (tgt := 174) hx hb dX9_reckonDoubles_165 (by decide) (fun c23 => absurd c23 (by decide)) (fun c23 => ?_)
        exfalso
        have f1 := pz1 hr1 c6
        have f2 := pz2 hr2 c7
        have f3 := (z_iff hx9).mp c15
        have hv9 := (not_congr (nan_mul hx9 hy9)).mp (by rw [hv]; decide)
        exact hv9 (by omega)
  · refine lv_dload hx hb dX9_reckonDoubles_82 (lv_at hl 5 rfl) ?_
    refine lv_dconst0 hx hb dX9_reckonDoubles_84 ?_
    refine lv_dcmp hx hb dX9_reckonDoubles_85 ?_
    refine lv_if_eq (tgt := 100) hx hb dX9_reckonDoubles_86 (by decide) (fun c24 => ?_) (fun c24 => ?_)
    · refine lv_iconst (v := 1) hx hb dX9_reckonDoubles_100 (by decide) ?_
      refine lv_goto (tgt := 161) hx hb dX9_reckonDoubles_101 (by decide) ?_
      refine lv_istore (lv' := [(8, .int 1), (7, .int r2), (6, .int r1), (0, .ref o), (1, .int 2), (2, .double x), (4, .double y)]) hx hb dX9_reckonDoubles_161 hl (by decide) rfl (fun ls hl => ?_)
      refine lv_iload hx hb dX9_reckonDoubles_163 (lv_at hl 0 rfl) ?_
      refine lv_if_eq (tgt := 174) hx hb dX9_reckonDoubles_165 (by decide) (fun c25 => absurd c25 (by decide)) (fun c25 => ?_)
      exfalso
      have f1 := pz2 hr1 c6
      have f2 := (z_iff hy9).mp c24
      have hv9 := (not_congr (nan_mul hx9 hy9)).mp (by rw [hv]; decide)
      exact hv9 (by omega)
    · refine lv_iload hx hb dX9_reckonDoubles_89 (lv_at hl 0 rfl) ?_
      refine lv_if_eq (tgt := 104) hx hb dX9_reckonDoubles_91 (by decide) (fun c26 => ?_) (fun c26 => ?_)
      · refine lv_iconst (v := 0) hx hb dX9_reckonDoubles_104 (by decide) ?_
        refine lv_goto (tgt := 161) hx hb dX9_reckonDoubles_105 (by decide) ?_
        refine lv_istore (lv' := [(8, .int 0), (7, .int r2), (6, .int r1), (0, .ref o), (1, .int 2), (2, .double x), (4, .double y)]) hx hb dX9_reckonDoubles_161 hl (by decide) rfl (fun ls hl => ?_)
        refine lv_iload hx hb dX9_reckonDoubles_163 (lv_at hl 0 rfl) ?_
        refine lv_if_eq (tgt := 174) hx hb dX9_reckonDoubles_165 (by decide) (fun c27 => ?_) (fun c27 => absurd (by decide) c27)
        refine lv_aload_n hx hb dX9_reckonDoubles_174 rfl (lv_at hl 3 rfl) ?_
        refine lv_iload_n hx hb dX9_reckonDoubles_175 rfl (lv_at hl 4 rfl) ?_
        refine lv_if_ne (tgt := 186) hx hb dX9_reckonDoubles_176 (by decide) (fun c28 => ?_) (fun c28 => absurd c28 (by decide))
        refine lv_iload_n hx hb dX9_reckonDoubles_186 rfl (lv_at hl 4 rfl) ?_
        refine lv_iconst (v := 1) hx hb dX9_reckonDoubles_187 (by decide) ?_
        refine lv_icmp_ne (tgt := 198) hx hb dX9_reckonDoubles_188 (by decide) (fun c29 => ?_) (fun c29 => absurd c29 (by decide))
        refine lv_iload_n hx hb dX9_reckonDoubles_198 rfl (lv_at hl 4 rfl) ?_
        refine lv_iconst (v := 2) hx hb dX9_reckonDoubles_199 (by decide) ?_
        refine lv_icmp_ne (tgt := 210) hx hb dX9_reckonDoubles_200 (by decide) (fun c30 => absurd (by decide) c30) (fun c30 => ?_)
        refine lv_dload_n hx hb dX9_reckonDoubles_203 rfl (lv_at hl 5 rfl) ?_
        refine lv_dload hx hb dX9_reckonDoubles_204 (lv_at hl 6 rfl) ?_
        refine lv_dmul hx hb dX9_reckonDoubles_206 (n64.mpr ((FP.Core.notNaN_iff _).mp hv)) ?_
        refine lv_topd (fun v31 ev31 => ?_)
        refine lv_goto (tgt := 235) hx hb dX9_reckonDoubles_207 (by decide) ?_
        refine vp_callSl (W.runS (As := [.double v31]) (rest := [.ref o]) ⟨hx, hb, hml, hown, hts⟩ (c9_d2lb l v31 (by rw [ev31]; exact (FP.Core.notNaN_iff _).mp hv)) (va_cwS 1 hts gX9_reckonDoubles_Jxe99ae_doubleToLongBits_ccdee rfl rfl rfl (by decide +kernel) ⟨Nat.le_of_ble_eq_true rfl, Nat.le_of_ble_eq_true rfl⟩) (preS_of okT (trivial)) rfl rfl hl.1 rfl (lv_room (Nat.le_of_ble_eq_true rfl)) dX9_reckonDoubles_235 ⟨Nat.le_of_ble_eq_true rfl, Nat.le_of_ble_eq_true rfl⟩) (fun r32 hr32 => ?_)
        refine pg_put (ci := 8) (v := .long r32) (ty := .long) (C := RX9) (T := TX9) (N := 20) hx hb hts hinX9 tyX9 tyX9_ok nmX9 hown hK hP hD hS hmo hFo rfl 19 (by decide) (hts (.fieldLink RX9 131 "RopeDrumsModel" "outcome" "J") (by decide +kernel)) (fun _ h9 => h9) rfl (by decide +kernel) (rfl) (rfl) (Nat.le_of_ble_eq_true rfl) dX9_reckonDoubles_238 (fun H locs F33 eF33 hP hS => ?_)
        have eF33 : F33 = va_up F o (.inr (8, [.int th, .ref (qm 0), .ref (qm 1), .ref (qm 2), .ref (qm 3), .ref (qm 4), .ref (qm 5), .ref (qm 6), .ref (qm 7), .int sp, .ref (qm 8), .ref (qm 9), .ref (qm 10), .ref (qm 11), .ref (qm 12), .ref (qm 13), .ref (qm 14), .int fa, .ref (qm 15), .long r32])) := eF33
        have hFo_33 : F33 o = .inr (8, [.int th, .ref (qm 0), .ref (qm 1), .ref (qm 2), .ref (qm 3), .ref (qm 4), .ref (qm 5), .ref (qm 6), .ref (qm 7), .int sp, .ref (qm 8), .ref (qm 9), .ref (qm 10), .ref (qm 11), .ref (qm 12), .ref (qm 13), .ref (qm 14), .int fa, .ref (qm 15), .long r32]) := by rw [eF33]; exact va_up_self _ _ _
        exact W.vret hx hb hr (fun t ht hW => ⟨⟨F33, rfl, (by rw [eF33]; rw [hr32, ev31]), (by show va_P _ _ _ t.heap; rw [ht]; exact hP)⟩, hS.F ht⟩) hS.2.2 dX9_reckonDoubles_241
      · refine lv_dload_n hx hb dX9_reckonDoubles_94 rfl (lv_at hl 4 rfl) ?_
        refine lv_dconst0 hx hb dX9_reckonDoubles_95 ?_
        refine lv_dcmp hx hb dX9_reckonDoubles_96 ?_
        refine lv_if_ne (tgt := 104) hx hb dX9_reckonDoubles_97 (by decide) (fun c34 => ?_) (fun c34 => ?_)
        · refine lv_iconst (v := 0) hx hb dX9_reckonDoubles_104 (by decide) ?_
          refine lv_goto (tgt := 161) hx hb dX9_reckonDoubles_105 (by decide) ?_
          refine lv_istore (lv' := [(8, .int 0), (7, .int r2), (6, .int r1), (0, .ref o), (1, .int 2), (2, .double x), (4, .double y)]) hx hb dX9_reckonDoubles_161 hl (by decide) rfl (fun ls hl => ?_)
          refine lv_iload hx hb dX9_reckonDoubles_163 (lv_at hl 0 rfl) ?_
          refine lv_if_eq (tgt := 174) hx hb dX9_reckonDoubles_165 (by decide) (fun c35 => ?_) (fun c35 => absurd (by decide) c35)
          refine lv_aload_n hx hb dX9_reckonDoubles_174 rfl (lv_at hl 3 rfl) ?_
          refine lv_iload_n hx hb dX9_reckonDoubles_175 rfl (lv_at hl 4 rfl) ?_
          refine lv_if_ne (tgt := 186) hx hb dX9_reckonDoubles_176 (by decide) (fun c36 => ?_) (fun c36 => absurd c36 (by decide))
          refine lv_iload_n hx hb dX9_reckonDoubles_186 rfl (lv_at hl 4 rfl) ?_
          refine lv_iconst (v := 1) hx hb dX9_reckonDoubles_187 (by decide) ?_
          refine lv_icmp_ne (tgt := 198) hx hb dX9_reckonDoubles_188 (by decide) (fun c37 => ?_) (fun c37 => absurd c37 (by decide))
          refine lv_iload_n hx hb dX9_reckonDoubles_198 rfl (lv_at hl 4 rfl) ?_
          refine lv_iconst (v := 2) hx hb dX9_reckonDoubles_199 (by decide) ?_
          refine lv_icmp_ne (tgt := 210) hx hb dX9_reckonDoubles_200 (by decide) (fun c38 => absurd (by decide) c38) (fun c38 => ?_)
          refine lv_dload_n hx hb dX9_reckonDoubles_203 rfl (lv_at hl 5 rfl) ?_
          refine lv_dload hx hb dX9_reckonDoubles_204 (lv_at hl 6 rfl) ?_
          refine lv_dmul hx hb dX9_reckonDoubles_206 (n64.mpr ((FP.Core.notNaN_iff _).mp hv)) ?_
          refine lv_topd (fun v39 ev39 => ?_)
          refine lv_goto (tgt := 235) hx hb dX9_reckonDoubles_207 (by decide) ?_
          refine vp_callSl (W.runS (As := [.double v39]) (rest := [.ref o]) ⟨hx, hb, hml, hown, hts⟩ (c9_d2lb l v39 (by rw [ev39]; exact (FP.Core.notNaN_iff _).mp hv)) (va_cwS 1 hts gX9_reckonDoubles_Jxe99ae_doubleToLongBits_ccdee rfl rfl rfl (by decide +kernel) ⟨Nat.le_of_ble_eq_true rfl, Nat.le_of_ble_eq_true rfl⟩) (preS_of okT (trivial)) rfl rfl hl.1 rfl (lv_room (Nat.le_of_ble_eq_true rfl)) dX9_reckonDoubles_235 ⟨Nat.le_of_ble_eq_true rfl, Nat.le_of_ble_eq_true rfl⟩) (fun r40 hr40 => ?_)
          refine pg_put (ci := 8) (v := .long r40) (ty := .long) (C := RX9) (T := TX9) (N := 20) hx hb hts hinX9 tyX9 tyX9_ok nmX9 hown hK hP hD hS hmo hFo rfl 19 (by decide) (hts (.fieldLink RX9 131 "RopeDrumsModel" "outcome" "J") (by decide +kernel)) (fun _ h9 => h9) rfl (by decide +kernel) (rfl) (rfl) (Nat.le_of_ble_eq_true rfl) dX9_reckonDoubles_238 (fun H locs F41 eF41 hP hS => ?_)
          have eF41 : F41 = va_up F o (.inr (8, [.int th, .ref (qm 0), .ref (qm 1), .ref (qm 2), .ref (qm 3), .ref (qm 4), .ref (qm 5), .ref (qm 6), .ref (qm 7), .int sp, .ref (qm 8), .ref (qm 9), .ref (qm 10), .ref (qm 11), .ref (qm 12), .ref (qm 13), .ref (qm 14), .int fa, .ref (qm 15), .long r40])) := eF41
          have hFo_41 : F41 o = .inr (8, [.int th, .ref (qm 0), .ref (qm 1), .ref (qm 2), .ref (qm 3), .ref (qm 4), .ref (qm 5), .ref (qm 6), .ref (qm 7), .int sp, .ref (qm 8), .ref (qm 9), .ref (qm 10), .ref (qm 11), .ref (qm 12), .ref (qm 13), .ref (qm 14), .int fa, .ref (qm 15), .long r40]) := by rw [eF41]; exact va_up_self _ _ _
          exact W.vret hx hb hr (fun t ht hW => ⟨⟨F41, rfl, (by rw [eF41]; rw [hr40, ev39]), (by show va_P _ _ _ t.heap; rw [ht]; exact hP)⟩, hS.F ht⟩) hS.2.2 dX9_reckonDoubles_241
        · refine lv_iconst (v := 1) hx hb dX9_reckonDoubles_100 (by decide) ?_
          refine lv_goto (tgt := 161) hx hb dX9_reckonDoubles_101 (by decide) ?_
          refine lv_istore (lv' := [(8, .int 1), (7, .int r2), (6, .int r1), (0, .ref o), (1, .int 2), (2, .double x), (4, .double y)]) hx hb dX9_reckonDoubles_161 hl (by decide) rfl (fun ls hl => ?_)
          refine lv_iload hx hb dX9_reckonDoubles_163 (lv_at hl 0 rfl) ?_
          refine lv_if_eq (tgt := 174) hx hb dX9_reckonDoubles_165 (by decide) (fun c42 => absurd c42 (by decide)) (fun c42 => ?_)
          exfalso
          have f1 := pz2 hr1 c6
          have f2 := (not_congr (z_iff hy9)).mp c24
          have f3 := pz2 hr2 c26
          have f4 := (z_iff hx9).mp c34
          have hv9 := (not_congr (nan_mul hx9 hy9)).mp (by rw [hv]; decide)
          exact hv9 (by omega)

set_option maxHeartbeats 8000000 in
set_option maxRecDepth 100000 in
theorem c9_rD_2_no (l : Launch) (G : va_G) (cy : Nat → ClassId) (L : List Nat) (F : Nat → va_E) (sz : Nat) (o : Nat) (qm : Nat → Nat) (th sp fa : Int32) (oc : Int64) (hmo : o ∈ L) (hFo : F o = .inr (8, [.int th, .ref (qm 0), .ref (qm 1), .ref (qm 2), .ref (qm 3), .ref (qm 4), .ref (qm 5), .ref (qm 6), .ref (qm 7), .int sp, .ref (qm 8), .ref (qm 9), .ref (qm 10), .ref (qm 11), .ref (qm 12), .ref (qm 13), .ref (qm 14), .int fa, .ref (qm 15), .long oc])) (x y : UInt64) (hx9 : FP.Core.val64 x ≠ .nan) (hy9 : FP.Core.val64 y ≠ .nan) (hv : FP.Core.dIsNaN (FP.dmul x y) = true)  : Met l yX9_reckonDoubles wsX9_reckonDoubles ({ frames := 2, cells := 0, slots := 0, locals := 45 }) (va_Pc [.ref o, .int 2, .double x, .double y] (fun U => bQ G cy L F sz U U.heap)) (va_Qv (fun F' : Nat → va_E => F' = va_up F o (.inr (8, [.int th, .ref (qm 0), .ref (qm 1), .ref (qm 2), .ref (qm 3), .ref (qm 4), .ref (qm 5), .ref (qm 6), .ref (qm 7), .int sp, .ref (qm 8), .ref (qm 9), .ref (qm 10), .ref (qm 11), .ref (qm 12), .ref (qm 13), .ref (qm 14), .int 5, .ref (qm 15), .long oc]))) (fun F' t => va_P G vwCl (va_pl L F') t.heap) (va_A (va_pl L F) sz)) 0 0 (va_A (va_pl L F) sz) := by
  refine Met.ofW (cc := cX9_reckonDoubles) (maxL := 9) (ret := none) (by decide) rfl ?_
  intro p e s m args below meth c s₁ B hml hv
  obtain ⟨rfl, hsz, hP, hK, hD0⟩ := hv
  have hx := B.exec
  have hb := B.bytes
  have hr := B.returns
  have hts := atoms_spec (ws := wsX9_reckonDoubles) B.pre
  have hown : s.vm.findClass RX9 = some m.cls := findClass_of_methodNamed B.named
  have hlocks := B.notSynchronized
  have hinX9 : ∀ w ∈ wsX90, w ∈ wsX9_reckonDoubles := by decide +kernel
  subst hsz
  have hD := hD0.self F s.heap.size
  generalize hAe : va_A (va_pl L F) s.heap.size = A at hD ⊢
  have hA : ∀ q : Nat, s.heap.size ≤ q → A q := fun q h => by rw [← hAe]; exact Or.inr h
  have hS : va_S A s.heap s.heap [] := va_S.rf
  have hl := lv_entry ([.ref o, .int 2, .double x, .double y]) (n := 9) (Nat.le_of_ble_eq_true rfl)
  rw [lg_entry_eq]
  generalize (lg_sl ([.ref o, .int 2, .double x, .double y]) ++ List.replicate (9 - (lg_sl ([.ref o, .int 2, .double x, .double y])).length) Slot.unset).toArray = ls at hl ⊢
  have hl : lv_has ls 9 [(0, .ref o), (1, .int 2), (2, .double x), (4, .double y)] := hl
  refine lv_dload_n hx hb dX9_reckonDoubles_0 rfl (lv_at hl 2 rfl) ?_
  refine vp_callSi (W.runS (As := [.double x]) (rest := []) ⟨hx, hb, hml, hown, hts⟩ (c9_isEndless l x hx9) (va_cwS 1 hts gX9_reckonDoubles_X9_isEndless rfl rfl rfl (by decide +kernel) ⟨Nat.le_of_ble_eq_true rfl, Nat.le_of_ble_eq_true rfl⟩) (preS_of okT (trivial)) rfl rfl hl.1 rfl (lv_room (Nat.le_of_ble_eq_true rfl)) dX9_reckonDoubles_1 ⟨Nat.le_of_ble_eq_true rfl, Nat.le_of_ble_eq_true rfl⟩) (fun r1 hr1 => ?_)
  refine lv_istore (lv' := [(6, .int r1), (0, .ref o), (1, .int 2), (2, .double x), (4, .double y)]) hx hb dX9_reckonDoubles_4 hl (by decide) rfl (fun ls hl => ?_)
  refine lv_dload hx hb dX9_reckonDoubles_6 (lv_at hl 4 rfl) ?_
  refine vp_callSi (W.runS (As := [.double y]) (rest := []) ⟨hx, hb, hml, hown, hts⟩ (c9_isEndless l y hy9) (va_cwS 1 hts gX9_reckonDoubles_X9_isEndless rfl rfl rfl (by decide +kernel) ⟨Nat.le_of_ble_eq_true rfl, Nat.le_of_ble_eq_true rfl⟩) (preS_of okT (trivial)) rfl rfl hl.1 rfl (lv_room (Nat.le_of_ble_eq_true rfl)) dX9_reckonDoubles_8 ⟨Nat.le_of_ble_eq_true rfl, Nat.le_of_ble_eq_true rfl⟩) (fun r2 hr2 => ?_)
  refine lv_istore (lv' := [(7, .int r2), (6, .int r1), (0, .ref o), (1, .int 2), (2, .double x), (4, .double y)]) hx hb dX9_reckonDoubles_11 hl (by decide) rfl (fun ls hl => ?_)
  refine lv_iload_n hx hb dX9_reckonDoubles_13 rfl (lv_at hl 3 rfl) ?_
  refine lv_if_ne (tgt := 42) hx hb dX9_reckonDoubles_14 (by decide) (fun c3 => ?_) (fun c3 => absurd c3 (by decide))
  refine lv_iload_n hx hb dX9_reckonDoubles_42 rfl (lv_at hl 3 rfl) ?_
  refine lv_iconst (v := 1) hx hb dX9_reckonDoubles_43 (by decide) ?_
  refine lv_icmp_ne (tgt := 72) hx hb dX9_reckonDoubles_44 (by decide) (fun c4 => ?_) (fun c4 => absurd c4 (by decide))
  refine lv_iload_n hx hb dX9_reckonDoubles_72 rfl (lv_at hl 3 rfl) ?_
  refine lv_iconst (v := 2) hx hb dX9_reckonDoubles_73 (by decide) ?_
  refine lv_icmp_ne (tgt := 108) hx hb dX9_reckonDoubles_74 (by decide) (fun c5 => absurd (by decide) c5) (fun c5 => ?_)
  refine lv_iload hx hb dX9_reckonDoubles_77 (lv_at hl 1 rfl) ?_
  refine lv_if_eq (tgt := 89) hx hb dX9_reckonDoubles_79 (by decide) (fun c6 => ?_) (fun c6 => ?_)
  · refine lv_iload hx hb dX9_reckonDoubles_89 (lv_at hl 0 rfl) ?_
    refine lv_if_eq (tgt := 104) hx hb dX9_reckonDoubles_91 (by decide) (fun c7 => ?_) (fun c7 => ?_)
    · refine lv_iconst (v := 0) hx hb dX9_reckonDoubles_104 (by decide) ?_
      refine lv_goto (tgt := 161) hx hb dX9_reckonDoubles_105 (by decide) ?_
      refine lv_istore (lv' := [(8, .int 0), (7, .int r2), (6, .int r1), (0, .ref o), (1, .int 2), (2, .double x), (4, .double y)]) hx hb dX9_reckonDoubles_161 hl (by decide) rfl (fun ls hl => ?_)
      refine lv_iload hx hb dX9_reckonDoubles_163 (lv_at hl 0 rfl) ?_
      refine lv_if_eq (tgt := 174) hx hb dX9_reckonDoubles_165 (by decide) (fun c8 => ?_) (fun c8 => absurd (by decide) c8)
      exfalso
      have f1 := pz1 hr1 c6
      have f2 := pz1 hr2 c7
      have hv9 := (nan_mul hx9 hy9).mp hv
      omega
    · refine lv_dload_n hx hb dX9_reckonDoubles_94 rfl (lv_at hl 4 rfl) ?_
      refine lv_dconst0 hx hb dX9_reckonDoubles_95 ?_
      refine lv_dcmp hx hb dX9_reckonDoubles_96 ?_
      refine lv_if_ne (tgt := 104) hx hb dX9_reckonDoubles_97 (by decide) (fun c9 => ?_) (fun c9 => ?_)
      · refine lv_iconst (v := 0) hx hb dX9_reckonDoubles_104 (by decide) ?_
        refine lv_goto (tgt := 161) hx hb dX9_reckonDoubles_105 (by decide) ?_
        refine lv_istore (lv' := [(8, .int 0), (7, .int r2), (6, .int r1), (0, .ref o), (1, .int 2), (2, .double x), (4, .double y)]) hx hb dX9_reckonDoubles_161 hl (by decide) rfl (fun ls hl => ?_)
        refine lv_iload hx hb dX9_reckonDoubles_163 (lv_at hl 0 rfl) ?_
        refine lv_if_eq (tgt := 174) hx hb dX9_reckonDoubles_165 (by decide) (fun c10 => ?_) (fun c10 => absurd (by decide) c10)
        exfalso
        have f1 := pz1 hr1 c6
        have f2 := pz2 hr2 c7
        have f3 := (not_congr (z_iff hx9)).mp c9
        have hv9 := (nan_mul hx9 hy9).mp hv
        omega
      · refine lv_iconst (v := 1) hx hb dX9_reckonDoubles_100 (by decide) ?_
        refine lv_goto (tgt := 161) hx hb dX9_reckonDoubles_101 (by decide) ?_
        refine lv_istore (lv' := [(8, .int 1), (7, .int r2), (6, .int r1), (0, .ref o), (1, .int 2), (2, .double x), (4, .double y)]) hx hb dX9_reckonDoubles_161 hl (by decide) rfl (fun ls hl => ?_)
        refine lv_iload hx hb dX9_reckonDoubles_163 (lv_at hl 0 rfl) ?_
        refine lv_if_eq (tgt := 174) hx hb dX9_reckonDoubles_165 (by decide) (fun c11 => absurd c11 (by decide)) (fun c11 => ?_)
        refine lv_aload_n hx hb dX9_reckonDoubles_168 rfl (lv_at hl 3 rfl) ?_
        refine lv_iconst (v := 5) hx hb dX9_reckonDoubles_169 (by decide) ?_
        refine pg_put (ci := 8) (v := .int 5) (ty := .int) (C := RX9) (T := TX9) (N := 20) hx hb hts hinX9 tyX9 tyX9_ok nmX9 hown hK hP hD hS hmo hFo rfl 17 (by decide) (hts (.fieldLink RX9 65 "RopeDrumsModel" "failed" "I") (by decide +kernel)) (fun _ h9 => h9) rfl (by decide +kernel) (rfl) (rfl) (Nat.le_of_ble_eq_true rfl) dX9_reckonDoubles_170 (fun H locs F12 eF12 hP hS => ?_)
        have eF12 : F12 = va_up F o (.inr (8, [.int th, .ref (qm 0), .ref (qm 1), .ref (qm 2), .ref (qm 3), .ref (qm 4), .ref (qm 5), .ref (qm 6), .ref (qm 7), .int sp, .ref (qm 8), .ref (qm 9), .ref (qm 10), .ref (qm 11), .ref (qm 12), .ref (qm 13), .ref (qm 14), .int 5, .ref (qm 15), .long oc])) := eF12
        have hFo_12 : F12 o = .inr (8, [.int th, .ref (qm 0), .ref (qm 1), .ref (qm 2), .ref (qm 3), .ref (qm 4), .ref (qm 5), .ref (qm 6), .ref (qm 7), .int sp, .ref (qm 8), .ref (qm 9), .ref (qm 10), .ref (qm 11), .ref (qm 12), .ref (qm 13), .ref (qm 14), .int 5, .ref (qm 15), .long oc]) := by rw [eF12]; exact va_up_self _ _ _
        exact W.vret hx hb hr (fun t ht hW => ⟨⟨F12, rfl, (by rw [eF12]), (by show va_P _ _ _ t.heap; rw [ht]; exact hP)⟩, hS.F ht⟩) hS.2.2 dX9_reckonDoubles_173
  · refine lv_dload hx hb dX9_reckonDoubles_82 (lv_at hl 5 rfl) ?_
    refine lv_dconst0 hx hb dX9_reckonDoubles_84 ?_
    refine lv_dcmp hx hb dX9_reckonDoubles_85 ?_
    refine lv_if_eq (tgt := 100) hx hb dX9_reckonDoubles_86 (by decide) (fun c13 => ?_) (fun c13 => ?_)
    · refine lv_iconst (v := 1) hx hb dX9_reckonDoubles_100 (by decide) ?_
      refine lv_goto (tgt := 161) hx hb dX9_reckonDoubles_101 (by decide) ?_
      refine lv_istore (lv' := [(8, .int 1), (7, .int r2), (6, .int r1), (0, .ref o), (1, .int 2), (2, .double x), (4, .double y)]) hx hb dX9_reckonDoubles_161 hl (by decide) rfl (fun ls hl => ?_)
      refine lv_iload hx hb dX9_reckonDoubles_163 (lv_at hl 0 rfl) ?_
      refine lv_if_eq (tgt := 174) hx hb dX9_reckonDoubles_165 (by decide) (fun c14 => absurd c14 (by decide)) (fun c14 => ?_)
      refine lv_aload_n hx hb dX9_reckonDoubles_168 rfl (lv_at hl 3 rfl) ?_
      refine lv_iconst (v := 5) hx hb dX9_reckonDoubles_169 (by decide) ?_
      refine pg_put (ci := 8) (v := .int 5) (ty := .int) (C := RX9) (T := TX9) (N := 20) hx hb hts hinX9 tyX9 tyX9_ok nmX9 hown hK hP hD hS hmo hFo rfl 17 (by decide) (hts (.fieldLink RX9 65 "RopeDrumsModel" "failed" "I") (by decide +kernel)) (fun _ h9 => h9) rfl (by decide +kernel) (rfl) (rfl) (Nat.le_of_ble_eq_true rfl) dX9_reckonDoubles_170 (fun H locs F15 eF15 hP hS => ?_)
      have eF15 : F15 = va_up F o (.inr (8, [.int th, .ref (qm 0), .ref (qm 1), .ref (qm 2), .ref (qm 3), .ref (qm 4), .ref (qm 5), .ref (qm 6), .ref (qm 7), .int sp, .ref (qm 8), .ref (qm 9), .ref (qm 10), .ref (qm 11), .ref (qm 12), .ref (qm 13), .ref (qm 14), .int 5, .ref (qm 15), .long oc])) := eF15
      have hFo_15 : F15 o = .inr (8, [.int th, .ref (qm 0), .ref (qm 1), .ref (qm 2), .ref (qm 3), .ref (qm 4), .ref (qm 5), .ref (qm 6), .ref (qm 7), .int sp, .ref (qm 8), .ref (qm 9), .ref (qm 10), .ref (qm 11), .ref (qm 12), .ref (qm 13), .ref (qm 14), .int 5, .ref (qm 15), .long oc]) := by rw [eF15]; exact va_up_self _ _ _
      exact W.vret hx hb hr (fun t ht hW => ⟨⟨F15, rfl, (by rw [eF15]), (by show va_P _ _ _ t.heap; rw [ht]; exact hP)⟩, hS.F ht⟩) hS.2.2 dX9_reckonDoubles_173
    · refine lv_iload hx hb dX9_reckonDoubles_89 (lv_at hl 0 rfl) ?_
      refine lv_if_eq (tgt := 104) hx hb dX9_reckonDoubles_91 (by decide) (fun c16 => ?_) (fun c16 => ?_)
      · refine lv_iconst (v := 0) hx hb dX9_reckonDoubles_104 (by decide) ?_
        refine lv_goto (tgt := 161) hx hb dX9_reckonDoubles_105 (by decide) ?_
        refine lv_istore (lv' := [(8, .int 0), (7, .int r2), (6, .int r1), (0, .ref o), (1, .int 2), (2, .double x), (4, .double y)]) hx hb dX9_reckonDoubles_161 hl (by decide) rfl (fun ls hl => ?_)
        refine lv_iload hx hb dX9_reckonDoubles_163 (lv_at hl 0 rfl) ?_
        refine lv_if_eq (tgt := 174) hx hb dX9_reckonDoubles_165 (by decide) (fun c17 => ?_) (fun c17 => absurd (by decide) c17)
        exfalso
        have f1 := pz2 hr1 c6
        have f2 := (not_congr (z_iff hy9)).mp c13
        have f3 := pz1 hr2 c16
        have hv9 := (nan_mul hx9 hy9).mp hv
        omega
      · refine lv_dload_n hx hb dX9_reckonDoubles_94 rfl (lv_at hl 4 rfl) ?_
        refine lv_dconst0 hx hb dX9_reckonDoubles_95 ?_
        refine lv_dcmp hx hb dX9_reckonDoubles_96 ?_
        refine lv_if_ne (tgt := 104) hx hb dX9_reckonDoubles_97 (by decide) (fun c18 => ?_) (fun c18 => ?_)
        · refine lv_iconst (v := 0) hx hb dX9_reckonDoubles_104 (by decide) ?_
          refine lv_goto (tgt := 161) hx hb dX9_reckonDoubles_105 (by decide) ?_
          refine lv_istore (lv' := [(8, .int 0), (7, .int r2), (6, .int r1), (0, .ref o), (1, .int 2), (2, .double x), (4, .double y)]) hx hb dX9_reckonDoubles_161 hl (by decide) rfl (fun ls hl => ?_)
          refine lv_iload hx hb dX9_reckonDoubles_163 (lv_at hl 0 rfl) ?_
          refine lv_if_eq (tgt := 174) hx hb dX9_reckonDoubles_165 (by decide) (fun c19 => ?_) (fun c19 => absurd (by decide) c19)
          exfalso
          have f1 := pz2 hr1 c6
          have f2 := (not_congr (z_iff hy9)).mp c13
          have f3 := pz2 hr2 c16
          have f4 := (not_congr (z_iff hx9)).mp c18
          have hv9 := (nan_mul hx9 hy9).mp hv
          omega
        · refine lv_iconst (v := 1) hx hb dX9_reckonDoubles_100 (by decide) ?_
          refine lv_goto (tgt := 161) hx hb dX9_reckonDoubles_101 (by decide) ?_
          refine lv_istore (lv' := [(8, .int 1), (7, .int r2), (6, .int r1), (0, .ref o), (1, .int 2), (2, .double x), (4, .double y)]) hx hb dX9_reckonDoubles_161 hl (by decide) rfl (fun ls hl => ?_)
          refine lv_iload hx hb dX9_reckonDoubles_163 (lv_at hl 0 rfl) ?_
          refine lv_if_eq (tgt := 174) hx hb dX9_reckonDoubles_165 (by decide) (fun c20 => absurd c20 (by decide)) (fun c20 => ?_)
          refine lv_aload_n hx hb dX9_reckonDoubles_168 rfl (lv_at hl 3 rfl) ?_
          refine lv_iconst (v := 5) hx hb dX9_reckonDoubles_169 (by decide) ?_
          refine pg_put (ci := 8) (v := .int 5) (ty := .int) (C := RX9) (T := TX9) (N := 20) hx hb hts hinX9 tyX9 tyX9_ok nmX9 hown hK hP hD hS hmo hFo rfl 17 (by decide) (hts (.fieldLink RX9 65 "RopeDrumsModel" "failed" "I") (by decide +kernel)) (fun _ h9 => h9) rfl (by decide +kernel) (rfl) (rfl) (Nat.le_of_ble_eq_true rfl) dX9_reckonDoubles_170 (fun H locs F21 eF21 hP hS => ?_)
          have eF21 : F21 = va_up F o (.inr (8, [.int th, .ref (qm 0), .ref (qm 1), .ref (qm 2), .ref (qm 3), .ref (qm 4), .ref (qm 5), .ref (qm 6), .ref (qm 7), .int sp, .ref (qm 8), .ref (qm 9), .ref (qm 10), .ref (qm 11), .ref (qm 12), .ref (qm 13), .ref (qm 14), .int 5, .ref (qm 15), .long oc])) := eF21
          have hFo_21 : F21 o = .inr (8, [.int th, .ref (qm 0), .ref (qm 1), .ref (qm 2), .ref (qm 3), .ref (qm 4), .ref (qm 5), .ref (qm 6), .ref (qm 7), .int sp, .ref (qm 8), .ref (qm 9), .ref (qm 10), .ref (qm 11), .ref (qm 12), .ref (qm 13), .ref (qm 14), .int 5, .ref (qm 15), .long oc]) := by rw [eF21]; exact va_up_self _ _ _
          exact W.vret hx hb hr (fun t ht hW => ⟨⟨F21, rfl, (by rw [eF21]), (by show va_P _ _ _ t.heap; rw [ht]; exact hP)⟩, hS.F ht⟩) hS.2.2 dX9_reckonDoubles_173

set_option maxHeartbeats 8000000 in
set_option maxRecDepth 100000 in
theorem c9_rD_3 (l : Launch) (G : va_G) (cy : Nat → ClassId) (L : List Nat) (F : Nat → va_E) (sz : Nat) (o : Nat) (qm : Nat → Nat) (th sp fa : Int32) (oc : Int64) (hmo : o ∈ L) (hFo : F o = .inr (8, [.int th, .ref (qm 0), .ref (qm 1), .ref (qm 2), .ref (qm 3), .ref (qm 4), .ref (qm 5), .ref (qm 6), .ref (qm 7), .int sp, .ref (qm 8), .ref (qm 9), .ref (qm 10), .ref (qm 11), .ref (qm 12), .ref (qm 13), .ref (qm 14), .int fa, .ref (qm 15), .long oc])) (x y : UInt64) (hx9 : FP.Core.val64 x ≠ .nan) (hy9 : FP.Core.val64 y ≠ .nan) (hv : FP.Core.dIsNaN (FP.ddiv x y) = false)  : Met l yX9_reckonDoubles wsX9_reckonDoubles ({ frames := 2, cells := 0, slots := 0, locals := 45 }) (va_Pc [.ref o, .int 3, .double x, .double y] (fun U => bQ G cy L F sz U U.heap)) (va_Qv (fun F' : Nat → va_E => F' = va_up F o (.inr (8, [.int th, .ref (qm 0), .ref (qm 1), .ref (qm 2), .ref (qm 3), .ref (qm 4), .ref (qm 5), .ref (qm 6), .ref (qm 7), .int sp, .ref (qm 8), .ref (qm 9), .ref (qm 10), .ref (qm 11), .ref (qm 12), .ref (qm 13), .ref (qm 14), .int fa, .ref (qm 15), .long ((FP.ddiv x y).toInt64)]))) (fun F' t => va_P G vwCl (va_pl L F') t.heap) (va_A (va_pl L F) sz)) 0 0 (va_A (va_pl L F) sz) := by
  refine Met.ofW (cc := cX9_reckonDoubles) (maxL := 9) (ret := none) (by decide) rfl ?_
  intro p e s m args below meth c s₁ B hml hv
  obtain ⟨rfl, hsz, hP, hK, hD0⟩ := hv
  have hx := B.exec
  have hb := B.bytes
  have hr := B.returns
  have hts := atoms_spec (ws := wsX9_reckonDoubles) B.pre
  have hown : s.vm.findClass RX9 = some m.cls := findClass_of_methodNamed B.named
  have hlocks := B.notSynchronized
  have hinX9 : ∀ w ∈ wsX90, w ∈ wsX9_reckonDoubles := by decide +kernel
  subst hsz
  have hD := hD0.self F s.heap.size
  generalize hAe : va_A (va_pl L F) s.heap.size = A at hD ⊢
  have hA : ∀ q : Nat, s.heap.size ≤ q → A q := fun q h => by rw [← hAe]; exact Or.inr h
  have hS : va_S A s.heap s.heap [] := va_S.rf
  have hl := lv_entry ([.ref o, .int 3, .double x, .double y]) (n := 9) (Nat.le_of_ble_eq_true rfl)
  rw [lg_entry_eq]
  generalize (lg_sl ([.ref o, .int 3, .double x, .double y]) ++ List.replicate (9 - (lg_sl ([.ref o, .int 3, .double x, .double y])).length) Slot.unset).toArray = ls at hl ⊢
  have hl : lv_has ls 9 [(0, .ref o), (1, .int 3), (2, .double x), (4, .double y)] := hl
  refine lv_dload_n hx hb dX9_reckonDoubles_0 rfl (lv_at hl 2 rfl) ?_
  refine vp_callSi (W.runS (As := [.double x]) (rest := []) ⟨hx, hb, hml, hown, hts⟩ (c9_isEndless l x hx9) (va_cwS 1 hts gX9_reckonDoubles_X9_isEndless rfl rfl rfl (by decide +kernel) ⟨Nat.le_of_ble_eq_true rfl, Nat.le_of_ble_eq_true rfl⟩) (preS_of okT (trivial)) rfl rfl hl.1 rfl (lv_room (Nat.le_of_ble_eq_true rfl)) dX9_reckonDoubles_1 ⟨Nat.le_of_ble_eq_true rfl, Nat.le_of_ble_eq_true rfl⟩) (fun r1 hr1 => ?_)
  refine lv_istore (lv' := [(6, .int r1), (0, .ref o), (1, .int 3), (2, .double x), (4, .double y)]) hx hb dX9_reckonDoubles_4 hl (by decide) rfl (fun ls hl => ?_)
  refine lv_dload hx hb dX9_reckonDoubles_6 (lv_at hl 4 rfl) ?_
  refine vp_callSi (W.runS (As := [.double y]) (rest := []) ⟨hx, hb, hml, hown, hts⟩ (c9_isEndless l y hy9) (va_cwS 1 hts gX9_reckonDoubles_X9_isEndless rfl rfl rfl (by decide +kernel) ⟨Nat.le_of_ble_eq_true rfl, Nat.le_of_ble_eq_true rfl⟩) (preS_of okT (trivial)) rfl rfl hl.1 rfl (lv_room (Nat.le_of_ble_eq_true rfl)) dX9_reckonDoubles_8 ⟨Nat.le_of_ble_eq_true rfl, Nat.le_of_ble_eq_true rfl⟩) (fun r2 hr2 => ?_)
  refine lv_istore (lv' := [(7, .int r2), (6, .int r1), (0, .ref o), (1, .int 3), (2, .double x), (4, .double y)]) hx hb dX9_reckonDoubles_11 hl (by decide) rfl (fun ls hl => ?_)
  refine lv_iload_n hx hb dX9_reckonDoubles_13 rfl (lv_at hl 3 rfl) ?_
  refine lv_if_ne (tgt := 42) hx hb dX9_reckonDoubles_14 (by decide) (fun c3 => ?_) (fun c3 => absurd c3 (by decide))
  refine lv_iload_n hx hb dX9_reckonDoubles_42 rfl (lv_at hl 3 rfl) ?_
  refine lv_iconst (v := 1) hx hb dX9_reckonDoubles_43 (by decide) ?_
  refine lv_icmp_ne (tgt := 72) hx hb dX9_reckonDoubles_44 (by decide) (fun c4 => ?_) (fun c4 => absurd c4 (by decide))
  refine lv_iload_n hx hb dX9_reckonDoubles_72 rfl (lv_at hl 3 rfl) ?_
  refine lv_iconst (v := 2) hx hb dX9_reckonDoubles_73 (by decide) ?_
  refine lv_icmp_ne (tgt := 108) hx hb dX9_reckonDoubles_74 (by decide) (fun c5 => ?_) (fun c5 => absurd c5 (by decide))
  refine lv_iload_n hx hb dX9_reckonDoubles_108 rfl (lv_at hl 3 rfl) ?_
  refine lv_iconst (v := 3) hx hb dX9_reckonDoubles_109 (by decide) ?_
  refine lv_icmp_ne (tgt := 144) hx hb dX9_reckonDoubles_110 (by decide) (fun c6 => absurd (by decide) c6) (fun c6 => ?_)
  refine lv_iload hx hb dX9_reckonDoubles_113 (lv_at hl 1 rfl) ?_
  refine lv_if_eq (tgt := 123) hx hb dX9_reckonDoubles_115 (by decide) (fun c7 => ?_) (fun c7 => ?_)
  · refine lv_dload_n hx hb dX9_reckonDoubles_123 rfl (lv_at hl 4 rfl) ?_
    refine lv_dconst0 hx hb dX9_reckonDoubles_124 ?_
    refine lv_dcmp hx hb dX9_reckonDoubles_125 ?_
    refine lv_if_ne (tgt := 140) hx hb dX9_reckonDoubles_126 (by decide) (fun c8 => ?_) (fun c8 => ?_)
    · refine lv_iconst (v := 0) hx hb dX9_reckonDoubles_140 (by decide) ?_
      refine lv_goto (tgt := 161) hx hb dX9_reckonDoubles_141 (by decide) ?_
      refine lv_istore (lv' := [(8, .int 0), (7, .int r2), (6, .int r1), (0, .ref o), (1, .int 3), (2, .double x), (4, .double y)]) hx hb dX9_reckonDoubles_161 hl (by decide) rfl (fun ls hl => ?_)
      refine lv_iload hx hb dX9_reckonDoubles_163 (lv_at hl 0 rfl) ?_
      refine lv_if_eq (tgt := 174) hx hb dX9_reckonDoubles_165 (by decide) (fun c9 => ?_) (fun c9 => absurd (by decide) c9)
      refine lv_aload_n hx hb dX9_reckonDoubles_174 rfl (lv_at hl 3 rfl) ?_
      refine lv_iload_n hx hb dX9_reckonDoubles_175 rfl (lv_at hl 4 rfl) ?_
      refine lv_if_ne (tgt := 186) hx hb dX9_reckonDoubles_176 (by decide) (fun c10 => ?_) (fun c10 => absurd c10 (by decide))
      refine lv_iload_n hx hb dX9_reckonDoubles_186 rfl (lv_at hl 4 rfl) ?_
      refine lv_iconst (v := 1) hx hb dX9_reckonDoubles_187 (by decide) ?_
      refine lv_icmp_ne (tgt := 198) hx hb dX9_reckonDoubles_188 (by decide) (fun c11 => ?_) (fun c11 => absurd c11 (by decide))
      refine lv_iload_n hx hb dX9_reckonDoubles_198 rfl (lv_at hl 4 rfl) ?_
      refine lv_iconst (v := 2) hx hb dX9_reckonDoubles_199 (by decide) ?_
      refine lv_icmp_ne (tgt := 210) hx hb dX9_reckonDoubles_200 (by decide) (fun c12 => ?_) (fun c12 => absurd c12 (by decide))
      refine lv_iload_n hx hb dX9_reckonDoubles_210 rfl (lv_at hl 4 rfl) ?_
      refine lv_iconst (v := 3) hx hb dX9_reckonDoubles_211 (by decide) ?_
      refine lv_icmp_ne (tgt := 222) hx hb dX9_reckonDoubles_212 (by decide) (fun c13 => absurd (by decide) c13) (fun c13 => ?_)
      refine lv_dload_n hx hb dX9_reckonDoubles_215 rfl (lv_at hl 5 rfl) ?_
      refine lv_dload hx hb dX9_reckonDoubles_216 (lv_at hl 6 rfl) ?_
      refine lv_ddiv hx hb dX9_reckonDoubles_218 (n64.mpr ((FP.Core.notNaN_iff _).mp hv)) ?_
      refine lv_topd (fun v14 ev14 => ?_)
      refine lv_goto (tgt := 235) hx hb dX9_reckonDoubles_219 (by decide) ?_
      refine vp_callSl (W.runS (As := [.double v14]) (rest := [.ref o]) ⟨hx, hb, hml, hown, hts⟩ (c9_d2lb l v14 (by rw [ev14]; exact (FP.Core.notNaN_iff _).mp hv)) (va_cwS 1 hts gX9_reckonDoubles_Jxe99ae_doubleToLongBits_ccdee rfl rfl rfl (by decide +kernel) ⟨Nat.le_of_ble_eq_true rfl, Nat.le_of_ble_eq_true rfl⟩) (preS_of okT (trivial)) rfl rfl hl.1 rfl (lv_room (Nat.le_of_ble_eq_true rfl)) dX9_reckonDoubles_235 ⟨Nat.le_of_ble_eq_true rfl, Nat.le_of_ble_eq_true rfl⟩) (fun r15 hr15 => ?_)
      refine pg_put (ci := 8) (v := .long r15) (ty := .long) (C := RX9) (T := TX9) (N := 20) hx hb hts hinX9 tyX9 tyX9_ok nmX9 hown hK hP hD hS hmo hFo rfl 19 (by decide) (hts (.fieldLink RX9 131 "RopeDrumsModel" "outcome" "J") (by decide +kernel)) (fun _ h9 => h9) rfl (by decide +kernel) (rfl) (rfl) (Nat.le_of_ble_eq_true rfl) dX9_reckonDoubles_238 (fun H locs F16 eF16 hP hS => ?_)
      have eF16 : F16 = va_up F o (.inr (8, [.int th, .ref (qm 0), .ref (qm 1), .ref (qm 2), .ref (qm 3), .ref (qm 4), .ref (qm 5), .ref (qm 6), .ref (qm 7), .int sp, .ref (qm 8), .ref (qm 9), .ref (qm 10), .ref (qm 11), .ref (qm 12), .ref (qm 13), .ref (qm 14), .int fa, .ref (qm 15), .long r15])) := eF16
      have hFo_16 : F16 o = .inr (8, [.int th, .ref (qm 0), .ref (qm 1), .ref (qm 2), .ref (qm 3), .ref (qm 4), .ref (qm 5), .ref (qm 6), .ref (qm 7), .int sp, .ref (qm 8), .ref (qm 9), .ref (qm 10), .ref (qm 11), .ref (qm 12), .ref (qm 13), .ref (qm 14), .int fa, .ref (qm 15), .long r15]) := by rw [eF16]; exact va_up_self _ _ _
      exact W.vret hx hb hr (fun t ht hW => ⟨⟨F16, rfl, (by rw [eF16]; rw [hr15, ev14]), (by show va_P _ _ _ t.heap; rw [ht]; exact hP)⟩, hS.F ht⟩) hS.2.2 dX9_reckonDoubles_241
    · refine lv_dload hx hb dX9_reckonDoubles_129 (lv_at hl 5 rfl) ?_
      refine lv_dconst0 hx hb dX9_reckonDoubles_131 ?_
      refine lv_dcmp hx hb dX9_reckonDoubles_132 ?_
      refine lv_if_ne (tgt := 140) hx hb dX9_reckonDoubles_133 (by decide) (fun c17 => ?_) (fun c17 => ?_)
      · refine lv_iconst (v := 0) hx hb dX9_reckonDoubles_140 (by decide) ?_
        refine lv_goto (tgt := 161) hx hb dX9_reckonDoubles_141 (by decide) ?_
        refine lv_istore (lv' := [(8, .int 0), (7, .int r2), (6, .int r1), (0, .ref o), (1, .int 3), (2, .double x), (4, .double y)]) hx hb dX9_reckonDoubles_161 hl (by decide) rfl (fun ls hl => ?_)
        refine lv_iload hx hb dX9_reckonDoubles_163 (lv_at hl 0 rfl) ?_
        refine lv_if_eq (tgt := 174) hx hb dX9_reckonDoubles_165 (by decide) (fun c18 => ?_) (fun c18 => absurd (by decide) c18)
        refine lv_aload_n hx hb dX9_reckonDoubles_174 rfl (lv_at hl 3 rfl) ?_
        refine lv_iload_n hx hb dX9_reckonDoubles_175 rfl (lv_at hl 4 rfl) ?_
        refine lv_if_ne (tgt := 186) hx hb dX9_reckonDoubles_176 (by decide) (fun c19 => ?_) (fun c19 => absurd c19 (by decide))
        refine lv_iload_n hx hb dX9_reckonDoubles_186 rfl (lv_at hl 4 rfl) ?_
        refine lv_iconst (v := 1) hx hb dX9_reckonDoubles_187 (by decide) ?_
        refine lv_icmp_ne (tgt := 198) hx hb dX9_reckonDoubles_188 (by decide) (fun c20 => ?_) (fun c20 => absurd c20 (by decide))
        refine lv_iload_n hx hb dX9_reckonDoubles_198 rfl (lv_at hl 4 rfl) ?_
        refine lv_iconst (v := 2) hx hb dX9_reckonDoubles_199 (by decide) ?_
        refine lv_icmp_ne (tgt := 210) hx hb dX9_reckonDoubles_200 (by decide) (fun c21 => ?_) (fun c21 => absurd c21 (by decide))
        refine lv_iload_n hx hb dX9_reckonDoubles_210 rfl (lv_at hl 4 rfl) ?_
        refine lv_iconst (v := 3) hx hb dX9_reckonDoubles_211 (by decide) ?_
        refine lv_icmp_ne (tgt := 222) hx hb dX9_reckonDoubles_212 (by decide) (fun c22 => absurd (by decide) c22) (fun c22 => ?_)
        refine lv_dload_n hx hb dX9_reckonDoubles_215 rfl (lv_at hl 5 rfl) ?_
        refine lv_dload hx hb dX9_reckonDoubles_216 (lv_at hl 6 rfl) ?_
        refine lv_ddiv hx hb dX9_reckonDoubles_218 (n64.mpr ((FP.Core.notNaN_iff _).mp hv)) ?_
        refine lv_topd (fun v23 ev23 => ?_)
        refine lv_goto (tgt := 235) hx hb dX9_reckonDoubles_219 (by decide) ?_
        refine vp_callSl (W.runS (As := [.double v23]) (rest := [.ref o]) ⟨hx, hb, hml, hown, hts⟩ (c9_d2lb l v23 (by rw [ev23]; exact (FP.Core.notNaN_iff _).mp hv)) (va_cwS 1 hts gX9_reckonDoubles_Jxe99ae_doubleToLongBits_ccdee rfl rfl rfl (by decide +kernel) ⟨Nat.le_of_ble_eq_true rfl, Nat.le_of_ble_eq_true rfl⟩) (preS_of okT (trivial)) rfl rfl hl.1 rfl (lv_room (Nat.le_of_ble_eq_true rfl)) dX9_reckonDoubles_235 ⟨Nat.le_of_ble_eq_true rfl, Nat.le_of_ble_eq_true rfl⟩) (fun r24 hr24 => ?_)
        refine pg_put (ci := 8) (v := .long r24) (ty := .long) (C := RX9) (T := TX9) (N := 20) hx hb hts hinX9 tyX9 tyX9_ok nmX9 hown hK hP hD hS hmo hFo rfl 19 (by decide) (hts (.fieldLink RX9 131 "RopeDrumsModel" "outcome" "J") (by decide +kernel)) (fun _ h9 => h9) rfl (by decide +kernel) (rfl) (rfl) (Nat.le_of_ble_eq_true rfl) dX9_reckonDoubles_238 (fun H locs F25 eF25 hP hS => ?_)
        have eF25 : F25 = va_up F o (.inr (8, [.int th, .ref (qm 0), .ref (qm 1), .ref (qm 2), .ref (qm 3), .ref (qm 4), .ref (qm 5), .ref (qm 6), .ref (qm 7), .int sp, .ref (qm 8), .ref (qm 9), .ref (qm 10), .ref (qm 11), .ref (qm 12), .ref (qm 13), .ref (qm 14), .int fa, .ref (qm 15), .long r24])) := eF25
        have hFo_25 : F25 o = .inr (8, [.int th, .ref (qm 0), .ref (qm 1), .ref (qm 2), .ref (qm 3), .ref (qm 4), .ref (qm 5), .ref (qm 6), .ref (qm 7), .int sp, .ref (qm 8), .ref (qm 9), .ref (qm 10), .ref (qm 11), .ref (qm 12), .ref (qm 13), .ref (qm 14), .int fa, .ref (qm 15), .long r24]) := by rw [eF25]; exact va_up_self _ _ _
        exact W.vret hx hb hr (fun t ht hW => ⟨⟨F25, rfl, (by rw [eF25]; rw [hr24, ev23]), (by show va_P _ _ _ t.heap; rw [ht]; exact hP)⟩, hS.F ht⟩) hS.2.2 dX9_reckonDoubles_241
      · refine lv_iconst (v := 1) hx hb dX9_reckonDoubles_136 (by decide) ?_
        refine lv_goto (tgt := 161) hx hb dX9_reckonDoubles_137 (by decide) ?_
        refine lv_istore (lv' := [(8, .int 1), (7, .int r2), (6, .int r1), (0, .ref o), (1, .int 3), (2, .double x), (4, .double y)]) hx hb dX9_reckonDoubles_161 hl (by decide) rfl (fun ls hl => ?_)
        refine lv_iload hx hb dX9_reckonDoubles_163 (lv_at hl 0 rfl) ?_
        refine lv_if_eq (tgt := 174) hx hb dX9_reckonDoubles_165 (by decide) (fun c26 => absurd c26 (by decide)) (fun c26 => ?_)
        exfalso
        have f1 := pz1 hr1 c7
        have f2 := (z_iff hx9).mp c8
        have f3 := (z_iff hy9).mp c17
        have hv9 := (not_congr (nan_div hx9 hy9)).mp (by rw [hv]; decide)
        exact hv9 (by omega)
  · refine lv_iload hx hb dX9_reckonDoubles_118 (lv_at hl 0 rfl) ?_
    refine lv_if_ne (tgt := 136) hx hb dX9_reckonDoubles_120 (by decide) (fun c27 => ?_) (fun c27 => ?_)
    · refine lv_iconst (v := 1) hx hb dX9_reckonDoubles_136 (by decide) ?_
      refine lv_goto (tgt := 161) hx hb dX9_reckonDoubles_137 (by decide) ?_
      refine lv_istore (lv' := [(8, .int 1), (7, .int r2), (6, .int r1), (0, .ref o), (1, .int 3), (2, .double x), (4, .double y)]) hx hb dX9_reckonDoubles_161 hl (by decide) rfl (fun ls hl => ?_)
      refine lv_iload hx hb dX9_reckonDoubles_163 (lv_at hl 0 rfl) ?_
      refine lv_if_eq (tgt := 174) hx hb dX9_reckonDoubles_165 (by decide) (fun c28 => absurd c28 (by decide)) (fun c28 => ?_)
      exfalso
      have f1 := pz2 hr1 c7
      have f2 := pz2 hr2 c27
      have hv9 := (not_congr (nan_div hx9 hy9)).mp (by rw [hv]; decide)
      exact hv9 (by omega)
    · refine lv_dload_n hx hb dX9_reckonDoubles_123 rfl (lv_at hl 4 rfl) ?_
      refine lv_dconst0 hx hb dX9_reckonDoubles_124 ?_
      refine lv_dcmp hx hb dX9_reckonDoubles_125 ?_
      refine lv_if_ne (tgt := 140) hx hb dX9_reckonDoubles_126 (by decide) (fun c29 => ?_) (fun c29 => ?_)
      · refine lv_iconst (v := 0) hx hb dX9_reckonDoubles_140 (by decide) ?_
        refine lv_goto (tgt := 161) hx hb dX9_reckonDoubles_141 (by decide) ?_
        refine lv_istore (lv' := [(8, .int 0), (7, .int r2), (6, .int r1), (0, .ref o), (1, .int 3), (2, .double x), (4, .double y)]) hx hb dX9_reckonDoubles_161 hl (by decide) rfl (fun ls hl => ?_)
        refine lv_iload hx hb dX9_reckonDoubles_163 (lv_at hl 0 rfl) ?_
        refine lv_if_eq (tgt := 174) hx hb dX9_reckonDoubles_165 (by decide) (fun c30 => ?_) (fun c30 => absurd (by decide) c30)
        refine lv_aload_n hx hb dX9_reckonDoubles_174 rfl (lv_at hl 3 rfl) ?_
        refine lv_iload_n hx hb dX9_reckonDoubles_175 rfl (lv_at hl 4 rfl) ?_
        refine lv_if_ne (tgt := 186) hx hb dX9_reckonDoubles_176 (by decide) (fun c31 => ?_) (fun c31 => absurd c31 (by decide))
        refine lv_iload_n hx hb dX9_reckonDoubles_186 rfl (lv_at hl 4 rfl) ?_
        refine lv_iconst (v := 1) hx hb dX9_reckonDoubles_187 (by decide) ?_
        refine lv_icmp_ne (tgt := 198) hx hb dX9_reckonDoubles_188 (by decide) (fun c32 => ?_) (fun c32 => absurd c32 (by decide))
        refine lv_iload_n hx hb dX9_reckonDoubles_198 rfl (lv_at hl 4 rfl) ?_
        refine lv_iconst (v := 2) hx hb dX9_reckonDoubles_199 (by decide) ?_
        refine lv_icmp_ne (tgt := 210) hx hb dX9_reckonDoubles_200 (by decide) (fun c33 => ?_) (fun c33 => absurd c33 (by decide))
        refine lv_iload_n hx hb dX9_reckonDoubles_210 rfl (lv_at hl 4 rfl) ?_
        refine lv_iconst (v := 3) hx hb dX9_reckonDoubles_211 (by decide) ?_
        refine lv_icmp_ne (tgt := 222) hx hb dX9_reckonDoubles_212 (by decide) (fun c34 => absurd (by decide) c34) (fun c34 => ?_)
        refine lv_dload_n hx hb dX9_reckonDoubles_215 rfl (lv_at hl 5 rfl) ?_
        refine lv_dload hx hb dX9_reckonDoubles_216 (lv_at hl 6 rfl) ?_
        refine lv_ddiv hx hb dX9_reckonDoubles_218 (n64.mpr ((FP.Core.notNaN_iff _).mp hv)) ?_
        refine lv_topd (fun v35 ev35 => ?_)
        refine lv_goto (tgt := 235) hx hb dX9_reckonDoubles_219 (by decide) ?_
        refine vp_callSl (W.runS (As := [.double v35]) (rest := [.ref o]) ⟨hx, hb, hml, hown, hts⟩ (c9_d2lb l v35 (by rw [ev35]; exact (FP.Core.notNaN_iff _).mp hv)) (va_cwS 1 hts gX9_reckonDoubles_Jxe99ae_doubleToLongBits_ccdee rfl rfl rfl (by decide +kernel) ⟨Nat.le_of_ble_eq_true rfl, Nat.le_of_ble_eq_true rfl⟩) (preS_of okT (trivial)) rfl rfl hl.1 rfl (lv_room (Nat.le_of_ble_eq_true rfl)) dX9_reckonDoubles_235 ⟨Nat.le_of_ble_eq_true rfl, Nat.le_of_ble_eq_true rfl⟩) (fun r36 hr36 => ?_)
        refine pg_put (ci := 8) (v := .long r36) (ty := .long) (C := RX9) (T := TX9) (N := 20) hx hb hts hinX9 tyX9 tyX9_ok nmX9 hown hK hP hD hS hmo hFo rfl 19 (by decide) (hts (.fieldLink RX9 131 "RopeDrumsModel" "outcome" "J") (by decide +kernel)) (fun _ h9 => h9) rfl (by decide +kernel) (rfl) (rfl) (Nat.le_of_ble_eq_true rfl) dX9_reckonDoubles_238 (fun H locs F37 eF37 hP hS => ?_)
        have eF37 : F37 = va_up F o (.inr (8, [.int th, .ref (qm 0), .ref (qm 1), .ref (qm 2), .ref (qm 3), .ref (qm 4), .ref (qm 5), .ref (qm 6), .ref (qm 7), .int sp, .ref (qm 8), .ref (qm 9), .ref (qm 10), .ref (qm 11), .ref (qm 12), .ref (qm 13), .ref (qm 14), .int fa, .ref (qm 15), .long r36])) := eF37
        have hFo_37 : F37 o = .inr (8, [.int th, .ref (qm 0), .ref (qm 1), .ref (qm 2), .ref (qm 3), .ref (qm 4), .ref (qm 5), .ref (qm 6), .ref (qm 7), .int sp, .ref (qm 8), .ref (qm 9), .ref (qm 10), .ref (qm 11), .ref (qm 12), .ref (qm 13), .ref (qm 14), .int fa, .ref (qm 15), .long r36]) := by rw [eF37]; exact va_up_self _ _ _
        exact W.vret hx hb hr (fun t ht hW => ⟨⟨F37, rfl, (by rw [eF37]; rw [hr36, ev35]), (by show va_P _ _ _ t.heap; rw [ht]; exact hP)⟩, hS.F ht⟩) hS.2.2 dX9_reckonDoubles_241
      · refine lv_dload hx hb dX9_reckonDoubles_129 (lv_at hl 5 rfl) ?_
        refine lv_dconst0 hx hb dX9_reckonDoubles_131 ?_
        refine lv_dcmp hx hb dX9_reckonDoubles_132 ?_
        refine lv_if_ne (tgt := 140) hx hb dX9_reckonDoubles_133 (by decide) (fun c38 => ?_) (fun c38 => ?_)
        · refine lv_iconst (v := 0) hx hb dX9_reckonDoubles_140 (by decide) ?_
          refine lv_goto (tgt := 161) hx hb dX9_reckonDoubles_141 (by decide) ?_
          refine lv_istore (lv' := [(8, .int 0), (7, .int r2), (6, .int r1), (0, .ref o), (1, .int 3), (2, .double x), (4, .double y)]) hx hb dX9_reckonDoubles_161 hl (by decide) rfl (fun ls hl => ?_)
          refine lv_iload hx hb dX9_reckonDoubles_163 (lv_at hl 0 rfl) ?_
          refine lv_if_eq (tgt := 174) hx hb dX9_reckonDoubles_165 (by decide) (fun c39 => ?_) (fun c39 => absurd (by decide) c39)
          refine lv_aload_n hx hb dX9_reckonDoubles_174 rfl (lv_at hl 3 rfl) ?_
          refine lv_iload_n hx hb dX9_reckonDoubles_175 rfl (lv_at hl 4 rfl) ?_
          refine lv_if_ne (tgt := 186) hx hb dX9_reckonDoubles_176 (by decide) (fun c40 => ?_) (fun c40 => absurd c40 (by decide))
          refine lv_iload_n hx hb dX9_reckonDoubles_186 rfl (lv_at hl 4 rfl) ?_
          refine lv_iconst (v := 1) hx hb dX9_reckonDoubles_187 (by decide) ?_
          refine lv_icmp_ne (tgt := 198) hx hb dX9_reckonDoubles_188 (by decide) (fun c41 => ?_) (fun c41 => absurd c41 (by decide))
          refine lv_iload_n hx hb dX9_reckonDoubles_198 rfl (lv_at hl 4 rfl) ?_
          refine lv_iconst (v := 2) hx hb dX9_reckonDoubles_199 (by decide) ?_
          refine lv_icmp_ne (tgt := 210) hx hb dX9_reckonDoubles_200 (by decide) (fun c42 => ?_) (fun c42 => absurd c42 (by decide))
          refine lv_iload_n hx hb dX9_reckonDoubles_210 rfl (lv_at hl 4 rfl) ?_
          refine lv_iconst (v := 3) hx hb dX9_reckonDoubles_211 (by decide) ?_
          refine lv_icmp_ne (tgt := 222) hx hb dX9_reckonDoubles_212 (by decide) (fun c43 => absurd (by decide) c43) (fun c43 => ?_)
          refine lv_dload_n hx hb dX9_reckonDoubles_215 rfl (lv_at hl 5 rfl) ?_
          refine lv_dload hx hb dX9_reckonDoubles_216 (lv_at hl 6 rfl) ?_
          refine lv_ddiv hx hb dX9_reckonDoubles_218 (n64.mpr ((FP.Core.notNaN_iff _).mp hv)) ?_
          refine lv_topd (fun v44 ev44 => ?_)
          refine lv_goto (tgt := 235) hx hb dX9_reckonDoubles_219 (by decide) ?_
          refine vp_callSl (W.runS (As := [.double v44]) (rest := [.ref o]) ⟨hx, hb, hml, hown, hts⟩ (c9_d2lb l v44 (by rw [ev44]; exact (FP.Core.notNaN_iff _).mp hv)) (va_cwS 1 hts gX9_reckonDoubles_Jxe99ae_doubleToLongBits_ccdee rfl rfl rfl (by decide +kernel) ⟨Nat.le_of_ble_eq_true rfl, Nat.le_of_ble_eq_true rfl⟩) (preS_of okT (trivial)) rfl rfl hl.1 rfl (lv_room (Nat.le_of_ble_eq_true rfl)) dX9_reckonDoubles_235 ⟨Nat.le_of_ble_eq_true rfl, Nat.le_of_ble_eq_true rfl⟩) (fun r45 hr45 => ?_)
          refine pg_put (ci := 8) (v := .long r45) (ty := .long) (C := RX9) (T := TX9) (N := 20) hx hb hts hinX9 tyX9 tyX9_ok nmX9 hown hK hP hD hS hmo hFo rfl 19 (by decide) (hts (.fieldLink RX9 131 "RopeDrumsModel" "outcome" "J") (by decide +kernel)) (fun _ h9 => h9) rfl (by decide +kernel) (rfl) (rfl) (Nat.le_of_ble_eq_true rfl) dX9_reckonDoubles_238 (fun H locs F46 eF46 hP hS => ?_)
          have eF46 : F46 = va_up F o (.inr (8, [.int th, .ref (qm 0), .ref (qm 1), .ref (qm 2), .ref (qm 3), .ref (qm 4), .ref (qm 5), .ref (qm 6), .ref (qm 7), .int sp, .ref (qm 8), .ref (qm 9), .ref (qm 10), .ref (qm 11), .ref (qm 12), .ref (qm 13), .ref (qm 14), .int fa, .ref (qm 15), .long r45])) := eF46
          have hFo_46 : F46 o = .inr (8, [.int th, .ref (qm 0), .ref (qm 1), .ref (qm 2), .ref (qm 3), .ref (qm 4), .ref (qm 5), .ref (qm 6), .ref (qm 7), .int sp, .ref (qm 8), .ref (qm 9), .ref (qm 10), .ref (qm 11), .ref (qm 12), .ref (qm 13), .ref (qm 14), .int fa, .ref (qm 15), .long r45]) := by rw [eF46]; exact va_up_self _ _ _
          exact W.vret hx hb hr (fun t ht hW => ⟨⟨F46, rfl, (by rw [eF46]; rw [hr45, ev44]), (by show va_P _ _ _ t.heap; rw [ht]; exact hP)⟩, hS.F ht⟩) hS.2.2 dX9_reckonDoubles_241
        · refine lv_iconst (v := 1) hx hb dX9_reckonDoubles_136 (by decide) ?_
          refine lv_goto (tgt := 161) hx hb dX9_reckonDoubles_137 (by decide) ?_
          refine lv_istore (lv' := [(8, .int 1), (7, .int r2), (6, .int r1), (0, .ref o), (1, .int 3), (2, .double x), (4, .double y)]) hx hb dX9_reckonDoubles_161 hl (by decide) rfl (fun ls hl => ?_)
          refine lv_iload hx hb dX9_reckonDoubles_163 (lv_at hl 0 rfl) ?_
          refine lv_if_eq (tgt := 174) hx hb dX9_reckonDoubles_165 (by decide) (fun c47 => absurd c47 (by decide)) (fun c47 => ?_)
          exfalso
          have f1 := pz2 hr1 c7
          have f2 := pz1 hr2 c27
          have f3 := (z_iff hx9).mp c29
          have f4 := (z_iff hy9).mp c38
          have hv9 := (not_congr (nan_div hx9 hy9)).mp (by rw [hv]; decide)
          exact hv9 (by omega)

set_option maxHeartbeats 8000000 in
set_option maxRecDepth 100000 in
theorem c9_rD_3_no (l : Launch) (G : va_G) (cy : Nat → ClassId) (L : List Nat) (F : Nat → va_E) (sz : Nat) (o : Nat) (qm : Nat → Nat) (th sp fa : Int32) (oc : Int64) (hmo : o ∈ L) (hFo : F o = .inr (8, [.int th, .ref (qm 0), .ref (qm 1), .ref (qm 2), .ref (qm 3), .ref (qm 4), .ref (qm 5), .ref (qm 6), .ref (qm 7), .int sp, .ref (qm 8), .ref (qm 9), .ref (qm 10), .ref (qm 11), .ref (qm 12), .ref (qm 13), .ref (qm 14), .int fa, .ref (qm 15), .long oc])) (x y : UInt64) (hx9 : FP.Core.val64 x ≠ .nan) (hy9 : FP.Core.val64 y ≠ .nan) (hv : FP.Core.dIsNaN (FP.ddiv x y) = true)  : Met l yX9_reckonDoubles wsX9_reckonDoubles ({ frames := 2, cells := 0, slots := 0, locals := 45 }) (va_Pc [.ref o, .int 3, .double x, .double y] (fun U => bQ G cy L F sz U U.heap)) (va_Qv (fun F' : Nat → va_E => F' = va_up F o (.inr (8, [.int th, .ref (qm 0), .ref (qm 1), .ref (qm 2), .ref (qm 3), .ref (qm 4), .ref (qm 5), .ref (qm 6), .ref (qm 7), .int sp, .ref (qm 8), .ref (qm 9), .ref (qm 10), .ref (qm 11), .ref (qm 12), .ref (qm 13), .ref (qm 14), .int 5, .ref (qm 15), .long oc]))) (fun F' t => va_P G vwCl (va_pl L F') t.heap) (va_A (va_pl L F) sz)) 0 0 (va_A (va_pl L F) sz) := by
  refine Met.ofW (cc := cX9_reckonDoubles) (maxL := 9) (ret := none) (by decide) rfl ?_
  intro p e s m args below meth c s₁ B hml hv
  obtain ⟨rfl, hsz, hP, hK, hD0⟩ := hv
  have hx := B.exec
  have hb := B.bytes
  have hr := B.returns
  have hts := atoms_spec (ws := wsX9_reckonDoubles) B.pre
  have hown : s.vm.findClass RX9 = some m.cls := findClass_of_methodNamed B.named
  have hlocks := B.notSynchronized
  have hinX9 : ∀ w ∈ wsX90, w ∈ wsX9_reckonDoubles := by decide +kernel
  subst hsz
  have hD := hD0.self F s.heap.size
  generalize hAe : va_A (va_pl L F) s.heap.size = A at hD ⊢
  have hA : ∀ q : Nat, s.heap.size ≤ q → A q := fun q h => by rw [← hAe]; exact Or.inr h
  have hS : va_S A s.heap s.heap [] := va_S.rf
  have hl := lv_entry ([.ref o, .int 3, .double x, .double y]) (n := 9) (Nat.le_of_ble_eq_true rfl)
  rw [lg_entry_eq]
  generalize (lg_sl ([.ref o, .int 3, .double x, .double y]) ++ List.replicate (9 - (lg_sl ([.ref o, .int 3, .double x, .double y])).length) Slot.unset).toArray = ls at hl ⊢
  have hl : lv_has ls 9 [(0, .ref o), (1, .int 3), (2, .double x), (4, .double y)] := hl
  refine lv_dload_n hx hb dX9_reckonDoubles_0 rfl (lv_at hl 2 rfl) ?_
  refine vp_callSi (W.runS (As := [.double x]) (rest := []) ⟨hx, hb, hml, hown, hts⟩ (c9_isEndless l x hx9) (va_cwS 1 hts gX9_reckonDoubles_X9_isEndless rfl rfl rfl (by decide +kernel) ⟨Nat.le_of_ble_eq_true rfl, Nat.le_of_ble_eq_true rfl⟩) (preS_of okT (trivial)) rfl rfl hl.1 rfl (lv_room (Nat.le_of_ble_eq_true rfl)) dX9_reckonDoubles_1 ⟨Nat.le_of_ble_eq_true rfl, Nat.le_of_ble_eq_true rfl⟩) (fun r1 hr1 => ?_)
  refine lv_istore (lv' := [(6, .int r1), (0, .ref o), (1, .int 3), (2, .double x), (4, .double y)]) hx hb dX9_reckonDoubles_4 hl (by decide) rfl (fun ls hl => ?_)
  refine lv_dload hx hb dX9_reckonDoubles_6 (lv_at hl 4 rfl) ?_
  refine vp_callSi (W.runS (As := [.double y]) (rest := []) ⟨hx, hb, hml, hown, hts⟩ (c9_isEndless l y hy9) (va_cwS 1 hts gX9_reckonDoubles_X9_isEndless rfl rfl rfl (by decide +kernel) ⟨Nat.le_of_ble_eq_true rfl, Nat.le_of_ble_eq_true rfl⟩) (preS_of okT (trivial)) rfl rfl hl.1 rfl (lv_room (Nat.le_of_ble_eq_true rfl)) dX9_reckonDoubles_8 ⟨Nat.le_of_ble_eq_true rfl, Nat.le_of_ble_eq_true rfl⟩) (fun r2 hr2 => ?_)
  refine lv_istore (lv' := [(7, .int r2), (6, .int r1), (0, .ref o), (1, .int 3), (2, .double x), (4, .double y)]) hx hb dX9_reckonDoubles_11 hl (by decide) rfl (fun ls hl => ?_)
  refine lv_iload_n hx hb dX9_reckonDoubles_13 rfl (lv_at hl 3 rfl) ?_
  refine lv_if_ne (tgt := 42) hx hb dX9_reckonDoubles_14 (by decide) (fun c3 => ?_) (fun c3 => absurd c3 (by decide))
  refine lv_iload_n hx hb dX9_reckonDoubles_42 rfl (lv_at hl 3 rfl) ?_
  refine lv_iconst (v := 1) hx hb dX9_reckonDoubles_43 (by decide) ?_
  refine lv_icmp_ne (tgt := 72) hx hb dX9_reckonDoubles_44 (by decide) (fun c4 => ?_) (fun c4 => absurd c4 (by decide))
  refine lv_iload_n hx hb dX9_reckonDoubles_72 rfl (lv_at hl 3 rfl) ?_
  refine lv_iconst (v := 2) hx hb dX9_reckonDoubles_73 (by decide) ?_
  refine lv_icmp_ne (tgt := 108) hx hb dX9_reckonDoubles_74 (by decide) (fun c5 => ?_) (fun c5 => absurd c5 (by decide))
  refine lv_iload_n hx hb dX9_reckonDoubles_108 rfl (lv_at hl 3 rfl) ?_
  refine lv_iconst (v := 3) hx hb dX9_reckonDoubles_109 (by decide) ?_
  refine lv_icmp_ne (tgt := 144) hx hb dX9_reckonDoubles_110 (by decide) (fun c6 => absurd (by decide) c6) (fun c6 => ?_)
  refine lv_iload hx hb dX9_reckonDoubles_113 (lv_at hl 1 rfl) ?_
  refine lv_if_eq (tgt := 123) hx hb dX9_reckonDoubles_115 (by decide) (fun c7 => ?_) (fun c7 => ?_)
  · refine lv_dload_n hx hb dX9_reckonDoubles_123 rfl (lv_at hl 4 rfl) ?_
    refine lv_dconst0 hx hb dX9_reckonDoubles_124 ?_
    refine lv_dcmp hx hb dX9_reckonDoubles_125 ?_
    refine lv_if_ne (tgt := 140) hx hb dX9_reckonDoubles_126 (by decide) (fun c8 => ?_) (fun c8 => ?_)
    · refine lv_iconst (v := 0) hx hb dX9_reckonDoubles_140 (by decide) ?_
      refine lv_goto (tgt := 161) hx hb dX9_reckonDoubles_141 (by decide) ?_
      refine lv_istore (lv' := [(8, .int 0), (7, .int r2), (6, .int r1), (0, .ref o), (1, .int 3), (2, .double x), (4, .double y)]) hx hb dX9_reckonDoubles_161 hl (by decide) rfl (fun ls hl => ?_)
      refine lv_iload hx hb dX9_reckonDoubles_163 (lv_at hl 0 rfl) ?_
      refine lv_if_eq (tgt := 174) hx hb dX9_reckonDoubles_165 (by decide) (fun c9 => ?_) (fun c9 => absurd (by decide) c9)
      exfalso
      have f1 := pz1 hr1 c7
      have f2 := (not_congr (z_iff hx9)).mp c8
      have hv9 := (nan_div hx9 hy9).mp hv
      omega
    · refine lv_dload hx hb dX9_reckonDoubles_129 (lv_at hl 5 rfl) ?_
      refine lv_dconst0 hx hb dX9_reckonDoubles_131 ?_
      refine lv_dcmp hx hb dX9_reckonDoubles_132 ?_
      refine lv_if_ne (tgt := 140) hx hb dX9_reckonDoubles_133 (by decide) (fun c10 => ?_) (fun c10 => ?_)
      · refine lv_iconst (v := 0) hx hb dX9_reckonDoubles_140 (by decide) ?_
        refine lv_goto (tgt := 161) hx hb dX9_reckonDoubles_141 (by decide) ?_
        refine lv_istore (lv' := [(8, .int 0), (7, .int r2), (6, .int r1), (0, .ref o), (1, .int 3), (2, .double x), (4, .double y)]) hx hb dX9_reckonDoubles_161 hl (by decide) rfl (fun ls hl => ?_)
        refine lv_iload hx hb dX9_reckonDoubles_163 (lv_at hl 0 rfl) ?_
        refine lv_if_eq (tgt := 174) hx hb dX9_reckonDoubles_165 (by decide) (fun c11 => ?_) (fun c11 => absurd (by decide) c11)
        exfalso
        have f1 := pz1 hr1 c7
        have f2 := (z_iff hx9).mp c8
        have f3 := (not_congr (z_iff hy9)).mp c10
        have hv9 := (nan_div hx9 hy9).mp hv
        omega
      · refine lv_iconst (v := 1) hx hb dX9_reckonDoubles_136 (by decide) ?_
        refine lv_goto (tgt := 161) hx hb dX9_reckonDoubles_137 (by decide) ?_
        refine lv_istore (lv' := [(8, .int 1), (7, .int r2), (6, .int r1), (0, .ref o), (1, .int 3), (2, .double x), (4, .double y)]) hx hb dX9_reckonDoubles_161 hl (by decide) rfl (fun ls hl => ?_)
        refine lv_iload hx hb dX9_reckonDoubles_163 (lv_at hl 0 rfl) ?_
        refine lv_if_eq (tgt := 174) hx hb dX9_reckonDoubles_165 (by decide) (fun c12 => absurd c12 (by decide)) (fun c12 => ?_)
        refine lv_aload_n hx hb dX9_reckonDoubles_168 rfl (lv_at hl 3 rfl) ?_
        refine lv_iconst (v := 5) hx hb dX9_reckonDoubles_169 (by decide) ?_
        refine pg_put (ci := 8) (v := .int 5) (ty := .int) (C := RX9) (T := TX9) (N := 20) hx hb hts hinX9 tyX9 tyX9_ok nmX9 hown hK hP hD hS hmo hFo rfl 17 (by decide) (hts (.fieldLink RX9 65 "RopeDrumsModel" "failed" "I") (by decide +kernel)) (fun _ h9 => h9) rfl (by decide +kernel) (rfl) (rfl) (Nat.le_of_ble_eq_true rfl) dX9_reckonDoubles_170 (fun H locs F13 eF13 hP hS => ?_)
        have eF13 : F13 = va_up F o (.inr (8, [.int th, .ref (qm 0), .ref (qm 1), .ref (qm 2), .ref (qm 3), .ref (qm 4), .ref (qm 5), .ref (qm 6), .ref (qm 7), .int sp, .ref (qm 8), .ref (qm 9), .ref (qm 10), .ref (qm 11), .ref (qm 12), .ref (qm 13), .ref (qm 14), .int 5, .ref (qm 15), .long oc])) := eF13
        have hFo_13 : F13 o = .inr (8, [.int th, .ref (qm 0), .ref (qm 1), .ref (qm 2), .ref (qm 3), .ref (qm 4), .ref (qm 5), .ref (qm 6), .ref (qm 7), .int sp, .ref (qm 8), .ref (qm 9), .ref (qm 10), .ref (qm 11), .ref (qm 12), .ref (qm 13), .ref (qm 14), .int 5, .ref (qm 15), .long oc]) := by rw [eF13]; exact va_up_self _ _ _
        exact W.vret hx hb hr (fun t ht hW => ⟨⟨F13, rfl, (by rw [eF13]), (by show va_P _ _ _ t.heap; rw [ht]; exact hP)⟩, hS.F ht⟩) hS.2.2 dX9_reckonDoubles_173
  · refine lv_iload hx hb dX9_reckonDoubles_118 (lv_at hl 0 rfl) ?_
    refine lv_if_ne (tgt := 136) hx hb dX9_reckonDoubles_120 (by decide) (fun c14 => ?_) (fun c14 => ?_)
    · refine lv_iconst (v := 1) hx hb dX9_reckonDoubles_136 (by decide) ?_
      refine lv_goto (tgt := 161) hx hb dX9_reckonDoubles_137 (by decide) ?_
      refine lv_istore (lv' := [(8, .int 1), (7, .int r2), (6, .int r1), (0, .ref o), (1, .int 3), (2, .double x), (4, .double y)]) hx hb dX9_reckonDoubles_161 hl (by decide) rfl (fun ls hl => ?_)
      refine lv_iload hx hb dX9_reckonDoubles_163 (lv_at hl 0 rfl) ?_
      refine lv_if_eq (tgt := 174) hx hb dX9_reckonDoubles_165 (by decide) (fun c15 => absurd c15 (by decide)) (fun c15 => ?_)
      refine lv_aload_n hx hb dX9_reckonDoubles_168 rfl (lv_at hl 3 rfl) ?_
      refine lv_iconst (v := 5) hx hb dX9_reckonDoubles_169 (by decide) ?_
      refine pg_put (ci := 8) (v := .int 5) (ty := .int) (C := RX9) (T := TX9) (N := 20) hx hb hts hinX9 tyX9 tyX9_ok nmX9 hown hK hP hD hS hmo hFo rfl 17 (by decide) (hts (.fieldLink RX9 65 "RopeDrumsModel" "failed" "I") (by decide +kernel)) (fun _ h9 => h9) rfl (by decide +kernel) (rfl) (rfl) (Nat.le_of_ble_eq_true rfl) dX9_reckonDoubles_170 (fun H locs F16 eF16 hP hS => ?_)
      have eF16 : F16 = va_up F o (.inr (8, [.int th, .ref (qm 0), .ref (qm 1), .ref (qm 2), .ref (qm 3), .ref (qm 4), .ref (qm 5), .ref (qm 6), .ref (qm 7), .int sp, .ref (qm 8), .ref (qm 9), .ref (qm 10), .ref (qm 11), .ref (qm 12), .ref (qm 13), .ref (qm 14), .int 5, .ref (qm 15), .long oc])) := eF16
      have hFo_16 : F16 o = .inr (8, [.int th, .ref (qm 0), .ref (qm 1), .ref (qm 2), .ref (qm 3), .ref (qm 4), .ref (qm 5), .ref (qm 6), .ref (qm 7), .int sp, .ref (qm 8), .ref (qm 9), .ref (qm 10), .ref (qm 11), .ref (qm 12), .ref (qm 13), .ref (qm 14), .int 5, .ref (qm 15), .long oc]) := by rw [eF16]; exact va_up_self _ _ _
      exact W.vret hx hb hr (fun t ht hW => ⟨⟨F16, rfl, (by rw [eF16]), (by show va_P _ _ _ t.heap; rw [ht]; exact hP)⟩, hS.F ht⟩) hS.2.2 dX9_reckonDoubles_173
    · refine lv_dload_n hx hb dX9_reckonDoubles_123 rfl (lv_at hl 4 rfl) ?_
      refine lv_dconst0 hx hb dX9_reckonDoubles_124 ?_
      refine lv_dcmp hx hb dX9_reckonDoubles_125 ?_
      refine lv_if_ne (tgt := 140) hx hb dX9_reckonDoubles_126 (by decide) (fun c17 => ?_) (fun c17 => ?_)
      · refine lv_iconst (v := 0) hx hb dX9_reckonDoubles_140 (by decide) ?_
        refine lv_goto (tgt := 161) hx hb dX9_reckonDoubles_141 (by decide) ?_
        refine lv_istore (lv' := [(8, .int 0), (7, .int r2), (6, .int r1), (0, .ref o), (1, .int 3), (2, .double x), (4, .double y)]) hx hb dX9_reckonDoubles_161 hl (by decide) rfl (fun ls hl => ?_)
        refine lv_iload hx hb dX9_reckonDoubles_163 (lv_at hl 0 rfl) ?_
        refine lv_if_eq (tgt := 174) hx hb dX9_reckonDoubles_165 (by decide) (fun c18 => ?_) (fun c18 => absurd (by decide) c18)
        exfalso
        have f1 := pz2 hr1 c7
        have f2 := pz1 hr2 c14
        have f3 := (not_congr (z_iff hx9)).mp c17
        have hv9 := (nan_div hx9 hy9).mp hv
        omega
      · refine lv_dload hx hb dX9_reckonDoubles_129 (lv_at hl 5 rfl) ?_
        refine lv_dconst0 hx hb dX9_reckonDoubles_131 ?_
        refine lv_dcmp hx hb dX9_reckonDoubles_132 ?_
        refine lv_if_ne (tgt := 140) hx hb dX9_reckonDoubles_133 (by decide) (fun c19 => ?_) (fun c19 => ?_)
        · refine lv_iconst (v := 0) hx hb dX9_reckonDoubles_140 (by decide) ?_
          refine lv_goto (tgt := 161) hx hb dX9_reckonDoubles_141 (by decide) ?_
          refine lv_istore (lv' := [(8, .int 0), (7, .int r2), (6, .int r1), (0, .ref o), (1, .int 3), (2, .double x), (4, .double y)]) hx hb dX9_reckonDoubles_161 hl (by decide) rfl (fun ls hl => ?_)
          refine lv_iload hx hb dX9_reckonDoubles_163 (lv_at hl 0 rfl) ?_
          refine lv_if_eq (tgt := 174) hx hb dX9_reckonDoubles_165 (by decide) (fun c20 => ?_) (fun c20 => absurd (by decide) c20)
          exfalso
          have f1 := pz2 hr1 c7
          have f2 := pz1 hr2 c14
          have f3 := (z_iff hx9).mp c17
          have f4 := (not_congr (z_iff hy9)).mp c19
          have hv9 := (nan_div hx9 hy9).mp hv
          omega
        · refine lv_iconst (v := 1) hx hb dX9_reckonDoubles_136 (by decide) ?_
          refine lv_goto (tgt := 161) hx hb dX9_reckonDoubles_137 (by decide) ?_
          refine lv_istore (lv' := [(8, .int 1), (7, .int r2), (6, .int r1), (0, .ref o), (1, .int 3), (2, .double x), (4, .double y)]) hx hb dX9_reckonDoubles_161 hl (by decide) rfl (fun ls hl => ?_)
          refine lv_iload hx hb dX9_reckonDoubles_163 (lv_at hl 0 rfl) ?_
          refine lv_if_eq (tgt := 174) hx hb dX9_reckonDoubles_165 (by decide) (fun c21 => absurd c21 (by decide)) (fun c21 => ?_)
          refine lv_aload_n hx hb dX9_reckonDoubles_168 rfl (lv_at hl 3 rfl) ?_
          refine lv_iconst (v := 5) hx hb dX9_reckonDoubles_169 (by decide) ?_
          refine pg_put (ci := 8) (v := .int 5) (ty := .int) (C := RX9) (T := TX9) (N := 20) hx hb hts hinX9 tyX9 tyX9_ok nmX9 hown hK hP hD hS hmo hFo rfl 17 (by decide) (hts (.fieldLink RX9 65 "RopeDrumsModel" "failed" "I") (by decide +kernel)) (fun _ h9 => h9) rfl (by decide +kernel) (rfl) (rfl) (Nat.le_of_ble_eq_true rfl) dX9_reckonDoubles_170 (fun H locs F22 eF22 hP hS => ?_)
          have eF22 : F22 = va_up F o (.inr (8, [.int th, .ref (qm 0), .ref (qm 1), .ref (qm 2), .ref (qm 3), .ref (qm 4), .ref (qm 5), .ref (qm 6), .ref (qm 7), .int sp, .ref (qm 8), .ref (qm 9), .ref (qm 10), .ref (qm 11), .ref (qm 12), .ref (qm 13), .ref (qm 14), .int 5, .ref (qm 15), .long oc])) := eF22
          have hFo_22 : F22 o = .inr (8, [.int th, .ref (qm 0), .ref (qm 1), .ref (qm 2), .ref (qm 3), .ref (qm 4), .ref (qm 5), .ref (qm 6), .ref (qm 7), .int sp, .ref (qm 8), .ref (qm 9), .ref (qm 10), .ref (qm 11), .ref (qm 12), .ref (qm 13), .ref (qm 14), .int 5, .ref (qm 15), .long oc]) := by rw [eF22]; exact va_up_self _ _ _
          exact W.vret hx hb hr (fun t ht hW => ⟨⟨F22, rfl, (by rw [eF22]), (by show va_P _ _ _ t.heap; rw [ht]; exact hP)⟩, hS.F ht⟩) hS.2.2 dX9_reckonDoubles_173

set_option maxHeartbeats 8000000 in
set_option maxRecDepth 100000 in
theorem c9_rD_4 (l : Launch) (G : va_G) (cy : Nat → ClassId) (L : List Nat) (F : Nat → va_E) (sz : Nat) (o : Nat) (qm : Nat → Nat) (th sp fa : Int32) (oc : Int64) (hmo : o ∈ L) (hFo : F o = .inr (8, [.int th, .ref (qm 0), .ref (qm 1), .ref (qm 2), .ref (qm 3), .ref (qm 4), .ref (qm 5), .ref (qm 6), .ref (qm 7), .int sp, .ref (qm 8), .ref (qm 9), .ref (qm 10), .ref (qm 11), .ref (qm 12), .ref (qm 13), .ref (qm 14), .int fa, .ref (qm 15), .long oc])) (x y : UInt64) (hx9 : FP.Core.val64 x ≠ .nan) (hy9 : FP.Core.val64 y ≠ .nan) (hv : FP.Core.dIsNaN (FP.drem x y) = false)  : Met l yX9_reckonDoubles wsX9_reckonDoubles ({ frames := 2, cells := 0, slots := 0, locals := 45 }) (va_Pc [.ref o, .int 4, .double x, .double y] (fun U => bQ G cy L F sz U U.heap)) (va_Qv (fun F' : Nat → va_E => F' = va_up F o (.inr (8, [.int th, .ref (qm 0), .ref (qm 1), .ref (qm 2), .ref (qm 3), .ref (qm 4), .ref (qm 5), .ref (qm 6), .ref (qm 7), .int sp, .ref (qm 8), .ref (qm 9), .ref (qm 10), .ref (qm 11), .ref (qm 12), .ref (qm 13), .ref (qm 14), .int fa, .ref (qm 15), .long ((FP.drem x y).toInt64)]))) (fun F' t => va_P G vwCl (va_pl L F') t.heap) (va_A (va_pl L F) sz)) 0 0 (va_A (va_pl L F) sz) := by
  refine Met.ofW (cc := cX9_reckonDoubles) (maxL := 9) (ret := none) (by decide) rfl ?_
  intro p e s m args below meth c s₁ B hml hv
  obtain ⟨rfl, hsz, hP, hK, hD0⟩ := hv
  have hx := B.exec
  have hb := B.bytes
  have hr := B.returns
  have hts := atoms_spec (ws := wsX9_reckonDoubles) B.pre
  have hown : s.vm.findClass RX9 = some m.cls := findClass_of_methodNamed B.named
  have hlocks := B.notSynchronized
  have hinX9 : ∀ w ∈ wsX90, w ∈ wsX9_reckonDoubles := by decide +kernel
  subst hsz
  have hD := hD0.self F s.heap.size
  generalize hAe : va_A (va_pl L F) s.heap.size = A at hD ⊢
  have hA : ∀ q : Nat, s.heap.size ≤ q → A q := fun q h => by rw [← hAe]; exact Or.inr h
  have hS : va_S A s.heap s.heap [] := va_S.rf
  have hl := lv_entry ([.ref o, .int 4, .double x, .double y]) (n := 9) (Nat.le_of_ble_eq_true rfl)
  rw [lg_entry_eq]
  generalize (lg_sl ([.ref o, .int 4, .double x, .double y]) ++ List.replicate (9 - (lg_sl ([.ref o, .int 4, .double x, .double y])).length) Slot.unset).toArray = ls at hl ⊢
  have hl : lv_has ls 9 [(0, .ref o), (1, .int 4), (2, .double x), (4, .double y)] := hl
  refine lv_dload_n hx hb dX9_reckonDoubles_0 rfl (lv_at hl 2 rfl) ?_
  refine vp_callSi (W.runS (As := [.double x]) (rest := []) ⟨hx, hb, hml, hown, hts⟩ (c9_isEndless l x hx9) (va_cwS 1 hts gX9_reckonDoubles_X9_isEndless rfl rfl rfl (by decide +kernel) ⟨Nat.le_of_ble_eq_true rfl, Nat.le_of_ble_eq_true rfl⟩) (preS_of okT (trivial)) rfl rfl hl.1 rfl (lv_room (Nat.le_of_ble_eq_true rfl)) dX9_reckonDoubles_1 ⟨Nat.le_of_ble_eq_true rfl, Nat.le_of_ble_eq_true rfl⟩) (fun r1 hr1 => ?_)
  refine lv_istore (lv' := [(6, .int r1), (0, .ref o), (1, .int 4), (2, .double x), (4, .double y)]) hx hb dX9_reckonDoubles_4 hl (by decide) rfl (fun ls hl => ?_)
  refine lv_dload hx hb dX9_reckonDoubles_6 (lv_at hl 4 rfl) ?_
  refine vp_callSi (W.runS (As := [.double y]) (rest := []) ⟨hx, hb, hml, hown, hts⟩ (c9_isEndless l y hy9) (va_cwS 1 hts gX9_reckonDoubles_X9_isEndless rfl rfl rfl (by decide +kernel) ⟨Nat.le_of_ble_eq_true rfl, Nat.le_of_ble_eq_true rfl⟩) (preS_of okT (trivial)) rfl rfl hl.1 rfl (lv_room (Nat.le_of_ble_eq_true rfl)) dX9_reckonDoubles_8 ⟨Nat.le_of_ble_eq_true rfl, Nat.le_of_ble_eq_true rfl⟩) (fun r2 hr2 => ?_)
  refine lv_istore (lv' := [(7, .int r2), (6, .int r1), (0, .ref o), (1, .int 4), (2, .double x), (4, .double y)]) hx hb dX9_reckonDoubles_11 hl (by decide) rfl (fun ls hl => ?_)
  refine lv_iload_n hx hb dX9_reckonDoubles_13 rfl (lv_at hl 3 rfl) ?_
  refine lv_if_ne (tgt := 42) hx hb dX9_reckonDoubles_14 (by decide) (fun c3 => ?_) (fun c3 => absurd c3 (by decide))
  refine lv_iload_n hx hb dX9_reckonDoubles_42 rfl (lv_at hl 3 rfl) ?_
  refine lv_iconst (v := 1) hx hb dX9_reckonDoubles_43 (by decide) ?_
  refine lv_icmp_ne (tgt := 72) hx hb dX9_reckonDoubles_44 (by decide) (fun c4 => ?_) (fun c4 => absurd c4 (by decide))
  refine lv_iload_n hx hb dX9_reckonDoubles_72 rfl (lv_at hl 3 rfl) ?_
  refine lv_iconst (v := 2) hx hb dX9_reckonDoubles_73 (by decide) ?_
  refine lv_icmp_ne (tgt := 108) hx hb dX9_reckonDoubles_74 (by decide) (fun c5 => ?_) (fun c5 => absurd c5 (by decide))
  refine lv_iload_n hx hb dX9_reckonDoubles_108 rfl (lv_at hl 3 rfl) ?_
  refine lv_iconst (v := 3) hx hb dX9_reckonDoubles_109 (by decide) ?_
  refine lv_icmp_ne (tgt := 144) hx hb dX9_reckonDoubles_110 (by decide) (fun c6 => ?_) (fun c6 => absurd c6 (by decide))
  refine lv_iload hx hb dX9_reckonDoubles_144 (lv_at hl 1 rfl) ?_
  refine lv_if_ne (tgt := 156) hx hb dX9_reckonDoubles_146 (by decide) (fun c7 => ?_) (fun c7 => ?_)
  · refine lv_iconst (v := 1) hx hb dX9_reckonDoubles_156 (by decide) ?_
    refine lv_goto (tgt := 161) hx hb dX9_reckonDoubles_157 (by decide) ?_
    refine lv_istore (lv' := [(8, .int 1), (7, .int r2), (6, .int r1), (0, .ref o), (1, .int 4), (2, .double x), (4, .double y)]) hx hb dX9_reckonDoubles_161 hl (by decide) rfl (fun ls hl => ?_)
    refine lv_iload hx hb dX9_reckonDoubles_163 (lv_at hl 0 rfl) ?_
    refine lv_if_eq (tgt := 174) hx hb dX9_reckonDoubles_165 (by decide) (fun c8 => absurd c8 (by decide)) (fun c8 => ?_)
    exfalso
    have f1 := pz2 hr1 c7
    have hv9 := (not_congr (nan_rem hx9 hy9)).mp (by rw [hv]; decide)
    exact hv9 (by omega)
  · refine lv_dload hx hb dX9_reckonDoubles_149 (lv_at hl 5 rfl) ?_
    refine lv_dconst0 hx hb dX9_reckonDoubles_151 ?_
    refine lv_dcmp hx hb dX9_reckonDoubles_152 ?_
    refine lv_if_ne (tgt := 160) hx hb dX9_reckonDoubles_153 (by decide) (fun c9 => ?_) (fun c9 => ?_)
    · refine lv_iconst (v := 0) hx hb dX9_reckonDoubles_160 (by decide) ?_
      refine lv_istore (lv' := [(8, .int 0), (7, .int r2), (6, .int r1), (0, .ref o), (1, .int 4), (2, .double x), (4, .double y)]) hx hb dX9_reckonDoubles_161 hl (by decide) rfl (fun ls hl => ?_)
      refine lv_iload hx hb dX9_reckonDoubles_163 (lv_at hl 0 rfl) ?_
      refine lv_if_eq (tgt := 174) hx hb dX9_reckonDoubles_165 (by decide) (fun c10 => ?_) (fun c10 => absurd (by decide) c10)
      refine lv_aload_n hx hb dX9_reckonDoubles_174 rfl (lv_at hl 3 rfl) ?_
      refine lv_iload_n hx hb dX9_reckonDoubles_175 rfl (lv_at hl 4 rfl) ?_
      refine lv_if_ne (tgt := 186) hx hb dX9_reckonDoubles_176 (by decide) (fun c11 => ?_) (fun c11 => absurd c11 (by decide))
      refine lv_iload_n hx hb dX9_reckonDoubles_186 rfl (lv_at hl 4 rfl) ?_
      refine lv_iconst (v := 1) hx hb dX9_reckonDoubles_187 (by decide) ?_
      refine lv_icmp_ne (tgt := 198) hx hb dX9_reckonDoubles_188 (by decide) (fun c12 => ?_) (fun c12 => absurd c12 (by decide))
      refine lv_iload_n hx hb dX9_reckonDoubles_198 rfl (lv_at hl 4 rfl) ?_
      refine lv_iconst (v := 2) hx hb dX9_reckonDoubles_199 (by decide) ?_
      refine lv_icmp_ne (tgt := 210) hx hb dX9_reckonDoubles_200 (by decide) (fun c13 => ?_) (fun c13 => absurd c13 (by decide))
      refine lv_iload_n hx hb dX9_reckonDoubles_210 rfl (lv_at hl 4 rfl) ?_
      refine lv_iconst (v := 3) hx hb dX9_reckonDoubles_211 (by decide) ?_
      refine lv_icmp_ne (tgt := 222) hx hb dX9_reckonDoubles_212 (by decide) (fun c14 => ?_) (fun c14 => absurd c14 (by decide))
      refine lv_iload hx hb dX9_reckonDoubles_222 (lv_at hl 1 rfl) ?_
      refine lv_if_eq (tgt := 231) hx hb dX9_reckonDoubles_224 (by decide) (fun c15 => ?_) (fun c15 => ?_)
      · refine lv_dload_n hx hb dX9_reckonDoubles_231 rfl (lv_at hl 5 rfl) ?_
        refine lv_dload hx hb dX9_reckonDoubles_232 (lv_at hl 6 rfl) ?_
        refine lv_drem hx hb dX9_reckonDoubles_234 (n64.mpr ((FP.Core.notNaN_iff _).mp hv)) ?_
        refine lv_topd (fun v16 ev16 => ?_)
        refine vp_callSl (W.runS (As := [.double v16]) (rest := [.ref o]) ⟨hx, hb, hml, hown, hts⟩ (c9_d2lb l v16 (by rw [ev16]; exact (FP.Core.notNaN_iff _).mp hv)) (va_cwS 1 hts gX9_reckonDoubles_Jxe99ae_doubleToLongBits_ccdee rfl rfl rfl (by decide +kernel) ⟨Nat.le_of_ble_eq_true rfl, Nat.le_of_ble_eq_true rfl⟩) (preS_of okT (trivial)) rfl rfl hl.1 rfl (lv_room (Nat.le_of_ble_eq_true rfl)) dX9_reckonDoubles_235 ⟨Nat.le_of_ble_eq_true rfl, Nat.le_of_ble_eq_true rfl⟩) (fun r17 hr17 => ?_)
        refine pg_put (ci := 8) (v := .long r17) (ty := .long) (C := RX9) (T := TX9) (N := 20) hx hb hts hinX9 tyX9 tyX9_ok nmX9 hown hK hP hD hS hmo hFo rfl 19 (by decide) (hts (.fieldLink RX9 131 "RopeDrumsModel" "outcome" "J") (by decide +kernel)) (fun _ h9 => h9) rfl (by decide +kernel) (rfl) (rfl) (Nat.le_of_ble_eq_true rfl) dX9_reckonDoubles_238 (fun H locs F18 eF18 hP hS => ?_)
        have eF18 : F18 = va_up F o (.inr (8, [.int th, .ref (qm 0), .ref (qm 1), .ref (qm 2), .ref (qm 3), .ref (qm 4), .ref (qm 5), .ref (qm 6), .ref (qm 7), .int sp, .ref (qm 8), .ref (qm 9), .ref (qm 10), .ref (qm 11), .ref (qm 12), .ref (qm 13), .ref (qm 14), .int fa, .ref (qm 15), .long r17])) := eF18
        have hFo_18 : F18 o = .inr (8, [.int th, .ref (qm 0), .ref (qm 1), .ref (qm 2), .ref (qm 3), .ref (qm 4), .ref (qm 5), .ref (qm 6), .ref (qm 7), .int sp, .ref (qm 8), .ref (qm 9), .ref (qm 10), .ref (qm 11), .ref (qm 12), .ref (qm 13), .ref (qm 14), .int fa, .ref (qm 15), .long r17]) := by rw [eF18]; exact va_up_self _ _ _
        exact W.vret hx hb hr (fun t ht hW => ⟨⟨F18, rfl, (by rw [eF18]; rw [hr17, ev16]), (by show va_P _ _ _ t.heap; rw [ht]; exact hP)⟩, hS.F ht⟩) hS.2.2 dX9_reckonDoubles_241
      · refine lv_dload_n hx hb dX9_reckonDoubles_227 rfl (lv_at hl 5 rfl) ?_
        refine lv_goto (tgt := 235) hx hb dX9_reckonDoubles_228 (by decide) ?_
        refine vp_callSl (W.runS (As := [.double x]) (rest := [.ref o]) ⟨hx, hb, hml, hown, hts⟩ (c9_d2lb l x hx9) (va_cwS 1 hts gX9_reckonDoubles_Jxe99ae_doubleToLongBits_ccdee rfl rfl rfl (by decide +kernel) ⟨Nat.le_of_ble_eq_true rfl, Nat.le_of_ble_eq_true rfl⟩) (preS_of okT (trivial)) rfl rfl hl.1 rfl (lv_room (Nat.le_of_ble_eq_true rfl)) dX9_reckonDoubles_235 ⟨Nat.le_of_ble_eq_true rfl, Nat.le_of_ble_eq_true rfl⟩) (fun r19 hr19 => ?_)
        refine pg_put (ci := 8) (v := .long r19) (ty := .long) (C := RX9) (T := TX9) (N := 20) hx hb hts hinX9 tyX9 tyX9_ok nmX9 hown hK hP hD hS hmo hFo rfl 19 (by decide) (hts (.fieldLink RX9 131 "RopeDrumsModel" "outcome" "J") (by decide +kernel)) (fun _ h9 => h9) rfl (by decide +kernel) (rfl) (rfl) (Nat.le_of_ble_eq_true rfl) dX9_reckonDoubles_238 (fun H locs F20 eF20 hP hS => ?_)
        have eF20 : F20 = va_up F o (.inr (8, [.int th, .ref (qm 0), .ref (qm 1), .ref (qm 2), .ref (qm 3), .ref (qm 4), .ref (qm 5), .ref (qm 6), .ref (qm 7), .int sp, .ref (qm 8), .ref (qm 9), .ref (qm 10), .ref (qm 11), .ref (qm 12), .ref (qm 13), .ref (qm 14), .int fa, .ref (qm 15), .long r19])) := eF20
        have hFo_20 : F20 o = .inr (8, [.int th, .ref (qm 0), .ref (qm 1), .ref (qm 2), .ref (qm 3), .ref (qm 4), .ref (qm 5), .ref (qm 6), .ref (qm 7), .int sp, .ref (qm 8), .ref (qm 9), .ref (qm 10), .ref (qm 11), .ref (qm 12), .ref (qm 13), .ref (qm 14), .int fa, .ref (qm 15), .long r19]) := by rw [eF20]; exact va_up_self _ _ _
        exact W.vret hx hb hr (fun t ht hW => ⟨⟨F20, rfl, (by have hfx := drem_inf64 hx9 hy9 hv (pz2 hr2 c15); rw [eF20]; rw [hfx]; rw [hr19]), (by show va_P _ _ _ t.heap; rw [ht]; exact hP)⟩, hS.F ht⟩) hS.2.2 dX9_reckonDoubles_241
    · refine lv_iconst (v := 1) hx hb dX9_reckonDoubles_156 (by decide) ?_
      refine lv_goto (tgt := 161) hx hb dX9_reckonDoubles_157 (by decide) ?_
      refine lv_istore (lv' := [(8, .int 1), (7, .int r2), (6, .int r1), (0, .ref o), (1, .int 4), (2, .double x), (4, .double y)]) hx hb dX9_reckonDoubles_161 hl (by decide) rfl (fun ls hl => ?_)
      refine lv_iload hx hb dX9_reckonDoubles_163 (lv_at hl 0 rfl) ?_
      refine lv_if_eq (tgt := 174) hx hb dX9_reckonDoubles_165 (by decide) (fun c21 => absurd c21 (by decide)) (fun c21 => ?_)
      exfalso
      have f1 := pz1 hr1 c7
      have f2 := (z_iff hy9).mp c9
      have hv9 := (not_congr (nan_rem hx9 hy9)).mp (by rw [hv]; decide)
      exact hv9 (by omega)

set_option maxHeartbeats 8000000 in
set_option maxRecDepth 100000 in
theorem c9_rD_4_no (l : Launch) (G : va_G) (cy : Nat → ClassId) (L : List Nat) (F : Nat → va_E) (sz : Nat) (o : Nat) (qm : Nat → Nat) (th sp fa : Int32) (oc : Int64) (hmo : o ∈ L) (hFo : F o = .inr (8, [.int th, .ref (qm 0), .ref (qm 1), .ref (qm 2), .ref (qm 3), .ref (qm 4), .ref (qm 5), .ref (qm 6), .ref (qm 7), .int sp, .ref (qm 8), .ref (qm 9), .ref (qm 10), .ref (qm 11), .ref (qm 12), .ref (qm 13), .ref (qm 14), .int fa, .ref (qm 15), .long oc])) (x y : UInt64) (hx9 : FP.Core.val64 x ≠ .nan) (hy9 : FP.Core.val64 y ≠ .nan) (hv : FP.Core.dIsNaN (FP.drem x y) = true)  : Met l yX9_reckonDoubles wsX9_reckonDoubles ({ frames := 2, cells := 0, slots := 0, locals := 45 }) (va_Pc [.ref o, .int 4, .double x, .double y] (fun U => bQ G cy L F sz U U.heap)) (va_Qv (fun F' : Nat → va_E => F' = va_up F o (.inr (8, [.int th, .ref (qm 0), .ref (qm 1), .ref (qm 2), .ref (qm 3), .ref (qm 4), .ref (qm 5), .ref (qm 6), .ref (qm 7), .int sp, .ref (qm 8), .ref (qm 9), .ref (qm 10), .ref (qm 11), .ref (qm 12), .ref (qm 13), .ref (qm 14), .int 5, .ref (qm 15), .long oc]))) (fun F' t => va_P G vwCl (va_pl L F') t.heap) (va_A (va_pl L F) sz)) 0 0 (va_A (va_pl L F) sz) := by
  refine Met.ofW (cc := cX9_reckonDoubles) (maxL := 9) (ret := none) (by decide) rfl ?_
  intro p e s m args below meth c s₁ B hml hv
  obtain ⟨rfl, hsz, hP, hK, hD0⟩ := hv
  have hx := B.exec
  have hb := B.bytes
  have hr := B.returns
  have hts := atoms_spec (ws := wsX9_reckonDoubles) B.pre
  have hown : s.vm.findClass RX9 = some m.cls := findClass_of_methodNamed B.named
  have hlocks := B.notSynchronized
  have hinX9 : ∀ w ∈ wsX90, w ∈ wsX9_reckonDoubles := by decide +kernel
  subst hsz
  have hD := hD0.self F s.heap.size
  generalize hAe : va_A (va_pl L F) s.heap.size = A at hD ⊢
  have hA : ∀ q : Nat, s.heap.size ≤ q → A q := fun q h => by rw [← hAe]; exact Or.inr h
  have hS : va_S A s.heap s.heap [] := va_S.rf
  have hl := lv_entry ([.ref o, .int 4, .double x, .double y]) (n := 9) (Nat.le_of_ble_eq_true rfl)
  rw [lg_entry_eq]
  generalize (lg_sl ([.ref o, .int 4, .double x, .double y]) ++ List.replicate (9 - (lg_sl ([.ref o, .int 4, .double x, .double y])).length) Slot.unset).toArray = ls at hl ⊢
  have hl : lv_has ls 9 [(0, .ref o), (1, .int 4), (2, .double x), (4, .double y)] := hl
  refine lv_dload_n hx hb dX9_reckonDoubles_0 rfl (lv_at hl 2 rfl) ?_
  refine vp_callSi (W.runS (As := [.double x]) (rest := []) ⟨hx, hb, hml, hown, hts⟩ (c9_isEndless l x hx9) (va_cwS 1 hts gX9_reckonDoubles_X9_isEndless rfl rfl rfl (by decide +kernel) ⟨Nat.le_of_ble_eq_true rfl, Nat.le_of_ble_eq_true rfl⟩) (preS_of okT (trivial)) rfl rfl hl.1 rfl (lv_room (Nat.le_of_ble_eq_true rfl)) dX9_reckonDoubles_1 ⟨Nat.le_of_ble_eq_true rfl, Nat.le_of_ble_eq_true rfl⟩) (fun r1 hr1 => ?_)
  refine lv_istore (lv' := [(6, .int r1), (0, .ref o), (1, .int 4), (2, .double x), (4, .double y)]) hx hb dX9_reckonDoubles_4 hl (by decide) rfl (fun ls hl => ?_)
  refine lv_dload hx hb dX9_reckonDoubles_6 (lv_at hl 4 rfl) ?_
  refine vp_callSi (W.runS (As := [.double y]) (rest := []) ⟨hx, hb, hml, hown, hts⟩ (c9_isEndless l y hy9) (va_cwS 1 hts gX9_reckonDoubles_X9_isEndless rfl rfl rfl (by decide +kernel) ⟨Nat.le_of_ble_eq_true rfl, Nat.le_of_ble_eq_true rfl⟩) (preS_of okT (trivial)) rfl rfl hl.1 rfl (lv_room (Nat.le_of_ble_eq_true rfl)) dX9_reckonDoubles_8 ⟨Nat.le_of_ble_eq_true rfl, Nat.le_of_ble_eq_true rfl⟩) (fun r2 hr2 => ?_)
  refine lv_istore (lv' := [(7, .int r2), (6, .int r1), (0, .ref o), (1, .int 4), (2, .double x), (4, .double y)]) hx hb dX9_reckonDoubles_11 hl (by decide) rfl (fun ls hl => ?_)
  refine lv_iload_n hx hb dX9_reckonDoubles_13 rfl (lv_at hl 3 rfl) ?_
  refine lv_if_ne (tgt := 42) hx hb dX9_reckonDoubles_14 (by decide) (fun c3 => ?_) (fun c3 => absurd c3 (by decide))
  refine lv_iload_n hx hb dX9_reckonDoubles_42 rfl (lv_at hl 3 rfl) ?_
  refine lv_iconst (v := 1) hx hb dX9_reckonDoubles_43 (by decide) ?_
  refine lv_icmp_ne (tgt := 72) hx hb dX9_reckonDoubles_44 (by decide) (fun c4 => ?_) (fun c4 => absurd c4 (by decide))
  refine lv_iload_n hx hb dX9_reckonDoubles_72 rfl (lv_at hl 3 rfl) ?_
  refine lv_iconst (v := 2) hx hb dX9_reckonDoubles_73 (by decide) ?_
  refine lv_icmp_ne (tgt := 108) hx hb dX9_reckonDoubles_74 (by decide) (fun c5 => ?_) (fun c5 => absurd c5 (by decide))
  refine lv_iload_n hx hb dX9_reckonDoubles_108 rfl (lv_at hl 3 rfl) ?_
  refine lv_iconst (v := 3) hx hb dX9_reckonDoubles_109 (by decide) ?_
  refine lv_icmp_ne (tgt := 144) hx hb dX9_reckonDoubles_110 (by decide) (fun c6 => ?_) (fun c6 => absurd c6 (by decide))
  refine lv_iload hx hb dX9_reckonDoubles_144 (lv_at hl 1 rfl) ?_
  refine lv_if_ne (tgt := 156) hx hb dX9_reckonDoubles_146 (by decide) (fun c7 => ?_) (fun c7 => ?_)
  · refine lv_iconst (v := 1) hx hb dX9_reckonDoubles_156 (by decide) ?_
    refine lv_goto (tgt := 161) hx hb dX9_reckonDoubles_157 (by decide) ?_
    refine lv_istore (lv' := [(8, .int 1), (7, .int r2), (6, .int r1), (0, .ref o), (1, .int 4), (2, .double x), (4, .double y)]) hx hb dX9_reckonDoubles_161 hl (by decide) rfl (fun ls hl => ?_)
    refine lv_iload hx hb dX9_reckonDoubles_163 (lv_at hl 0 rfl) ?_
    refine lv_if_eq (tgt := 174) hx hb dX9_reckonDoubles_165 (by decide) (fun c8 => absurd c8 (by decide)) (fun c8 => ?_)
    refine lv_aload_n hx hb dX9_reckonDoubles_168 rfl (lv_at hl 3 rfl) ?_
    refine lv_iconst (v := 5) hx hb dX9_reckonDoubles_169 (by decide) ?_
    refine pg_put (ci := 8) (v := .int 5) (ty := .int) (C := RX9) (T := TX9) (N := 20) hx hb hts hinX9 tyX9 tyX9_ok nmX9 hown hK hP hD hS hmo hFo rfl 17 (by decide) (hts (.fieldLink RX9 65 "RopeDrumsModel" "failed" "I") (by decide +kernel)) (fun _ h9 => h9) rfl (by decide +kernel) (rfl) (rfl) (Nat.le_of_ble_eq_true rfl) dX9_reckonDoubles_170 (fun H locs F9 eF9 hP hS => ?_)
    have eF9 : F9 = va_up F o (.inr (8, [.int th, .ref (qm 0), .ref (qm 1), .ref (qm 2), .ref (qm 3), .ref (qm 4), .ref (qm 5), .ref (qm 6), .ref (qm 7), .int sp, .ref (qm 8), .ref (qm 9), .ref (qm 10), .ref (qm 11), .ref (qm 12), .ref (qm 13), .ref (qm 14), .int 5, .ref (qm 15), .long oc])) := eF9
    have hFo_9 : F9 o = .inr (8, [.int th, .ref (qm 0), .ref (qm 1), .ref (qm 2), .ref (qm 3), .ref (qm 4), .ref (qm 5), .ref (qm 6), .ref (qm 7), .int sp, .ref (qm 8), .ref (qm 9), .ref (qm 10), .ref (qm 11), .ref (qm 12), .ref (qm 13), .ref (qm 14), .int 5, .ref (qm 15), .long oc]) := by rw [eF9]; exact va_up_self _ _ _
    exact W.vret hx hb hr (fun t ht hW => ⟨⟨F9, rfl, (by rw [eF9]), (by show va_P _ _ _ t.heap; rw [ht]; exact hP)⟩, hS.F ht⟩) hS.2.2 dX9_reckonDoubles_173
  · refine lv_dload hx hb dX9_reckonDoubles_149 (lv_at hl 5 rfl) ?_
    refine lv_dconst0 hx hb dX9_reckonDoubles_151 ?_
    refine lv_dcmp hx hb dX9_reckonDoubles_152 ?_
    refine lv_if_ne (tgt := 160) hx hb dX9_reckonDoubles_153 (by decide) (fun c10 => ?_) (fun c10 => ?_)
    · refine lv_iconst (v := 0) hx hb dX9_reckonDoubles_160 (by decide) ?_
      refine lv_istore (lv' := [(8, .int 0), (7, .int r2), (6, .int r1), (0, .ref o), (1, .int 4), (2, .double x), (4, .double y)]) hx hb dX9_reckonDoubles_161 hl (by decide) rfl (fun ls hl => ?_)
      refine lv_iload hx hb dX9_reckonDoubles_163 (lv_at hl 0 rfl) ?_
      refine lv_if_eq (tgt := 174) hx hb dX9_reckonDoubles_165 (by decide) (fun c11 => ?_) (fun c11 => absurd (by decide) c11)
      exfalso
      have f1 := pz1 hr1 c7
      have f2 := (not_congr (z_iff hy9)).mp c10
      have hv9 := (nan_rem hx9 hy9).mp hv
      omega
    · refine lv_iconst (v := 1) hx hb dX9_reckonDoubles_156 (by decide) ?_
      refine lv_goto (tgt := 161) hx hb dX9_reckonDoubles_157 (by decide) ?_
      refine lv_istore (lv' := [(8, .int 1), (7, .int r2), (6, .int r1), (0, .ref o), (1, .int 4), (2, .double x), (4, .double y)]) hx hb dX9_reckonDoubles_161 hl (by decide) rfl (fun ls hl => ?_)
      refine lv_iload hx hb dX9_reckonDoubles_163 (lv_at hl 0 rfl) ?_
      refine lv_if_eq (tgt := 174) hx hb dX9_reckonDoubles_165 (by decide) (fun c12 => absurd c12 (by decide)) (fun c12 => ?_)
      refine lv_aload_n hx hb dX9_reckonDoubles_168 rfl (lv_at hl 3 rfl) ?_
      refine lv_iconst (v := 5) hx hb dX9_reckonDoubles_169 (by decide) ?_
      refine pg_put (ci := 8) (v := .int 5) (ty := .int) (C := RX9) (T := TX9) (N := 20) hx hb hts hinX9 tyX9 tyX9_ok nmX9 hown hK hP hD hS hmo hFo rfl 17 (by decide) (hts (.fieldLink RX9 65 "RopeDrumsModel" "failed" "I") (by decide +kernel)) (fun _ h9 => h9) rfl (by decide +kernel) (rfl) (rfl) (Nat.le_of_ble_eq_true rfl) dX9_reckonDoubles_170 (fun H locs F13 eF13 hP hS => ?_)
      have eF13 : F13 = va_up F o (.inr (8, [.int th, .ref (qm 0), .ref (qm 1), .ref (qm 2), .ref (qm 3), .ref (qm 4), .ref (qm 5), .ref (qm 6), .ref (qm 7), .int sp, .ref (qm 8), .ref (qm 9), .ref (qm 10), .ref (qm 11), .ref (qm 12), .ref (qm 13), .ref (qm 14), .int 5, .ref (qm 15), .long oc])) := eF13
      have hFo_13 : F13 o = .inr (8, [.int th, .ref (qm 0), .ref (qm 1), .ref (qm 2), .ref (qm 3), .ref (qm 4), .ref (qm 5), .ref (qm 6), .ref (qm 7), .int sp, .ref (qm 8), .ref (qm 9), .ref (qm 10), .ref (qm 11), .ref (qm 12), .ref (qm 13), .ref (qm 14), .int 5, .ref (qm 15), .long oc]) := by rw [eF13]; exact va_up_self _ _ _
      exact W.vret hx hb hr (fun t ht hW => ⟨⟨F13, rfl, (by rw [eF13]), (by show va_P _ _ _ t.heap; rw [ht]; exact hP)⟩, hS.F ht⟩) hS.2.2 dX9_reckonDoubles_173
