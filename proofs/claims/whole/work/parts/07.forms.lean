set_option maxHeartbeats 8000000 in
set_option maxRecDepth 100000 in
theorem c_powerOfTwo (l : Launch) (n : Int32) (z : Int) (hz : n.toInt = z) (h1 : -1074 ≤ z) (h2 : z ≤ 1023)  : Met l yX8_powerOfTwo wsX8_powerOfTwo ({ frames := 1, cells := 0, slots := 0, locals := 21 }) (va_Pc [.int n] (fun U => bT U U.heap)) (vp_Sd (fun r : UInt64 => Pz r (2 ^ (z + 1074).toNat))) 0 0 (fun _ => False) := by
  refine Met.ofW (cc := cX8_powerOfTwo) (maxL := 6) (ret := (some .double)) (by decide) rfl ?_
  intro p e s m args below meth c s₁ B hml hv
  obtain ⟨rfl, -⟩ := hv
  have hx := B.exec
  have hb := B.bytes
  have hr := B.returns
  have hts := atoms_spec (ws := wsX8_powerOfTwo) B.pre
  have hown : s.vm.findClass RX8 = some m.cls := findClass_of_methodNamed B.named
  have hlocks := B.notSynchronized
  have hS : va_S (fun _ => False) s.heap s.heap [] := va_S.rf
  have hk : pwK (decide (z < 0)) z.natAbs := ⟨by omega, fun h => by have := of_decide_eq_false h; omega⟩
  have hl := lv_entry ([.int n]) (n := 6) (Nat.le_of_ble_eq_true rfl)
  rw [lg_entry_eq]
  generalize (lg_sl ([.int n]) ++ List.replicate (6 - (lg_sl ([.int n])).length) Slot.unset).toArray = ls at hl ⊢
  have hl : lv_has ls 6 [(0, .int n)] := hl
  refine lv_dconst1 hx hb dX8_powerOfTwo_0 ?_
  refine lv_dstore_n (lv' := [(1, .double FP.dconst1), (0, .int n)]) hx hb dX8_powerOfTwo_1 rfl hl (by decide) rfl (fun ls hl => ?_)
  refine lv_iload_n hx hb dX8_powerOfTwo_2 rfl (lv_at hl 1 rfl) ?_
  refine lv_if_ge (tgt := 12) hx hb dX8_powerOfTwo_3 (by decide) (fun c1 => ?_) (fun c1 => ?_)
  · refine lv_ldc2d hx hb hown (hts (.constantDouble RX8 286 (4611686018427387904)) (by decide +kernel)) dX8_powerOfTwo_12 ?_
    refine lv_dstore_n (lv' := [(3, .double 4611686018427387904), (1, .double FP.dconst1), (0, .int n)]) hx hb dX8_powerOfTwo_15 rfl hl (by decide) rfl (fun ls hl => ?_)
    refine lv_iload_n hx hb dX8_powerOfTwo_16 rfl (lv_at hl 2 rfl) ?_
    refine va_mabs hx hb (by rw [hml]; exact hl.1.symm) hown (hts (.methodLink RX8 288 Lib.Math.abs.name) (by decide +kernel)) (hts (.static Lib.Math.abs.name) (by decide +kernel)) (hts (.initialized "java/lang/Math") (by decide +kernel)) (hts (.code Lib.Math.abs.name Lib.Math.abs.code 1 (some .int)) (by decide +kernel)) (Nat.le_of_ble_eq_true rfl) (Nat.le_of_ble_eq_true rfl) (Nat.zero_le _) (Nat.zero_le _) dX8_powerOfTwo_17 ?_
    refine lv_topi (fun v2 ev2 => ?_)
    refine lv_istore (lv' := [(5, .int v2), (3, .double 4611686018427387904), (1, .double FP.dconst1), (0, .int n)]) hx hb dX8_powerOfTwo_20 hl (by decide) rfl (fun ls hl => ?_)
    refine lp_r (pc := 22) (nL := 6) (α := Nat × UInt64 × UInt64 × Int32) (iv_pow (decide (z < 0)) z.natAbs) (fun xx => [(0, .int n), (1, .double xx.2.1), (3, .double xx.2.2.1), (5, .int xx.2.2.2)]) (fun xx => z.natAbs / 2 ^ xx.1) (fun xx ls hI hl K => ?_) (0, FP.dconst1, 4611686018427387904, v2) ls (by rw [ev2, pw_abs hz h1 h2]; exact pw_init (n := n) (by rw [show decide (z < 0) = false from decide_eq_false (by have h9 := c1; rw [fa_le, hz] at h9; have h8 : (0 : Int32).toInt = 0 := (by decide); omega)]; exact pw_two)) (lv_sub hl [3, 2, 1, 0] rfl)
    obtain ⟨i, P, S, f⟩ := xx
    have hl : lv_has ls 6 [(0, .int n), (1, .double P), (3, .double S), (5, .int f)] := hl
    have hI1 : f = nI (z.natAbs / 2 ^ i) := hI.1
    have hmu : ∀ (y : Nat × UInt64 × UInt64 × Int32), z.natAbs / 2 ^ y.1 = z.natAbs / 2 ^ y.1 := fun _ => rfl
    refine lv_iload hx hb dX8_powerOfTwo_22 (lv_at hl 3 rfl) ?_
    refine lv_if_le (tgt := 51) hx hb dX8_powerOfTwo_24 (by decide) (fun c3 => ?_) (fun c3 => ?_)
    · refine lv_dload_n hx hb dX8_powerOfTwo_51 rfl (lv_at hl 1 rfl) ?_
      exact W.dret (v := P) hx hb hr (fun t ht hW => ⟨P, rfl, (pw_end h1 hI (pw_zero hk.1 (by rw [← hI1]; exact c3))), ht⟩) (fun q hq => absurd hq List.not_mem_nil) dX8_powerOfTwo_52
    · have h0 : z.natAbs / 2 ^ i ≠ 0 := pw_pos hk.1 (by rw [← hI1]; exact c3)
      refine lv_iload hx hb dX8_powerOfTwo_27 (lv_at hl 3 rfl) ?_
      refine lv_iconst (v := 1) hx hb dX8_powerOfTwo_29 (by decide) ?_
      refine lv_iand hx hb dX8_powerOfTwo_30 ?_
      refine lv_topi (fun v4 ev4 => ?_)
      refine lv_if_eq (tgt := 38) hx hb dX8_powerOfTwo_31 (by decide) (fun c5 => ?_) (fun c5 => ?_)
      · refine lv_dload_n hx hb dX8_powerOfTwo_38 rfl (lv_at hl 2 rfl) ?_
        refine lv_dload_n hx hb dX8_powerOfTwo_39 rfl (lv_at hl 2 rfl) ?_
        refine lv_dmul hx hb dX8_powerOfTwo_40 (n64.mpr (pw_sq hk hI h0).2) ?_
        refine lv_topd (fun v6 ev6 => ?_)
        refine lv_dstore_n (lv' := [(3, .double v6), (0, .int n), (1, .double P), (5, .int f)]) hx hb dX8_powerOfTwo_41 rfl hl (by decide) rfl (fun ls hl => ?_)
        refine lv_iload hx hb dX8_powerOfTwo_42 (lv_at hl 3 rfl) ?_
        refine lv_iconst (v := 1) hx hb dX8_powerOfTwo_44 (by decide) ?_
        refine lv_ishr hx hb dX8_powerOfTwo_45 ?_
        refine lv_topi (fun v7 ev7 => ?_)
        refine lv_istore (lv' := [(5, .int v7), (3, .double v6), (0, .int n), (1, .double P)]) hx hb dX8_powerOfTwo_46 hl (by decide) rfl (fun ls hl => ?_)
        refine lv_goto (tgt := 22) hx hb dX8_powerOfTwo_48 (by decide) ?_
        exact K (i + 1, P, v6, v7) ls (by rw [ev6, ev7, hI1, pw_shr hk.1]; exact pw_next hk hI h0 (pw_keep hI (pw_bit0 (by rw [← pw_and hk.1, ← hI1, ← ev4]; exact c5)))) (pw_less h0) (lv_sub hl [2, 3, 1, 0] rfl)
      · refine lv_dload_n hx hb dX8_powerOfTwo_34 rfl (lv_at hl 1 rfl) ?_
        refine lv_dload_n hx hb dX8_powerOfTwo_35 rfl (lv_at hl 2 rfl) ?_
        refine lv_dmul hx hb dX8_powerOfTwo_36 (n64.mpr (pw_mulP hk hI h0 (pw_bit (by rw [← pw_and hk.1, ← hI1, ← ev4]; exact c5))).ne) ?_
        refine lv_topd (fun v8 ev8 => ?_)
        refine lv_dstore_n (lv' := [(1, .double v8), (0, .int n), (3, .double S), (5, .int f)]) hx hb dX8_powerOfTwo_37 rfl hl (by decide) rfl (fun ls hl => ?_)
        refine lv_dload_n hx hb dX8_powerOfTwo_38 rfl (lv_at hl 2 rfl) ?_
        refine lv_dload_n hx hb dX8_powerOfTwo_39 rfl (lv_at hl 2 rfl) ?_
        refine lv_dmul hx hb dX8_powerOfTwo_40 (n64.mpr (pw_sq hk hI h0).2) ?_
        refine lv_topd (fun v9 ev9 => ?_)
        refine lv_dstore_n (lv' := [(3, .double v9), (1, .double v8), (0, .int n), (5, .int f)]) hx hb dX8_powerOfTwo_41 rfl hl (by decide) rfl (fun ls hl => ?_)
        refine lv_iload hx hb dX8_powerOfTwo_42 (lv_at hl 3 rfl) ?_
        refine lv_iconst (v := 1) hx hb dX8_powerOfTwo_44 (by decide) ?_
        refine lv_ishr hx hb dX8_powerOfTwo_45 ?_
        refine lv_topi (fun v10 ev10 => ?_)
        refine lv_istore (lv' := [(5, .int v10), (3, .double v9), (1, .double v8), (0, .int n)]) hx hb dX8_powerOfTwo_46 hl (by decide) rfl (fun ls hl => ?_)
        refine lv_goto (tgt := 22) hx hb dX8_powerOfTwo_48 (by decide) ?_
        exact K (i + 1, v8, v9, v10) ls (by rw [ev9, ev10, hI1, pw_shr hk.1]; exact pw_next hk hI h0 (by rw [ev8]; exact pw_mulP hk hI h0 (pw_bit (by rw [← pw_and hk.1, ← hI1, ← ev4]; exact c5)))) (pw_less h0) (lv_sub hl [3, 2, 1, 0] rfl)
  · refine lv_ldc2d hx hb hown (hts (.constantDouble RX8 284 (4602678819172646912)) (by decide +kernel)) dX8_powerOfTwo_6 ?_
    refine lv_goto (tgt := 15) hx hb dX8_powerOfTwo_9 (by decide) ?_
    refine lv_dstore_n (lv' := [(3, .double 4602678819172646912), (1, .double FP.dconst1), (0, .int n)]) hx hb dX8_powerOfTwo_15 rfl hl (by decide) rfl (fun ls hl => ?_)
    refine lv_iload_n hx hb dX8_powerOfTwo_16 rfl (lv_at hl 2 rfl) ?_
    refine va_mabs hx hb (by rw [hml]; exact hl.1.symm) hown (hts (.methodLink RX8 288 Lib.Math.abs.name) (by decide +kernel)) (hts (.static Lib.Math.abs.name) (by decide +kernel)) (hts (.initialized "java/lang/Math") (by decide +kernel)) (hts (.code Lib.Math.abs.name Lib.Math.abs.code 1 (some .int)) (by decide +kernel)) (Nat.le_of_ble_eq_true rfl) (Nat.le_of_ble_eq_true rfl) (Nat.zero_le _) (Nat.zero_le _) dX8_powerOfTwo_17 ?_
    refine lv_topi (fun v11 ev11 => ?_)
    refine lv_istore (lv' := [(5, .int v11), (3, .double 4602678819172646912), (1, .double FP.dconst1), (0, .int n)]) hx hb dX8_powerOfTwo_20 hl (by decide) rfl (fun ls hl => ?_)
    refine lp_r (pc := 22) (nL := 6) (α := Nat × UInt64 × UInt64 × Int32) (iv_pow (decide (z < 0)) z.natAbs) (fun xx => [(0, .int n), (1, .double xx.2.1), (3, .double xx.2.2.1), (5, .int xx.2.2.2)]) (fun xx => z.natAbs / 2 ^ xx.1) (fun xx ls hI hl K => ?_) (0, FP.dconst1, 4602678819172646912, v11) ls (by rw [ev11, pw_abs hz h1 h2]; exact pw_init (n := n) (by rw [show decide (z < 0) = true from decide_eq_true (by have h9 := c1; rw [fa_le, hz] at h9; have h8 : (0 : Int32).toInt = 0 := (by decide); omega)]; exact pw_half)) (lv_sub hl [3, 2, 1, 0] rfl)
    obtain ⟨i, P, S, f⟩ := xx
    have hl : lv_has ls 6 [(0, .int n), (1, .double P), (3, .double S), (5, .int f)] := hl
    have hI1 : f = nI (z.natAbs / 2 ^ i) := hI.1
    have hmu : ∀ (y : Nat × UInt64 × UInt64 × Int32), z.natAbs / 2 ^ y.1 = z.natAbs / 2 ^ y.1 := fun _ => rfl
    refine lv_iload hx hb dX8_powerOfTwo_22 (lv_at hl 3 rfl) ?_
    refine lv_if_le (tgt := 51) hx hb dX8_powerOfTwo_24 (by decide) (fun c12 => ?_) (fun c12 => ?_)
    · refine lv_dload_n hx hb dX8_powerOfTwo_51 rfl (lv_at hl 1 rfl) ?_
      exact W.dret (v := P) hx hb hr (fun t ht hW => ⟨P, rfl, (pw_end h1 hI (pw_zero hk.1 (by rw [← hI1]; exact c12))), ht⟩) (fun q hq => absurd hq List.not_mem_nil) dX8_powerOfTwo_52
    · have h0 : z.natAbs / 2 ^ i ≠ 0 := pw_pos hk.1 (by rw [← hI1]; exact c12)
      refine lv_iload hx hb dX8_powerOfTwo_27 (lv_at hl 3 rfl) ?_
      refine lv_iconst (v := 1) hx hb dX8_powerOfTwo_29 (by decide) ?_
      refine lv_iand hx hb dX8_powerOfTwo_30 ?_
      refine lv_topi (fun v13 ev13 => ?_)
      refine lv_if_eq (tgt := 38) hx hb dX8_powerOfTwo_31 (by decide) (fun c14 => ?_) (fun c14 => ?_)
      · refine lv_dload_n hx hb dX8_powerOfTwo_38 rfl (lv_at hl 2 rfl) ?_
        refine lv_dload_n hx hb dX8_powerOfTwo_39 rfl (lv_at hl 2 rfl) ?_
        refine lv_dmul hx hb dX8_powerOfTwo_40 (n64.mpr (pw_sq hk hI h0).2) ?_
        refine lv_topd (fun v15 ev15 => ?_)
        refine lv_dstore_n (lv' := [(3, .double v15), (0, .int n), (1, .double P), (5, .int f)]) hx hb dX8_powerOfTwo_41 rfl hl (by decide) rfl (fun ls hl => ?_)
        refine lv_iload hx hb dX8_powerOfTwo_42 (lv_at hl 3 rfl) ?_
        refine lv_iconst (v := 1) hx hb dX8_powerOfTwo_44 (by decide) ?_
        refine lv_ishr hx hb dX8_powerOfTwo_45 ?_
        refine lv_topi (fun v16 ev16 => ?_)
        refine lv_istore (lv' := [(5, .int v16), (3, .double v15), (0, .int n), (1, .double P)]) hx hb dX8_powerOfTwo_46 hl (by decide) rfl (fun ls hl => ?_)
        refine lv_goto (tgt := 22) hx hb dX8_powerOfTwo_48 (by decide) ?_
        exact K (i + 1, P, v15, v16) ls (by rw [ev15, ev16, hI1, pw_shr hk.1]; exact pw_next hk hI h0 (pw_keep hI (pw_bit0 (by rw [← pw_and hk.1, ← hI1, ← ev13]; exact c14)))) (pw_less h0) (lv_sub hl [2, 3, 1, 0] rfl)
      · refine lv_dload_n hx hb dX8_powerOfTwo_34 rfl (lv_at hl 1 rfl) ?_
        refine lv_dload_n hx hb dX8_powerOfTwo_35 rfl (lv_at hl 2 rfl) ?_
        refine lv_dmul hx hb dX8_powerOfTwo_36 (n64.mpr (pw_mulP hk hI h0 (pw_bit (by rw [← pw_and hk.1, ← hI1, ← ev13]; exact c14))).ne) ?_
        refine lv_topd (fun v17 ev17 => ?_)
        refine lv_dstore_n (lv' := [(1, .double v17), (0, .int n), (3, .double S), (5, .int f)]) hx hb dX8_powerOfTwo_37 rfl hl (by decide) rfl (fun ls hl => ?_)
        refine lv_dload_n hx hb dX8_powerOfTwo_38 rfl (lv_at hl 2 rfl) ?_
        refine lv_dload_n hx hb dX8_powerOfTwo_39 rfl (lv_at hl 2 rfl) ?_
        refine lv_dmul hx hb dX8_powerOfTwo_40 (n64.mpr (pw_sq hk hI h0).2) ?_
        refine lv_topd (fun v18 ev18 => ?_)
        refine lv_dstore_n (lv' := [(3, .double v18), (1, .double v17), (0, .int n), (5, .int f)]) hx hb dX8_powerOfTwo_41 rfl hl (by decide) rfl (fun ls hl => ?_)
        refine lv_iload hx hb dX8_powerOfTwo_42 (lv_at hl 3 rfl) ?_
        refine lv_iconst (v := 1) hx hb dX8_powerOfTwo_44 (by decide) ?_
        refine lv_ishr hx hb dX8_powerOfTwo_45 ?_
        refine lv_topi (fun v19 ev19 => ?_)
        refine lv_istore (lv' := [(5, .int v19), (3, .double v18), (1, .double v17), (0, .int n)]) hx hb dX8_powerOfTwo_46 hl (by decide) rfl (fun ls hl => ?_)
        refine lv_goto (tgt := 22) hx hb dX8_powerOfTwo_48 (by decide) ?_
        exact K (i + 1, v17, v18, v19) ls (by rw [ev18, ev19, hI1, pw_shr hk.1]; exact pw_next hk hI h0 (by rw [ev17]; exact pw_mulP hk hI h0 (pw_bit (by rw [← pw_and hk.1, ← hI1, ← ev13]; exact c14)))) (pw_less h0) (lv_sub hl [3, 2, 1, 0] rfl)

def q_isEndless (x : UInt64) : Int32 := (if (0 : Int32) < (Op.cmpValue (FP.dcmp x 9218868437227405311) CmpOp.l) then 1 else (if (0 : Int32) ≤ (Op.cmpValue (FP.dcmp x (FP.dneg 9218868437227405311)) CmpOp.g) then 0 else 1))
set_option maxHeartbeats 8000000 in
set_option maxRecDepth 100000 in
theorem c_isEndless (l : Launch) (x : UInt64)  : Met l yX8_isEndless wsX8_isEndless ({ frames := 0, cells := 0, slots := 0, locals := 0 }) (va_Pc [.double x] (fun U => bT U U.heap)) (vp_Si (fun r : Int32 => r = q_isEndless x)) 0 0 (fun _ => False) := by
  refine Met.ofW (cc := cX8_isEndless) (maxL := 4) (ret := (some .boolean)) (by decide) rfl ?_
  intro p e s m args below meth c s₁ B hml hv
  obtain ⟨rfl, -⟩ := hv
  have hx := B.exec
  have hb := B.bytes
  have hr := B.returns
  have hts := atoms_spec (ws := wsX8_isEndless) B.pre
  have hown : s.vm.findClass RX8 = some m.cls := findClass_of_methodNamed B.named
  have hlocks := B.notSynchronized
  have hS : va_S (fun _ => False) s.heap s.heap [] := va_S.rf
  have hl := lv_entry ([.double x]) (n := 4) (Nat.le_of_ble_eq_true rfl)
  rw [lg_entry_eq]
  generalize (lg_sl ([.double x]) ++ List.replicate (4 - (lg_sl ([.double x])).length) Slot.unset).toArray = ls at hl ⊢
  have hl : lv_has ls 4 [(0, .double x)] := hl
  refine lv_ldc2d hx hb hown (hts (.constantDouble RX8 268 (9218868437227405311)) (by decide +kernel)) dX8_isEndless_0 ?_
  refine lv_dstore_n (lv' := [(2, .double 9218868437227405311), (0, .double x)]) hx hb dX8_isEndless_3 rfl hl (by decide) rfl (fun ls hl => ?_)
  refine lv_dload_n hx hb dX8_isEndless_4 rfl (lv_at hl 1 rfl) ?_
  refine lv_dload_n hx hb dX8_isEndless_5 rfl (lv_at hl 0 rfl) ?_
  refine lv_dcmp hx hb dX8_isEndless_6 ?_
  refine lv_if_gt (tgt := 17) hx hb dX8_isEndless_7 (by decide) (fun c1 => ?_) (fun c1 => ?_)
  · refine lv_iconst (v := 1) hx hb dX8_isEndless_17 (by decide) ?_
    refine lv_goto (tgt := 22) hx hb dX8_isEndless_18 (by decide) ?_
    exact W.zret (v := 1) hx hb hr (rfl) (fun t ht hW => ⟨1, rfl, (by unfold q_isEndless; rw [if_pos c1]), ht⟩) (fun q hq => absurd hq List.not_mem_nil) dX8_isEndless_22
  · refine lv_dload_n hx hb dX8_isEndless_10 rfl (lv_at hl 1 rfl) ?_
    refine lv_dload_n hx hb dX8_isEndless_11 rfl (lv_at hl 0 rfl) ?_
    refine lv_dneg hx hb dX8_isEndless_12 ?_
    refine lv_topd (fun v2 ev2 => ?_)
    refine lv_dcmp hx hb dX8_isEndless_13 ?_
    refine lv_if_ge (tgt := 21) hx hb dX8_isEndless_14 (by decide) (fun c3 => ?_) (fun c3 => ?_)
    · refine lv_iconst (v := 0) hx hb dX8_isEndless_21 (by decide) ?_
      exact W.zret (v := 0) hx hb hr (rfl) (fun t ht hW => ⟨0, rfl, (by subst ev2; unfold q_isEndless; rw [if_neg c1, if_pos c3]), ht⟩) (fun q hq => absurd hq List.not_mem_nil) dX8_isEndless_22
    · refine lv_iconst (v := 1) hx hb dX8_isEndless_17 (by decide) ?_
      refine lv_goto (tgt := 22) hx hb dX8_isEndless_18 (by decide) ?_
      exact W.zret (v := 1) hx hb hr (rfl) (fun t ht hW => ⟨1, rfl, (by subst ev2; unfold q_isEndless; rw [if_neg c1, if_neg c3]), ht⟩) (fun q hq => absurd hq List.not_mem_nil) dX8_isEndless_22

def q_isLane (x : Int32) : Int32 := (if x < (0 : Int32) then 0 else (if (3 : Int32) < x then 0 else 1))
set_option maxHeartbeats 8000000 in
set_option maxRecDepth 100000 in
theorem c_isLane (l : Launch) (x : Int32)  : Met l yX8_isLane wsX8_isLane ({ frames := 0, cells := 0, slots := 0, locals := 0 }) (va_Pc [.int x] (fun U => bT U U.heap)) (vp_Si (fun r : Int32 => r = q_isLane x)) 0 0 (fun _ => False) := by
  refine Met.ofW (cc := cX8_isLane) (maxL := 1) (ret := (some .boolean)) (by decide) rfl ?_
  intro p e s m args below meth c s₁ B hml hv
  obtain ⟨rfl, -⟩ := hv
  have hx := B.exec
  have hb := B.bytes
  have hr := B.returns
  have hts := atoms_spec (ws := wsX8_isLane) B.pre
  have hown : s.vm.findClass RX8 = some m.cls := findClass_of_methodNamed B.named
  have hlocks := B.notSynchronized
  have hS : va_S (fun _ => False) s.heap s.heap [] := va_S.rf
  have hl := lv_entry ([.int x]) (n := 1) (Nat.le_of_ble_eq_true rfl)
  rw [lg_entry_eq]
  generalize (lg_sl ([.int x]) ++ List.replicate (1 - (lg_sl ([.int x])).length) Slot.unset).toArray = ls at hl ⊢
  have hl : lv_has ls 1 [(0, .int x)] := hl
  refine lv_iload_n hx hb dX8_isLane_0 rfl (lv_at hl 0 rfl) ?_
  refine lv_if_lt (tgt := 13) hx hb dX8_isLane_1 (by decide) (fun c1 => ?_) (fun c1 => ?_)
  · refine lv_iconst (v := 0) hx hb dX8_isLane_13 (by decide) ?_
    exact W.zret (v := 0) hx hb hr (rfl) (fun t ht hW => ⟨0, rfl, (by unfold q_isLane; rw [if_pos c1]), ht⟩) (fun q hq => absurd hq List.not_mem_nil) dX8_isLane_14
  · refine lv_iload_n hx hb dX8_isLane_4 rfl (lv_at hl 0 rfl) ?_
    refine lv_iconst (v := 3) hx hb dX8_isLane_5 (by decide) ?_
    refine lv_icmp_gt (tgt := 13) hx hb dX8_isLane_6 (by decide) (fun c2 => ?_) (fun c2 => ?_)
    · refine lv_iconst (v := 0) hx hb dX8_isLane_13 (by decide) ?_
      exact W.zret (v := 0) hx hb hr (rfl) (fun t ht hW => ⟨0, rfl, (by unfold q_isLane; rw [if_neg c1, if_pos c2]), ht⟩) (fun q hq => absurd hq List.not_mem_nil) dX8_isLane_14
    · refine lv_iconst (v := 1) hx hb dX8_isLane_9 (by decide) ?_
      refine lv_goto (tgt := 14) hx hb dX8_isLane_10 (by decide) ?_
      exact W.zret (v := 1) hx hb hr (rfl) (fun t ht hW => ⟨1, rfl, (by unfold q_isLane; rw [if_neg c1, if_neg c2]), ht⟩) (fun q hq => absurd hq List.not_mem_nil) dX8_isLane_14

def q_sizeIn_0 (b : Int64) : Int64 := (b &&& (((1 : Int64) <<< ((31 : Int32).toInt64 &&& 63)) - 1))
set_option maxHeartbeats 8000000 in
set_option maxRecDepth 100000 in
theorem c_sizeIn_0 (l : Launch) (ad : Nat → Nat) (b : Int64)  : Met l yX2_sizeIn wsX2_sizeIn ({ frames := 0, cells := 0, slots := 0, locals := 0 }) (va_Pc [.ref (ad 0), .long b] (fun U => bE ad U U.heap)) (vp_Sl (fun r : Int64 => r = q_sizeIn_0 b)) 0 0 (fun _ => False) := by
  refine Met.ofW (cc := cX2_sizeIn) (maxL := 3) (ret := (some .long)) (by decide) rfl ?_
  intro p e s m args below meth c s₁ B hml hv
  obtain ⟨rfl, hE, hN⟩ := hv
  have hx := B.exec
  have hb := B.bytes
  have hr := B.returns
  have hts := atoms_spec (ws := wsX2_sizeIn) B.pre
  have hown : s.vm.findClass RX2 = some m.cls := findClass_of_methodNamed B.named
  have hlocks := B.notSynchronized
  have hS : va_S (fun _ => False) s.heap s.heap [] := va_S.rf
  have hl := lv_entry ([.ref (ad 0), .long b]) (n := 3) (Nat.le_of_ble_eq_true rfl)
  rw [lg_entry_eq]
  generalize (lg_sl ([.ref (ad 0), .long b]) ++ List.replicate (3 - (lg_sl ([.ref (ad 0), .long b])).length) Slot.unset).toArray = ls at hl ⊢
  have hl : lv_has ls 3 [(0, .ref (ad 0)), (1, .long b)] := hl
  refine lv_lload_n hx hb dX2_sizeIn_0 rfl (lv_at hl 1 rfl) ?_
  refine lv_lconst (v := 1) hx hb dX2_sizeIn_1 (by decide) ?_
  refine lv_aload_n hx hb dX2_sizeIn_2 rfl (lv_at hl 0 rfl) ?_
  refine va_getE (i := 0) (q := eF[3]) hx hb hE (by decide) hS hown (List.getElem_mem _) (hts (.fieldLink RX2 39 "RopeDrums$Form" "sign" "I") (by decide +kernel)) (fun _ h9 => h9) dX2_sizeIn_3 ?_
  refine W.eq (g2 := F0 m 6 ls [.int 31, .long 1, .long b]) rfl ?_
  refine lv_lshl hx hb dX2_sizeIn_6 rfl ?_
  refine lv_topl (fun v1 ev1 => ?_)
  refine lv_lconst (v := 1) hx hb dX2_sizeIn_7 (by decide) ?_
  refine lv_lsub hx hb dX2_sizeIn_8 ?_
  refine lv_topl (fun v2 ev2 => ?_)
  refine lv_land hx hb dX2_sizeIn_9 ?_
  refine lv_topl (fun v3 ev3 => ?_)
  exact W.lret (v := v3) hx hb hr (fun t ht hW => ⟨v3, rfl, (by subst ev3 ev2 ev1; unfold q_sizeIn_0; rfl), ht⟩) (fun q hq => absurd hq List.not_mem_nil) dX2_sizeIn_10

def q_endlessSize_0  : Int64 := ((((255 : Int32).toInt64) : Int64) <<< ((23 : Int32).toInt64 &&& 63))
set_option maxHeartbeats 8000000 in
set_option maxRecDepth 100000 in
theorem c_endlessSize_0 (l : Launch) (ad : Nat → Nat)  : Met l yX2_endlessSize wsX2_endlessSize ({ frames := 0, cells := 0, slots := 0, locals := 0 }) (va_Pc [.ref (ad 0)] (fun U => bE ad U U.heap)) (vp_Sl (fun r : Int64 => r = q_endlessSize_0 )) 0 0 (fun _ => False) := by
  refine Met.ofW (cc := cX2_endlessSize) (maxL := 1) (ret := (some .long)) (by decide) rfl ?_
  intro p e s m args below meth c s₁ B hml hv
  obtain ⟨rfl, hE, hN⟩ := hv
  have hx := B.exec
  have hb := B.bytes
  have hr := B.returns
  have hts := atoms_spec (ws := wsX2_endlessSize) B.pre
  have hown : s.vm.findClass RX2 = some m.cls := findClass_of_methodNamed B.named
  have hlocks := B.notSynchronized
  have hS : va_S (fun _ => False) s.heap s.heap [] := va_S.rf
  have hl := lv_entry ([.ref (ad 0)]) (n := 1) (Nat.le_of_ble_eq_true rfl)
  rw [lg_entry_eq]
  generalize (lg_sl ([.ref (ad 0)]) ++ List.replicate (1 - (lg_sl ([.ref (ad 0)])).length) Slot.unset).toArray = ls at hl ⊢
  have hl : lv_has ls 1 [(0, .ref (ad 0))] := hl
  refine lv_aload_n hx hb dX2_endlessSize_0 rfl (lv_at hl 0 rfl) ?_
  refine va_getE (i := 0) (q := eF[2]) hx hb hE (by decide) hS hown (List.getElem_mem _) (hts (.fieldLink RX2 36 "RopeDrums$Form" "endless" "I") (by decide +kernel)) (fun _ h9 => h9) dX2_endlessSize_1 ?_
  refine W.eq (g2 := F0 m 4 ls [.int 255]) rfl ?_
  refine lv_i2l hx hb dX2_endlessSize_4 rfl ?_
  refine lv_topl (fun v1 ev1 => ?_)
  refine lv_aload_n hx hb dX2_endlessSize_5 rfl (lv_at hl 0 rfl) ?_
  refine va_getE (i := 0) (q := eF[0]) hx hb hE (by decide) hS hown (List.getElem_mem _) (hts (.fieldLink RX2 29 "RopeDrums$Form" "fraction" "I") (by decide +kernel)) (fun _ h9 => h9) dX2_endlessSize_6 ?_
  refine W.eq (g2 := F0 m 9 ls [.int 23, .long v1]) rfl ?_
  refine lv_lshl hx hb dX2_endlessSize_9 rfl ?_
  refine lv_topl (fun v2 ev2 => ?_)
  exact W.lret (v := v2) hx hb hr (fun t ht hW => ⟨v2, rfl, (by subst ev2 ev1; unfold q_endlessSize_0; rfl), ht⟩) (fun q hq => absurd hq List.not_mem_nil) dX2_endlessSize_10

def q_isNumber_0 (b : Int64) : Int32 := (if (0 : Int32) < (lg_cmp (q_sizeIn_0 b) (q_endlessSize_0 )) then 0 else 1)
set_option maxHeartbeats 8000000 in
set_option maxRecDepth 100000 in
theorem c_isNumber_0 (l : Launch) (ad : Nat → Nat) (b : Int64)  : Met l yX2_isNumber wsX2_isNumber ({ frames := 1, cells := 0, slots := 0, locals := 22 }) (va_Pc [.ref (ad 0), .long b] (fun U => bE ad U U.heap)) (vp_Si (fun r : Int32 => r = q_isNumber_0 b)) 0 0 (fun _ => False) := by
  refine Met.ofW (cc := cX2_isNumber) (maxL := 3) (ret := (some .boolean)) (by decide) rfl ?_
  intro p e s m args below meth c s₁ B hml hv
  obtain ⟨rfl, hE, hN⟩ := hv
  have hx := B.exec
  have hb := B.bytes
  have hr := B.returns
  have hts := atoms_spec (ws := wsX2_isNumber) B.pre
  have hown : s.vm.findClass RX2 = some m.cls := findClass_of_methodNamed B.named
  have hlocks := B.notSynchronized
  have hS : va_S (fun _ => False) s.heap s.heap [] := va_S.rf
  have hl := lv_entry ([.ref (ad 0), .long b]) (n := 3) (Nat.le_of_ble_eq_true rfl)
  rw [lg_entry_eq]
  generalize (lg_sl ([.ref (ad 0), .long b]) ++ List.replicate (3 - (lg_sl ([.ref (ad 0), .long b])).length) Slot.unset).toArray = ls at hl ⊢
  have hl : lv_has ls 3 [(0, .ref (ad 0)), (1, .long b)] := hl
  refine lv_aload_n hx hb dX2_isNumber_0 rfl (lv_at hl 0 rfl) ?_
  refine lv_lload_n hx hb dX2_isNumber_1 rfl (lv_at hl 1 rfl) ?_
  refine vp_callSl (W.runV (As := [.long b]) (rest := []) ⟨hx, hb, hml, hown, hts⟩ (c_sizeIn_0 l ad b) (cwV 1 hts gX2_isNumber_X2_sizeIn rfl rfl rfl (by decide +kernel) ⟨Nat.le_of_ble_eq_true rfl, Nat.le_of_ble_eq_true rfl⟩) (preV_of okE (⟨hE, hN⟩) (va_recvE hE (by decide) hS)) rfl rfl hl.1 rfl (lv_room (Nat.le_of_ble_eq_true rfl)) dX2_isNumber_2 ⟨Nat.le_of_ble_eq_true rfl, Nat.le_of_ble_eq_true rfl⟩) (fun r1 hr1 => ?_)
  refine lv_aload_n hx hb dX2_isNumber_5 rfl (lv_at hl 0 rfl) ?_
  refine vp_callSl (W.runV (As := []) (rest := [.long r1]) ⟨hx, hb, hml, hown, hts⟩ (c_endlessSize_0 l ad ) (cwV 0 hts gX2_isNumber_X2_endlessSize rfl rfl rfl (by decide +kernel) ⟨Nat.le_of_ble_eq_true rfl, Nat.le_of_ble_eq_true rfl⟩) (preV_of okE (⟨hE, hN⟩) (va_recvE hE (by decide) hS)) rfl rfl hl.1 rfl (lv_room (Nat.le_of_ble_eq_true rfl)) dX2_isNumber_6 ⟨Nat.le_of_ble_eq_true rfl, Nat.le_of_ble_eq_true rfl⟩) (fun r2 hr2 => ?_)
  refine W.lcmp hx hb dX2_isNumber_9 ?_
  refine lv_if_gt (tgt := 17) hx hb dX2_isNumber_10 (by decide) (fun c3 => ?_) (fun c3 => ?_)
  · refine lv_iconst (v := 0) hx hb dX2_isNumber_17 (by decide) ?_
    exact W.zret (v := 0) hx hb hr (rfl) (fun t ht hW => ⟨0, rfl, (by subst hr2 hr1; unfold q_isNumber_0; rw [if_pos c3]), ht⟩) (fun q hq => absurd hq List.not_mem_nil) dX2_isNumber_18
  · refine lv_iconst (v := 1) hx hb dX2_isNumber_13 (by decide) ?_
    refine lv_goto (tgt := 18) hx hb dX2_isNumber_14 (by decide) ?_
    exact W.zret (v := 1) hx hb hr (rfl) (fun t ht hW => ⟨1, rfl, (by subst hr2 hr1; unfold q_isNumber_0; rw [if_neg c3]), ht⟩) (fun q hq => absurd hq List.not_mem_nil) dX2_isNumber_18

def q_stepsOf_0 (b : Int64) : Int64 := (if (0 : Int32) ≤ (lg_cmp b ((1 : Int64) <<< ((23 : Int32).toInt64 &&& 63))) then (((1 : Int64) <<< ((23 : Int32).toInt64 &&& 63)) + (b &&& (((1 : Int64) <<< ((23 : Int32).toInt64 &&& 63)) - 1))) else (b &&& (((1 : Int64) <<< ((23 : Int32).toInt64 &&& 63)) - 1)))
set_option maxHeartbeats 8000000 in
set_option maxRecDepth 100000 in
theorem c_stepsOf_0 (l : Launch) (ad : Nat → Nat) (b : Int64)  : Met l yX2_stepsOf wsX2_stepsOf ({ frames := 0, cells := 0, slots := 0, locals := 0 }) (va_Pc [.ref (ad 0), .long b] (fun U => bE ad U U.heap)) (vp_Sl (fun r : Int64 => r = q_stepsOf_0 b)) 0 0 (fun _ => False) := by
  refine Met.ofW (cc := cX2_stepsOf) (maxL := 7) (ret := (some .long)) (by decide) rfl ?_
  intro p e s m args below meth c s₁ B hml hv
  obtain ⟨rfl, hE, hN⟩ := hv
  have hx := B.exec
  have hb := B.bytes
  have hr := B.returns
  have hts := atoms_spec (ws := wsX2_stepsOf) B.pre
  have hown : s.vm.findClass RX2 = some m.cls := findClass_of_methodNamed B.named
  have hlocks := B.notSynchronized
  have hS : va_S (fun _ => False) s.heap s.heap [] := va_S.rf
  have hl := lv_entry ([.ref (ad 0), .long b]) (n := 7) (Nat.le_of_ble_eq_true rfl)
  rw [lg_entry_eq]
  generalize (lg_sl ([.ref (ad 0), .long b]) ++ List.replicate (7 - (lg_sl ([.ref (ad 0), .long b])).length) Slot.unset).toArray = ls at hl ⊢
  have hl : lv_has ls 7 [(0, .ref (ad 0)), (1, .long b)] := hl
  refine lv_lconst (v := 1) hx hb dX2_stepsOf_0 (by decide) ?_
  refine lv_aload_n hx hb dX2_stepsOf_1 rfl (lv_at hl 0 rfl) ?_
  refine va_getE (i := 0) (q := eF[0]) hx hb hE (by decide) hS hown (List.getElem_mem _) (hts (.fieldLink RX2 29 "RopeDrums$Form" "fraction" "I") (by decide +kernel)) (fun _ h9 => h9) dX2_stepsOf_2 ?_
  refine W.eq (g2 := F0 m 5 ls [.int 23, .long 1]) rfl ?_
  refine lv_lshl hx hb dX2_stepsOf_5 rfl ?_
  refine lv_topl (fun v1 ev1 => ?_)
  refine lv_lstore_n (lv' := [(3, .long v1), (0, .ref (ad 0)), (1, .long b)]) hx hb dX2_stepsOf_6 rfl hl (by decide) rfl (fun ls hl => ?_)
  refine lv_lload_n hx hb dX2_stepsOf_7 rfl (lv_at hl 2 rfl) ?_
  refine lv_lload_n hx hb dX2_stepsOf_8 rfl (lv_at hl 0 rfl) ?_
  refine lv_lconst (v := 1) hx hb dX2_stepsOf_9 (by decide) ?_
  refine lv_lsub hx hb dX2_stepsOf_10 ?_
  refine lv_topl (fun v2 ev2 => ?_)
  refine lv_land hx hb dX2_stepsOf_11 ?_
  refine lv_topl (fun v3 ev3 => ?_)
  refine lv_lstore (lv' := [(5, .long v3), (3, .long v1), (0, .ref (ad 0)), (1, .long b)]) hx hb dX2_stepsOf_12 hl (by decide) rfl (fun ls hl => ?_)
  refine lv_lload_n hx hb dX2_stepsOf_14 rfl (lv_at hl 3 rfl) ?_
  refine lv_lload_n hx hb dX2_stepsOf_15 rfl (lv_at hl 1 rfl) ?_
  refine W.lcmp hx hb dX2_stepsOf_16 ?_
  refine lv_if_ge (tgt := 25) hx hb dX2_stepsOf_17 (by decide) (fun c4 => ?_) (fun c4 => ?_)
  · refine lv_lload_n hx hb dX2_stepsOf_25 rfl (lv_at hl 1 rfl) ?_
    refine lv_lload hx hb dX2_stepsOf_26 (lv_at hl 0 rfl) ?_
    refine lv_ladd hx hb dX2_stepsOf_28 ?_
    refine lv_topl (fun v5 ev5 => ?_)
    exact W.lret (v := v5) hx hb hr (fun t ht hW => ⟨v5, rfl, (by subst ev5 ev3 ev2 ev1; unfold q_stepsOf_0; rw [if_pos c4]), ht⟩) (fun q hq => absurd hq List.not_mem_nil) dX2_stepsOf_29
  · refine lv_lload hx hb dX2_stepsOf_20 (lv_at hl 0 rfl) ?_
    refine lv_goto (tgt := 29) hx hb dX2_stepsOf_22 (by decide) ?_
    exact W.lret (v := v3) hx hb hr (fun t ht hW => ⟨v3, rfl, (by subst ev3 ev2 ev1; unfold q_stepsOf_0; rw [if_neg c4]), ht⟩) (fun q hq => absurd hq List.not_mem_nil) dX2_stepsOf_29

def q_powerOf_0 (b : Int64) : Int32 := ((((if ((((b.toUInt64 >>> ((23 : Int32).toInt64.toUInt64 &&& Int64.toUInt64 63)).toInt64) : Int64).toInt32) < 1 then 1 else ((((b.toUInt64 >>> ((23 : Int32).toInt64.toUInt64 &&& Int64.toUInt64 63)).toInt64) : Int64).toInt32)) - 1) + (-126)) - 23)
set_option maxHeartbeats 8000000 in
set_option maxRecDepth 100000 in
theorem c_powerOf_0 (l : Launch) (ad : Nat → Nat) (b : Int64)  : Met l yX2_powerOf wsX2_powerOf ({ frames := 1, cells := 0, slots := 0, locals := 21 }) (va_Pc [.ref (ad 0), .long b] (fun U => bE ad U U.heap)) (vp_Si (fun r : Int32 => r = q_powerOf_0 b)) 0 0 (fun _ => False) := by
  refine Met.ofW (cc := cX2_powerOf) (maxL := 4) (ret := (some .int)) (by decide) rfl ?_
  intro p e s m args below meth c s₁ B hml hv
  obtain ⟨rfl, hE, hN⟩ := hv
  have hx := B.exec
  have hb := B.bytes
  have hr := B.returns
  have hts := atoms_spec (ws := wsX2_powerOf) B.pre
  have hown : s.vm.findClass RX2 = some m.cls := findClass_of_methodNamed B.named
  have hlocks := B.notSynchronized
  have hS : va_S (fun _ => False) s.heap s.heap [] := va_S.rf
  have hl := lv_entry ([.ref (ad 0), .long b]) (n := 4) (Nat.le_of_ble_eq_true rfl)
  rw [lg_entry_eq]
  generalize (lg_sl ([.ref (ad 0), .long b]) ++ List.replicate (4 - (lg_sl ([.ref (ad 0), .long b])).length) Slot.unset).toArray = ls at hl ⊢
  have hl : lv_has ls 4 [(0, .ref (ad 0)), (1, .long b)] := hl
  refine lv_lload_n hx hb dX2_powerOf_0 rfl (lv_at hl 1 rfl) ?_
  refine lv_aload_n hx hb dX2_powerOf_1 rfl (lv_at hl 0 rfl) ?_
  refine va_getE (i := 0) (q := eF[0]) hx hb hE (by decide) hS hown (List.getElem_mem _) (hts (.fieldLink RX2 29 "RopeDrums$Form" "fraction" "I") (by decide +kernel)) (fun _ h9 => h9) dX2_powerOf_2 ?_
  refine W.eq (g2 := F0 m 5 ls [.int 23, .long b]) rfl ?_
  refine lv_lushr hx hb dX2_powerOf_5 rfl ?_
  refine lv_topl (fun v1 ev1 => ?_)
  refine lv_l2i hx hb dX2_powerOf_6 rfl ?_
  refine lv_topi (fun v2 ev2 => ?_)
  refine lv_istore_n (lv' := [(3, .int v2), (0, .ref (ad 0)), (1, .long b)]) hx hb dX2_powerOf_7 rfl hl (by decide) rfl (fun ls hl => ?_)
  refine lv_iload_n hx hb dX2_powerOf_8 rfl (lv_at hl 0 rfl) ?_
  refine lv_iconst (v := 1) hx hb dX2_powerOf_9 (by decide) ?_
  refine va_mmax hx hb (by rw [hml]; exact hl.1.symm) hown (hts (.methodLink RX2 50 Lib.Math.max.name) (by decide +kernel)) (hts (.static Lib.Math.max.name) (by decide +kernel)) (hts (.initialized "java/lang/Math") (by decide +kernel)) (hts (.code Lib.Math.max.name Lib.Math.max.code 2 (some .int)) (by decide +kernel)) (Nat.le_of_ble_eq_true rfl) (Nat.le_of_ble_eq_true rfl) (Nat.zero_le _) (Nat.zero_le _) dX2_powerOf_10 ?_
  refine lv_topi (fun v3 ev3 => ?_)
  refine lv_iconst (v := 1) hx hb dX2_powerOf_13 (by decide) ?_
  refine lv_isub hx hb dX2_powerOf_14 ?_
  refine lv_topi (fun v4 ev4 => ?_)
  refine lv_aload_n hx hb dX2_powerOf_15 rfl (lv_at hl 1 rfl) ?_
  refine va_getE (i := 0) (q := eF[1]) hx hb hE (by decide) hS hown (List.getElem_mem _) (hts (.fieldLink RX2 33 "RopeDrums$Form" "lowest" "I") (by decide +kernel)) (fun _ h9 => h9) dX2_powerOf_16 ?_
  refine W.eq (g2 := F0 m 19 ls [.int (-126), .int v4]) rfl ?_
  refine lv_iadd hx hb dX2_powerOf_19 ?_
  refine lv_topi (fun v5 ev5 => ?_)
  refine lv_aload_n hx hb dX2_powerOf_20 rfl (lv_at hl 1 rfl) ?_
  refine va_getE (i := 0) (q := eF[0]) hx hb hE (by decide) hS hown (List.getElem_mem _) (hts (.fieldLink RX2 29 "RopeDrums$Form" "fraction" "I") (by decide +kernel)) (fun _ h9 => h9) dX2_powerOf_21 ?_
  refine W.eq (g2 := F0 m 24 ls [.int 23, .int v5]) rfl ?_
  refine lv_isub hx hb dX2_powerOf_24 ?_
  refine lv_topi (fun v6 ev6 => ?_)
  exact W.iret (v := v6) hx hb hr (fun t ht hW => ⟨v6, rfl, (by subst ev6 ev5 ev4 ev3 ev2 ev1; unfold q_powerOf_0; rfl), ht⟩) (fun q hq => absurd hq List.not_mem_nil) dX2_powerOf_25

def q_sizeIn_1 (b : Int64) : Int64 := (b &&& (((1 : Int64) <<< ((63 : Int32).toInt64 &&& 63)) - 1))
set_option maxHeartbeats 8000000 in
set_option maxRecDepth 100000 in
theorem c_sizeIn_1 (l : Launch) (ad : Nat → Nat) (b : Int64)  : Met l yX2_sizeIn wsX2_sizeIn ({ frames := 0, cells := 0, slots := 0, locals := 0 }) (va_Pc [.ref (ad 1), .long b] (fun U => bE ad U U.heap)) (vp_Sl (fun r : Int64 => r = q_sizeIn_1 b)) 0 0 (fun _ => False) := by
  refine Met.ofW (cc := cX2_sizeIn) (maxL := 3) (ret := (some .long)) (by decide) rfl ?_
  intro p e s m args below meth c s₁ B hml hv
  obtain ⟨rfl, hE, hN⟩ := hv
  have hx := B.exec
  have hb := B.bytes
  have hr := B.returns
  have hts := atoms_spec (ws := wsX2_sizeIn) B.pre
  have hown : s.vm.findClass RX2 = some m.cls := findClass_of_methodNamed B.named
  have hlocks := B.notSynchronized
  have hS : va_S (fun _ => False) s.heap s.heap [] := va_S.rf
  have hl := lv_entry ([.ref (ad 1), .long b]) (n := 3) (Nat.le_of_ble_eq_true rfl)
  rw [lg_entry_eq]
  generalize (lg_sl ([.ref (ad 1), .long b]) ++ List.replicate (3 - (lg_sl ([.ref (ad 1), .long b])).length) Slot.unset).toArray = ls at hl ⊢
  have hl : lv_has ls 3 [(0, .ref (ad 1)), (1, .long b)] := hl
  refine lv_lload_n hx hb dX2_sizeIn_0 rfl (lv_at hl 1 rfl) ?_
  refine lv_lconst (v := 1) hx hb dX2_sizeIn_1 (by decide) ?_
  refine lv_aload_n hx hb dX2_sizeIn_2 rfl (lv_at hl 0 rfl) ?_
  refine va_getE (i := 1) (q := eF[3]) hx hb hE (by decide) hS hown (List.getElem_mem _) (hts (.fieldLink RX2 39 "RopeDrums$Form" "sign" "I") (by decide +kernel)) (fun _ h9 => h9) dX2_sizeIn_3 ?_
  refine W.eq (g2 := F0 m 6 ls [.int 63, .long 1, .long b]) rfl ?_
  refine lv_lshl hx hb dX2_sizeIn_6 rfl ?_
  refine lv_topl (fun v1 ev1 => ?_)
  refine lv_lconst (v := 1) hx hb dX2_sizeIn_7 (by decide) ?_
  refine lv_lsub hx hb dX2_sizeIn_8 ?_
  refine lv_topl (fun v2 ev2 => ?_)
  refine lv_land hx hb dX2_sizeIn_9 ?_
  refine lv_topl (fun v3 ev3 => ?_)
  exact W.lret (v := v3) hx hb hr (fun t ht hW => ⟨v3, rfl, (by subst ev3 ev2 ev1; unfold q_sizeIn_1; rfl), ht⟩) (fun q hq => absurd hq List.not_mem_nil) dX2_sizeIn_10

def q_endlessSize_1  : Int64 := ((((2047 : Int32).toInt64) : Int64) <<< ((52 : Int32).toInt64 &&& 63))
set_option maxHeartbeats 8000000 in
set_option maxRecDepth 100000 in
theorem c_endlessSize_1 (l : Launch) (ad : Nat → Nat)  : Met l yX2_endlessSize wsX2_endlessSize ({ frames := 0, cells := 0, slots := 0, locals := 0 }) (va_Pc [.ref (ad 1)] (fun U => bE ad U U.heap)) (vp_Sl (fun r : Int64 => r = q_endlessSize_1 )) 0 0 (fun _ => False) := by
  refine Met.ofW (cc := cX2_endlessSize) (maxL := 1) (ret := (some .long)) (by decide) rfl ?_
  intro p e s m args below meth c s₁ B hml hv
  obtain ⟨rfl, hE, hN⟩ := hv
  have hx := B.exec
  have hb := B.bytes
  have hr := B.returns
  have hts := atoms_spec (ws := wsX2_endlessSize) B.pre
  have hown : s.vm.findClass RX2 = some m.cls := findClass_of_methodNamed B.named
  have hlocks := B.notSynchronized
  have hS : va_S (fun _ => False) s.heap s.heap [] := va_S.rf
  have hl := lv_entry ([.ref (ad 1)]) (n := 1) (Nat.le_of_ble_eq_true rfl)
  rw [lg_entry_eq]
  generalize (lg_sl ([.ref (ad 1)]) ++ List.replicate (1 - (lg_sl ([.ref (ad 1)])).length) Slot.unset).toArray = ls at hl ⊢
  have hl : lv_has ls 1 [(0, .ref (ad 1))] := hl
  refine lv_aload_n hx hb dX2_endlessSize_0 rfl (lv_at hl 0 rfl) ?_
  refine va_getE (i := 1) (q := eF[2]) hx hb hE (by decide) hS hown (List.getElem_mem _) (hts (.fieldLink RX2 36 "RopeDrums$Form" "endless" "I") (by decide +kernel)) (fun _ h9 => h9) dX2_endlessSize_1 ?_
  refine W.eq (g2 := F0 m 4 ls [.int 2047]) rfl ?_
  refine lv_i2l hx hb dX2_endlessSize_4 rfl ?_
  refine lv_topl (fun v1 ev1 => ?_)
  refine lv_aload_n hx hb dX2_endlessSize_5 rfl (lv_at hl 0 rfl) ?_
  refine va_getE (i := 1) (q := eF[0]) hx hb hE (by decide) hS hown (List.getElem_mem _) (hts (.fieldLink RX2 29 "RopeDrums$Form" "fraction" "I") (by decide +kernel)) (fun _ h9 => h9) dX2_endlessSize_6 ?_
  refine W.eq (g2 := F0 m 9 ls [.int 52, .long v1]) rfl ?_
  refine lv_lshl hx hb dX2_endlessSize_9 rfl ?_
  refine lv_topl (fun v2 ev2 => ?_)
  exact W.lret (v := v2) hx hb hr (fun t ht hW => ⟨v2, rfl, (by subst ev2 ev1; unfold q_endlessSize_1; rfl), ht⟩) (fun q hq => absurd hq List.not_mem_nil) dX2_endlessSize_10

def q_isNumber_1 (b : Int64) : Int32 := (if (0 : Int32) < (lg_cmp (q_sizeIn_1 b) (q_endlessSize_1 )) then 0 else 1)
set_option maxHeartbeats 8000000 in
set_option maxRecDepth 100000 in
theorem c_isNumber_1 (l : Launch) (ad : Nat → Nat) (b : Int64)  : Met l yX2_isNumber wsX2_isNumber ({ frames := 1, cells := 0, slots := 0, locals := 22 }) (va_Pc [.ref (ad 1), .long b] (fun U => bE ad U U.heap)) (vp_Si (fun r : Int32 => r = q_isNumber_1 b)) 0 0 (fun _ => False) := by
  refine Met.ofW (cc := cX2_isNumber) (maxL := 3) (ret := (some .boolean)) (by decide) rfl ?_
  intro p e s m args below meth c s₁ B hml hv
  obtain ⟨rfl, hE, hN⟩ := hv
  have hx := B.exec
  have hb := B.bytes
  have hr := B.returns
  have hts := atoms_spec (ws := wsX2_isNumber) B.pre
  have hown : s.vm.findClass RX2 = some m.cls := findClass_of_methodNamed B.named
  have hlocks := B.notSynchronized
  have hS : va_S (fun _ => False) s.heap s.heap [] := va_S.rf
  have hl := lv_entry ([.ref (ad 1), .long b]) (n := 3) (Nat.le_of_ble_eq_true rfl)
  rw [lg_entry_eq]
  generalize (lg_sl ([.ref (ad 1), .long b]) ++ List.replicate (3 - (lg_sl ([.ref (ad 1), .long b])).length) Slot.unset).toArray = ls at hl ⊢
  have hl : lv_has ls 3 [(0, .ref (ad 1)), (1, .long b)] := hl
  refine lv_aload_n hx hb dX2_isNumber_0 rfl (lv_at hl 0 rfl) ?_
  refine lv_lload_n hx hb dX2_isNumber_1 rfl (lv_at hl 1 rfl) ?_
  refine vp_callSl (W.runV (As := [.long b]) (rest := []) ⟨hx, hb, hml, hown, hts⟩ (c_sizeIn_1 l ad b) (cwV 1 hts gX2_isNumber_X2_sizeIn rfl rfl rfl (by decide +kernel) ⟨Nat.le_of_ble_eq_true rfl, Nat.le_of_ble_eq_true rfl⟩) (preV_of okE (⟨hE, hN⟩) (va_recvE hE (by decide) hS)) rfl rfl hl.1 rfl (lv_room (Nat.le_of_ble_eq_true rfl)) dX2_isNumber_2 ⟨Nat.le_of_ble_eq_true rfl, Nat.le_of_ble_eq_true rfl⟩) (fun r1 hr1 => ?_)
  refine lv_aload_n hx hb dX2_isNumber_5 rfl (lv_at hl 0 rfl) ?_
  refine vp_callSl (W.runV (As := []) (rest := [.long r1]) ⟨hx, hb, hml, hown, hts⟩ (c_endlessSize_1 l ad ) (cwV 0 hts gX2_isNumber_X2_endlessSize rfl rfl rfl (by decide +kernel) ⟨Nat.le_of_ble_eq_true rfl, Nat.le_of_ble_eq_true rfl⟩) (preV_of okE (⟨hE, hN⟩) (va_recvE hE (by decide) hS)) rfl rfl hl.1 rfl (lv_room (Nat.le_of_ble_eq_true rfl)) dX2_isNumber_6 ⟨Nat.le_of_ble_eq_true rfl, Nat.le_of_ble_eq_true rfl⟩) (fun r2 hr2 => ?_)
  refine W.lcmp hx hb dX2_isNumber_9 ?_
  refine lv_if_gt (tgt := 17) hx hb dX2_isNumber_10 (by decide) (fun c3 => ?_) (fun c3 => ?_)
  · refine lv_iconst (v := 0) hx hb dX2_isNumber_17 (by decide) ?_
    exact W.zret (v := 0) hx hb hr (rfl) (fun t ht hW => ⟨0, rfl, (by subst hr2 hr1; unfold q_isNumber_1; rw [if_pos c3]), ht⟩) (fun q hq => absurd hq List.not_mem_nil) dX2_isNumber_18
  · refine lv_iconst (v := 1) hx hb dX2_isNumber_13 (by decide) ?_
    refine lv_goto (tgt := 18) hx hb dX2_isNumber_14 (by decide) ?_
    exact W.zret (v := 1) hx hb hr (rfl) (fun t ht hW => ⟨1, rfl, (by subst hr2 hr1; unfold q_isNumber_1; rw [if_neg c3]), ht⟩) (fun q hq => absurd hq List.not_mem_nil) dX2_isNumber_18

def q_stepsOf_1 (b : Int64) : Int64 := (if (0 : Int32) ≤ (lg_cmp b ((1 : Int64) <<< ((52 : Int32).toInt64 &&& 63))) then (((1 : Int64) <<< ((52 : Int32).toInt64 &&& 63)) + (b &&& (((1 : Int64) <<< ((52 : Int32).toInt64 &&& 63)) - 1))) else (b &&& (((1 : Int64) <<< ((52 : Int32).toInt64 &&& 63)) - 1)))
set_option maxHeartbeats 8000000 in
set_option maxRecDepth 100000 in
theorem c_stepsOf_1 (l : Launch) (ad : Nat → Nat) (b : Int64)  : Met l yX2_stepsOf wsX2_stepsOf ({ frames := 0, cells := 0, slots := 0, locals := 0 }) (va_Pc [.ref (ad 1), .long b] (fun U => bE ad U U.heap)) (vp_Sl (fun r : Int64 => r = q_stepsOf_1 b)) 0 0 (fun _ => False) := by
  refine Met.ofW (cc := cX2_stepsOf) (maxL := 7) (ret := (some .long)) (by decide) rfl ?_
  intro p e s m args below meth c s₁ B hml hv
  obtain ⟨rfl, hE, hN⟩ := hv
  have hx := B.exec
  have hb := B.bytes
  have hr := B.returns
  have hts := atoms_spec (ws := wsX2_stepsOf) B.pre
  have hown : s.vm.findClass RX2 = some m.cls := findClass_of_methodNamed B.named
  have hlocks := B.notSynchronized
  have hS : va_S (fun _ => False) s.heap s.heap [] := va_S.rf
  have hl := lv_entry ([.ref (ad 1), .long b]) (n := 7) (Nat.le_of_ble_eq_true rfl)
  rw [lg_entry_eq]
  generalize (lg_sl ([.ref (ad 1), .long b]) ++ List.replicate (7 - (lg_sl ([.ref (ad 1), .long b])).length) Slot.unset).toArray = ls at hl ⊢
  have hl : lv_has ls 7 [(0, .ref (ad 1)), (1, .long b)] := hl
  refine lv_lconst (v := 1) hx hb dX2_stepsOf_0 (by decide) ?_
  refine lv_aload_n hx hb dX2_stepsOf_1 rfl (lv_at hl 0 rfl) ?_
  refine va_getE (i := 1) (q := eF[0]) hx hb hE (by decide) hS hown (List.getElem_mem _) (hts (.fieldLink RX2 29 "RopeDrums$Form" "fraction" "I") (by decide +kernel)) (fun _ h9 => h9) dX2_stepsOf_2 ?_
  refine W.eq (g2 := F0 m 5 ls [.int 52, .long 1]) rfl ?_
  refine lv_lshl hx hb dX2_stepsOf_5 rfl ?_
  refine lv_topl (fun v1 ev1 => ?_)
  refine lv_lstore_n (lv' := [(3, .long v1), (0, .ref (ad 1)), (1, .long b)]) hx hb dX2_stepsOf_6 rfl hl (by decide) rfl (fun ls hl => ?_)
  refine lv_lload_n hx hb dX2_stepsOf_7 rfl (lv_at hl 2 rfl) ?_
  refine lv_lload_n hx hb dX2_stepsOf_8 rfl (lv_at hl 0 rfl) ?_
  refine lv_lconst (v := 1) hx hb dX2_stepsOf_9 (by decide) ?_
  refine lv_lsub hx hb dX2_stepsOf_10 ?_
  refine lv_topl (fun v2 ev2 => ?_)
  refine lv_land hx hb dX2_stepsOf_11 ?_
  refine lv_topl (fun v3 ev3 => ?_)
  refine lv_lstore (lv' := [(5, .long v3), (3, .long v1), (0, .ref (ad 1)), (1, .long b)]) hx hb dX2_stepsOf_12 hl (by decide) rfl (fun ls hl => ?_)
  refine lv_lload_n hx hb dX2_stepsOf_14 rfl (lv_at hl 3 rfl) ?_
  refine lv_lload_n hx hb dX2_stepsOf_15 rfl (lv_at hl 1 rfl) ?_
  refine W.lcmp hx hb dX2_stepsOf_16 ?_
  refine lv_if_ge (tgt := 25) hx hb dX2_stepsOf_17 (by decide) (fun c4 => ?_) (fun c4 => ?_)
  · refine lv_lload_n hx hb dX2_stepsOf_25 rfl (lv_at hl 1 rfl) ?_
    refine lv_lload hx hb dX2_stepsOf_26 (lv_at hl 0 rfl) ?_
    refine lv_ladd hx hb dX2_stepsOf_28 ?_
    refine lv_topl (fun v5 ev5 => ?_)
    exact W.lret (v := v5) hx hb hr (fun t ht hW => ⟨v5, rfl, (by subst ev5 ev3 ev2 ev1; unfold q_stepsOf_1; rw [if_pos c4]), ht⟩) (fun q hq => absurd hq List.not_mem_nil) dX2_stepsOf_29
  · refine lv_lload hx hb dX2_stepsOf_20 (lv_at hl 0 rfl) ?_
    refine lv_goto (tgt := 29) hx hb dX2_stepsOf_22 (by decide) ?_
    exact W.lret (v := v3) hx hb hr (fun t ht hW => ⟨v3, rfl, (by subst ev3 ev2 ev1; unfold q_stepsOf_1; rw [if_neg c4]), ht⟩) (fun q hq => absurd hq List.not_mem_nil) dX2_stepsOf_29

def q_powerOf_1 (b : Int64) : Int32 := ((((if ((((b.toUInt64 >>> ((52 : Int32).toInt64.toUInt64 &&& Int64.toUInt64 63)).toInt64) : Int64).toInt32) < 1 then 1 else ((((b.toUInt64 >>> ((52 : Int32).toInt64.toUInt64 &&& Int64.toUInt64 63)).toInt64) : Int64).toInt32)) - 1) + (-1022)) - 52)
set_option maxHeartbeats 8000000 in
set_option maxRecDepth 100000 in
theorem c_powerOf_1 (l : Launch) (ad : Nat → Nat) (b : Int64)  : Met l yX2_powerOf wsX2_powerOf ({ frames := 1, cells := 0, slots := 0, locals := 21 }) (va_Pc [.ref (ad 1), .long b] (fun U => bE ad U U.heap)) (vp_Si (fun r : Int32 => r = q_powerOf_1 b)) 0 0 (fun _ => False) := by
  refine Met.ofW (cc := cX2_powerOf) (maxL := 4) (ret := (some .int)) (by decide) rfl ?_
  intro p e s m args below meth c s₁ B hml hv
  obtain ⟨rfl, hE, hN⟩ := hv
  have hx := B.exec
  have hb := B.bytes
  have hr := B.returns
  have hts := atoms_spec (ws := wsX2_powerOf) B.pre
  have hown : s.vm.findClass RX2 = some m.cls := findClass_of_methodNamed B.named
  have hlocks := B.notSynchronized
  have hS : va_S (fun _ => False) s.heap s.heap [] := va_S.rf
  have hl := lv_entry ([.ref (ad 1), .long b]) (n := 4) (Nat.le_of_ble_eq_true rfl)
  rw [lg_entry_eq]
  generalize (lg_sl ([.ref (ad 1), .long b]) ++ List.replicate (4 - (lg_sl ([.ref (ad 1), .long b])).length) Slot.unset).toArray = ls at hl ⊢
  have hl : lv_has ls 4 [(0, .ref (ad 1)), (1, .long b)] := hl
  refine lv_lload_n hx hb dX2_powerOf_0 rfl (lv_at hl 1 rfl) ?_
  refine lv_aload_n hx hb dX2_powerOf_1 rfl (lv_at hl 0 rfl) ?_
  refine va_getE (i := 1) (q := eF[0]) hx hb hE (by decide) hS hown (List.getElem_mem _) (hts (.fieldLink RX2 29 "RopeDrums$Form" "fraction" "I") (by decide +kernel)) (fun _ h9 => h9) dX2_powerOf_2 ?_
  refine W.eq (g2 := F0 m 5 ls [.int 52, .long b]) rfl ?_
  refine lv_lushr hx hb dX2_powerOf_5 rfl ?_
  refine lv_topl (fun v1 ev1 => ?_)
  refine lv_l2i hx hb dX2_powerOf_6 rfl ?_
  refine lv_topi (fun v2 ev2 => ?_)
  refine lv_istore_n (lv' := [(3, .int v2), (0, .ref (ad 1)), (1, .long b)]) hx hb dX2_powerOf_7 rfl hl (by decide) rfl (fun ls hl => ?_)
  refine lv_iload_n hx hb dX2_powerOf_8 rfl (lv_at hl 0 rfl) ?_
  refine lv_iconst (v := 1) hx hb dX2_powerOf_9 (by decide) ?_
  refine va_mmax hx hb (by rw [hml]; exact hl.1.symm) hown (hts (.methodLink RX2 50 Lib.Math.max.name) (by decide +kernel)) (hts (.static Lib.Math.max.name) (by decide +kernel)) (hts (.initialized "java/lang/Math") (by decide +kernel)) (hts (.code Lib.Math.max.name Lib.Math.max.code 2 (some .int)) (by decide +kernel)) (Nat.le_of_ble_eq_true rfl) (Nat.le_of_ble_eq_true rfl) (Nat.zero_le _) (Nat.zero_le _) dX2_powerOf_10 ?_
  refine lv_topi (fun v3 ev3 => ?_)
  refine lv_iconst (v := 1) hx hb dX2_powerOf_13 (by decide) ?_
  refine lv_isub hx hb dX2_powerOf_14 ?_
  refine lv_topi (fun v4 ev4 => ?_)
  refine lv_aload_n hx hb dX2_powerOf_15 rfl (lv_at hl 1 rfl) ?_
  refine va_getE (i := 1) (q := eF[1]) hx hb hE (by decide) hS hown (List.getElem_mem _) (hts (.fieldLink RX2 33 "RopeDrums$Form" "lowest" "I") (by decide +kernel)) (fun _ h9 => h9) dX2_powerOf_16 ?_
  refine W.eq (g2 := F0 m 19 ls [.int (-1022), .int v4]) rfl ?_
  refine lv_iadd hx hb dX2_powerOf_19 ?_
  refine lv_topi (fun v5 ev5 => ?_)
  refine lv_aload_n hx hb dX2_powerOf_20 rfl (lv_at hl 1 rfl) ?_
  refine va_getE (i := 1) (q := eF[0]) hx hb hE (by decide) hS hown (List.getElem_mem _) (hts (.fieldLink RX2 29 "RopeDrums$Form" "fraction" "I") (by decide +kernel)) (fun _ h9 => h9) dX2_powerOf_21 ?_
  refine W.eq (g2 := F0 m 24 ls [.int 52, .int v5]) rfl ?_
  refine lv_isub hx hb dX2_powerOf_24 ?_
  refine lv_topi (fun v6 ev6 => ?_)
  exact W.iret (v := v6) hx hb hr (fun t ht hW => ⟨v6, rfl, (by subst ev6 ev5 ev4 ev3 ev2 ev1; unfold q_powerOf_1; rfl), ht⟩) (fun q hq => absurd hq List.not_mem_nil) dX2_powerOf_25
