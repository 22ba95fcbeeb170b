set_option maxHeartbeats 8000000 in
set_option maxRecDepth 100000 in
theorem c_meterOf (l : Launch) (G : va_G) (cy : Nat → ClassId) (L : List Nat) (F : Nat → va_E) (o : Nat) (qa : Nat → Nat → Nat) (Mm : SM) (Dd : SD) (Sl : SL) (Pp : SP) (Kr : SR) (Bk : SB) (Xx : SX) (hR : Rep cy L o qa Mm Dd Sl Pp Kr Bk Xx F) (j : Nat) (hj : j < 10)  : Met l yX8_meterOf wsX8_meterOf ({ frames := 0, cells := 0, slots := 0, locals := 0 }) (va_Pc [.ref o, .int (nI j)] (fun U => bP G cy L F U U.heap)) (va_Sq (fun r => r = some (qa 0 j))) 0 0 (fun _ => False) := by
  refine Met.ofW (cc := cX8_meterOf) (maxL := 2) (ret := (some (.object "RopeDrums$Meter"))) (by decide) rfl ?_
  intro p e s m args below meth c s₁ B hml hv
  obtain ⟨rfl, hP, hK, hD⟩ := hv
  have hx := B.exec
  have hb := B.bytes
  have hr := B.returns
  have hts := atoms_spec (ws := wsX8_meterOf) B.pre
  have hown : s.vm.findClass RX8 = some m.cls := findClass_of_methodNamed B.named
  have hlocks := B.notSynchronized
  have hinX8 : ∀ w ∈ wsX80, w ∈ wsX8_meterOf := by decide +kernel
  have hS : va_S (fun _ => False) s.heap s.heap [] := va_S.rf
  obtain ⟨⟨⟨hmo, hFo⟩, ⟨hmf, hFf⟩, hms, hFs⟩, ⟨⟨hm0, hF0⟩, ⟨hm1, hF1⟩, ⟨hm2, hF2⟩, ⟨hm4, hF4⟩, hm5, hF5⟩, hRM, hRD, hRG, hRP, hRR, hRB, hRI⟩ := id hR
  have hl := lv_entry ([.ref o, .int (nI j)]) (n := 2) (Nat.le_of_ble_eq_true rfl)
  rw [lg_entry_eq]
  generalize (lg_sl ([.ref o, .int (nI j)]) ++ List.replicate (2 - (lg_sl ([.ref o, .int (nI j)])).length) Slot.unset).toArray = ls at hl ⊢
  have hl : lv_has ls 2 [(0, .ref o), (1, .int (nI j))] := hl
  refine lv_iload_n hx hb dX8_meterOf_0 rfl (lv_at hl 1 rfl) ?_
  refine lv_if_lt (tgt := 19) hx hb dX8_meterOf_1 (by decide) (fun c1 => absurd c1 (fun q => by rw [fa_lt, nI_toInt (by omega)] at q; have h8 : (0 : Int32).toInt = 0 := (by decide); omega)) (fun c1 => ?_)
  refine lv_iload_n hx hb dX8_meterOf_4 rfl (lv_at hl 1 rfl) ?_
  refine lv_bipush (v := 10) hx hb dX8_meterOf_5 (by decide) ?_
  refine lv_icmp_ge (tgt := 19) hx hb dX8_meterOf_7 (by decide) (fun c2 => absurd c2 (fun q => by rw [fa_le, nI_toInt (by omega)] at q; have h7 : (10 : Int32).toInt = 10 := (by decide); omega)) (fun c2 => ?_)
  refine lv_aload_n hx hb dX8_meterOf_10 rfl (lv_at hl 0 rfl) ?_
  refine pg_get (ci := 7) (C := RX8) (T := TX8) (N := 9) hx hb hts hinX8 hown hK hP hmo hFo rfl 0 (by decide) (hts (.fieldLink RX8 11 "RopeDrums" "meters" "[LRopeDrums$Meter;") (by decide +kernel)) (fun _ h9 => h9) rfl dX8_meterOf_11 ?_
  refine lv_iload_n hx hb dX8_meterOf_14 rfl (lv_at hl 1 rfl) ?_
  refine pg_aldq hx hb hK hP 7 hm0 hF0 rfl (vp_in_nI hj (by decide)) dX8_meterOf_15 ?_
  rw [show (pR 10 (qa 0)) (nI j).toNatClampNeg = some (qa 0 j) from pR_at hj (by decide)]
  refine W.eq (g2 := F0 m 16 ls [.ref (qa 0 j)]) rfl ?_
  refine lv_goto (tgt := 20) hx hb dX8_meterOf_16 (by decide) ?_
  exact W.aret hx hb hr (Or.inl ⟨_, rfl⟩) (Or.inr ⟨_, rfl⟩) (fun t ht hW => ⟨some (qa 0 j), rfl, rfl, ht⟩) (fun q hq => absurd hq List.not_mem_nil) dX8_meterOf_20

set_option maxHeartbeats 8000000 in
set_option maxRecDepth 100000 in
theorem c_meterOf_no (l : Launch) (G : va_G) (cy : Nat → ClassId) (L : List Nat) (F : Nat → va_E) (o : Nat) (qa : Nat → Nat → Nat) (Mm : SM) (Dd : SD) (Sl : SL) (Pp : SP) (Kr : SR) (Bk : SB) (Xx : SX) (hR : Rep cy L o qa Mm Dd Sl Pp Kr Bk Xx F) (x : Int32) (hi : ix 10 x = none)  : Met l yX8_meterOf wsX8_meterOf ({ frames := 0, cells := 0, slots := 0, locals := 0 }) (va_Pc [.ref o, .int x] (fun U => bP G cy L F U U.heap)) (va_Sq (fun r => r = none)) 0 0 (fun _ => False) := by
  refine Met.ofW (cc := cX8_meterOf) (maxL := 2) (ret := (some (.object "RopeDrums$Meter"))) (by decide) rfl ?_
  intro p e s m args below meth c s₁ B hml hv
  obtain ⟨rfl, hP, hK, hD⟩ := hv
  have hx := B.exec
  have hb := B.bytes
  have hr := B.returns
  have hts := atoms_spec (ws := wsX8_meterOf) B.pre
  have hown : s.vm.findClass RX8 = some m.cls := findClass_of_methodNamed B.named
  have hlocks := B.notSynchronized
  have hinX8 : ∀ w ∈ wsX80, w ∈ wsX8_meterOf := by decide +kernel
  have hS : va_S (fun _ => False) s.heap s.heap [] := va_S.rf
  obtain ⟨⟨⟨hmo, hFo⟩, ⟨hmf, hFf⟩, hms, hFs⟩, ⟨⟨hm0, hF0⟩, ⟨hm1, hF1⟩, ⟨hm2, hF2⟩, ⟨hm4, hF4⟩, hm5, hF5⟩, hRM, hRD, hRG, hRP, hRR, hRB, hRI⟩ := id hR
  have hl := lv_entry ([.ref o, .int x]) (n := 2) (Nat.le_of_ble_eq_true rfl)
  rw [lg_entry_eq]
  generalize (lg_sl ([.ref o, .int x]) ++ List.replicate (2 - (lg_sl ([.ref o, .int x])).length) Slot.unset).toArray = ls at hl ⊢
  have hl : lv_has ls 2 [(0, .ref o), (1, .int x)] := hl
  refine lv_iload_n hx hb dX8_meterOf_0 rfl (lv_at hl 1 rfl) ?_
  refine lv_if_lt (tgt := 19) hx hb dX8_meterOf_1 (by decide) (fun c1 => ?_) (fun c1 => ?_)
  · refine lv_null hx hb dX8_meterOf_19 ?_
    exact W.aret hx hb hr (Or.inl ⟨_, rfl⟩) (Or.inl rfl) (fun t ht hW => ⟨none, rfl, rfl, ht⟩) (fun q hq => absurd hq List.not_mem_nil) dX8_meterOf_20
  · refine lv_iload_n hx hb dX8_meterOf_4 rfl (lv_at hl 1 rfl) ?_
    refine lv_bipush (v := 10) hx hb dX8_meterOf_5 (by decide) ?_
    refine lv_icmp_ge (tgt := 19) hx hb dX8_meterOf_7 (by decide) (fun c2 => ?_) (fun c2 => ?_)
    · refine lv_null hx hb dX8_meterOf_19 ?_
      exact W.aret hx hb hr (Or.inl ⟨_, rfl⟩) (Or.inl rfl) (fun t ht hW => ⟨none, rfl, rfl, ht⟩) (fun q hq => absurd hq List.not_mem_nil) dX8_meterOf_20
    · exfalso
      have hc1 := c1
      have hc2 := c2
      have hq := ixn hi
      rw [fa_lt] at hc1
      rw [fa_le] at hc2
      have h8 : (0 : Int32).toInt = 0 := (by decide)
      have h7 : (10 : Int32).toInt = 10 := (by decide)
      omega

set_option maxHeartbeats 8000000 in
set_option maxRecDepth 100000 in
theorem c_drumOf (l : Launch) (G : va_G) (cy : Nat → ClassId) (L : List Nat) (F : Nat → va_E) (o : Nat) (qa : Nat → Nat → Nat) (Mm : SM) (Dd : SD) (Sl : SL) (Pp : SP) (Kr : SR) (Bk : SB) (Xx : SX) (hR : Rep cy L o qa Mm Dd Sl Pp Kr Bk Xx F) (j : Nat) (hj : j < 6)  : Met l yX8_drumOf wsX8_drumOf ({ frames := 0, cells := 0, slots := 0, locals := 0 }) (va_Pc [.ref o, .int (nI j)] (fun U => bP G cy L F U U.heap)) (va_Sq (fun r => r = some (qa 1 j))) 0 0 (fun _ => False) := by
  refine Met.ofW (cc := cX8_drumOf) (maxL := 2) (ret := (some (.object "RopeDrums$Drum"))) (by decide) rfl ?_
  intro p e s m args below meth c s₁ B hml hv
  obtain ⟨rfl, hP, hK, hD⟩ := hv
  have hx := B.exec
  have hb := B.bytes
  have hr := B.returns
  have hts := atoms_spec (ws := wsX8_drumOf) B.pre
  have hown : s.vm.findClass RX8 = some m.cls := findClass_of_methodNamed B.named
  have hlocks := B.notSynchronized
  have hinX8 : ∀ w ∈ wsX80, w ∈ wsX8_drumOf := by decide +kernel
  have hS : va_S (fun _ => False) s.heap s.heap [] := va_S.rf
  obtain ⟨⟨⟨hmo, hFo⟩, ⟨hmf, hFf⟩, hms, hFs⟩, ⟨⟨hm0, hF0⟩, ⟨hm1, hF1⟩, ⟨hm2, hF2⟩, ⟨hm4, hF4⟩, hm5, hF5⟩, hRM, hRD, hRG, hRP, hRR, hRB, hRI⟩ := id hR
  have hl := lv_entry ([.ref o, .int (nI j)]) (n := 2) (Nat.le_of_ble_eq_true rfl)
  rw [lg_entry_eq]
  generalize (lg_sl ([.ref o, .int (nI j)]) ++ List.replicate (2 - (lg_sl ([.ref o, .int (nI j)])).length) Slot.unset).toArray = ls at hl ⊢
  have hl : lv_has ls 2 [(0, .ref o), (1, .int (nI j))] := hl
  refine lv_iload_n hx hb dX8_drumOf_0 rfl (lv_at hl 1 rfl) ?_
  refine lv_if_lt (tgt := 19) hx hb dX8_drumOf_1 (by decide) (fun c1 => absurd c1 (fun q => by rw [fa_lt, nI_toInt (by omega)] at q; have h8 : (0 : Int32).toInt = 0 := (by decide); omega)) (fun c1 => ?_)
  refine lv_iload_n hx hb dX8_drumOf_4 rfl (lv_at hl 1 rfl) ?_
  refine lv_bipush (v := 6) hx hb dX8_drumOf_5 (by decide) ?_
  refine lv_icmp_ge (tgt := 19) hx hb dX8_drumOf_7 (by decide) (fun c2 => absurd c2 (fun q => by rw [fa_le, nI_toInt (by omega)] at q; have h7 : (6 : Int32).toInt = 6 := (by decide); omega)) (fun c2 => ?_)
  refine lv_aload_n hx hb dX8_drumOf_10 rfl (lv_at hl 0 rfl) ?_
  refine pg_get (ci := 7) (C := RX8) (T := TX8) (N := 9) hx hb hts hinX8 hown hK hP hmo hFo rfl 1 (by decide) (hts (.fieldLink RX8 17 "RopeDrums" "drums" "[LRopeDrums$Drum;") (by decide +kernel)) (fun _ h9 => h9) rfl dX8_drumOf_11 ?_
  refine lv_iload_n hx hb dX8_drumOf_14 rfl (lv_at hl 1 rfl) ?_
  refine pg_aldq hx hb hK hP 5 hm1 hF1 rfl (vp_in_nI hj (by decide)) dX8_drumOf_15 ?_
  rw [show (pR 6 (qa 1)) (nI j).toNatClampNeg = some (qa 1 j) from pR_at hj (by decide)]
  refine W.eq (g2 := F0 m 16 ls [.ref (qa 1 j)]) rfl ?_
  refine lv_goto (tgt := 20) hx hb dX8_drumOf_16 (by decide) ?_
  exact W.aret hx hb hr (Or.inl ⟨_, rfl⟩) (Or.inr ⟨_, rfl⟩) (fun t ht hW => ⟨some (qa 1 j), rfl, rfl, ht⟩) (fun q hq => absurd hq List.not_mem_nil) dX8_drumOf_20

set_option maxHeartbeats 8000000 in
set_option maxRecDepth 100000 in
theorem c_drumOf_no (l : Launch) (G : va_G) (cy : Nat → ClassId) (L : List Nat) (F : Nat → va_E) (o : Nat) (qa : Nat → Nat → Nat) (Mm : SM) (Dd : SD) (Sl : SL) (Pp : SP) (Kr : SR) (Bk : SB) (Xx : SX) (hR : Rep cy L o qa Mm Dd Sl Pp Kr Bk Xx F) (x : Int32) (hi : ix 6 x = none)  : Met l yX8_drumOf wsX8_drumOf ({ frames := 0, cells := 0, slots := 0, locals := 0 }) (va_Pc [.ref o, .int x] (fun U => bP G cy L F U U.heap)) (va_Sq (fun r => r = none)) 0 0 (fun _ => False) := by
  refine Met.ofW (cc := cX8_drumOf) (maxL := 2) (ret := (some (.object "RopeDrums$Drum"))) (by decide) rfl ?_
  intro p e s m args below meth c s₁ B hml hv
  obtain ⟨rfl, hP, hK, hD⟩ := hv
  have hx := B.exec
  have hb := B.bytes
  have hr := B.returns
  have hts := atoms_spec (ws := wsX8_drumOf) B.pre
  have hown : s.vm.findClass RX8 = some m.cls := findClass_of_methodNamed B.named
  have hlocks := B.notSynchronized
  have hinX8 : ∀ w ∈ wsX80, w ∈ wsX8_drumOf := by decide +kernel
  have hS : va_S (fun _ => False) s.heap s.heap [] := va_S.rf
  obtain ⟨⟨⟨hmo, hFo⟩, ⟨hmf, hFf⟩, hms, hFs⟩, ⟨⟨hm0, hF0⟩, ⟨hm1, hF1⟩, ⟨hm2, hF2⟩, ⟨hm4, hF4⟩, hm5, hF5⟩, hRM, hRD, hRG, hRP, hRR, hRB, hRI⟩ := id hR
  have hl := lv_entry ([.ref o, .int x]) (n := 2) (Nat.le_of_ble_eq_true rfl)
  rw [lg_entry_eq]
  generalize (lg_sl ([.ref o, .int x]) ++ List.replicate (2 - (lg_sl ([.ref o, .int x])).length) Slot.unset).toArray = ls at hl ⊢
  have hl : lv_has ls 2 [(0, .ref o), (1, .int x)] := hl
  refine lv_iload_n hx hb dX8_drumOf_0 rfl (lv_at hl 1 rfl) ?_
  refine lv_if_lt (tgt := 19) hx hb dX8_drumOf_1 (by decide) (fun c1 => ?_) (fun c1 => ?_)
  · refine lv_null hx hb dX8_drumOf_19 ?_
    exact W.aret hx hb hr (Or.inl ⟨_, rfl⟩) (Or.inl rfl) (fun t ht hW => ⟨none, rfl, rfl, ht⟩) (fun q hq => absurd hq List.not_mem_nil) dX8_drumOf_20
  · refine lv_iload_n hx hb dX8_drumOf_4 rfl (lv_at hl 1 rfl) ?_
    refine lv_bipush (v := 6) hx hb dX8_drumOf_5 (by decide) ?_
    refine lv_icmp_ge (tgt := 19) hx hb dX8_drumOf_7 (by decide) (fun c2 => ?_) (fun c2 => ?_)
    · refine lv_null hx hb dX8_drumOf_19 ?_
      exact W.aret hx hb hr (Or.inl ⟨_, rfl⟩) (Or.inl rfl) (fun t ht hW => ⟨none, rfl, rfl, ht⟩) (fun q hq => absurd hq List.not_mem_nil) dX8_drumOf_20
    · exfalso
      have hc1 := c1
      have hc2 := c2
      have hq := ixn hi
      rw [fa_lt] at hc1
      rw [fa_le] at hc2
      have h8 : (0 : Int32).toInt = 0 := (by decide)
      have h7 : (6 : Int32).toInt = 6 := (by decide)
      omega

set_option maxHeartbeats 8000000 in
set_option maxRecDepth 100000 in
theorem c_logOf (l : Launch) (G : va_G) (cy : Nat → ClassId) (L : List Nat) (F : Nat → va_E) (o : Nat) (qa : Nat → Nat → Nat) (Mm : SM) (Dd : SD) (Sl : SL) (Pp : SP) (Kr : SR) (Bk : SB) (Xx : SX) (hR : Rep cy L o qa Mm Dd Sl Pp Kr Bk Xx F) (j : Nat) (hj : j < 8)  : Met l yX8_logOf wsX8_logOf ({ frames := 0, cells := 0, slots := 0, locals := 0 }) (va_Pc [.ref o, .int (nI j)] (fun U => bP G cy L F U U.heap)) (va_Sq (fun r => r = some (qa 2 j))) 0 0 (fun _ => False) := by
  refine Met.ofW (cc := cX8_logOf) (maxL := 2) (ret := (some (.object "RopeDrums$Log"))) (by decide) rfl ?_
  intro p e s m args below meth c s₁ B hml hv
  obtain ⟨rfl, hP, hK, hD⟩ := hv
  have hx := B.exec
  have hb := B.bytes
  have hr := B.returns
  have hts := atoms_spec (ws := wsX8_logOf) B.pre
  have hown : s.vm.findClass RX8 = some m.cls := findClass_of_methodNamed B.named
  have hlocks := B.notSynchronized
  have hinX8 : ∀ w ∈ wsX80, w ∈ wsX8_logOf := by decide +kernel
  have hS : va_S (fun _ => False) s.heap s.heap [] := va_S.rf
  obtain ⟨⟨⟨hmo, hFo⟩, ⟨hmf, hFf⟩, hms, hFs⟩, ⟨⟨hm0, hF0⟩, ⟨hm1, hF1⟩, ⟨hm2, hF2⟩, ⟨hm4, hF4⟩, hm5, hF5⟩, hRM, hRD, hRG, hRP, hRR, hRB, hRI⟩ := id hR
  have hl := lv_entry ([.ref o, .int (nI j)]) (n := 2) (Nat.le_of_ble_eq_true rfl)
  rw [lg_entry_eq]
  generalize (lg_sl ([.ref o, .int (nI j)]) ++ List.replicate (2 - (lg_sl ([.ref o, .int (nI j)])).length) Slot.unset).toArray = ls at hl ⊢
  have hl : lv_has ls 2 [(0, .ref o), (1, .int (nI j))] := hl
  refine lv_iload_n hx hb dX8_logOf_0 rfl (lv_at hl 1 rfl) ?_
  refine lv_if_lt (tgt := 19) hx hb dX8_logOf_1 (by decide) (fun c1 => absurd c1 (fun q => by rw [fa_lt, nI_toInt (by omega)] at q; have h8 : (0 : Int32).toInt = 0 := (by decide); omega)) (fun c1 => ?_)
  refine lv_iload_n hx hb dX8_logOf_4 rfl (lv_at hl 1 rfl) ?_
  refine lv_bipush (v := 8) hx hb dX8_logOf_5 (by decide) ?_
  refine lv_icmp_ge (tgt := 19) hx hb dX8_logOf_7 (by decide) (fun c2 => absurd c2 (fun q => by rw [fa_le, nI_toInt (by omega)] at q; have h7 : (8 : Int32).toInt = 8 := (by decide); omega)) (fun c2 => ?_)
  refine lv_aload_n hx hb dX8_logOf_10 rfl (lv_at hl 0 rfl) ?_
  refine pg_get (ci := 7) (C := RX8) (T := TX8) (N := 9) hx hb hts hinX8 hown hK hP hmo hFo rfl 2 (by decide) (hts (.fieldLink RX8 23 "RopeDrums" "logs" "[LRopeDrums$Log;") (by decide +kernel)) (fun _ h9 => h9) rfl dX8_logOf_11 ?_
  refine lv_iload_n hx hb dX8_logOf_14 rfl (lv_at hl 1 rfl) ?_
  refine pg_aldq hx hb hK hP 6 hm2 hF2 rfl (vp_in_nI hj (by decide)) dX8_logOf_15 ?_
  rw [show (pR 8 (qa 2)) (nI j).toNatClampNeg = some (qa 2 j) from pR_at hj (by decide)]
  refine W.eq (g2 := F0 m 16 ls [.ref (qa 2 j)]) rfl ?_
  refine lv_goto (tgt := 20) hx hb dX8_logOf_16 (by decide) ?_
  exact W.aret hx hb hr (Or.inl ⟨_, rfl⟩) (Or.inr ⟨_, rfl⟩) (fun t ht hW => ⟨some (qa 2 j), rfl, rfl, ht⟩) (fun q hq => absurd hq List.not_mem_nil) dX8_logOf_20

set_option maxHeartbeats 8000000 in
set_option maxRecDepth 100000 in
theorem c_logOf_no (l : Launch) (G : va_G) (cy : Nat → ClassId) (L : List Nat) (F : Nat → va_E) (o : Nat) (qa : Nat → Nat → Nat) (Mm : SM) (Dd : SD) (Sl : SL) (Pp : SP) (Kr : SR) (Bk : SB) (Xx : SX) (hR : Rep cy L o qa Mm Dd Sl Pp Kr Bk Xx F) (x : Int32) (hi : ix 8 x = none)  : Met l yX8_logOf wsX8_logOf ({ frames := 0, cells := 0, slots := 0, locals := 0 }) (va_Pc [.ref o, .int x] (fun U => bP G cy L F U U.heap)) (va_Sq (fun r => r = none)) 0 0 (fun _ => False) := by
  refine Met.ofW (cc := cX8_logOf) (maxL := 2) (ret := (some (.object "RopeDrums$Log"))) (by decide) rfl ?_
  intro p e s m args below meth c s₁ B hml hv
  obtain ⟨rfl, hP, hK, hD⟩ := hv
  have hx := B.exec
  have hb := B.bytes
  have hr := B.returns
  have hts := atoms_spec (ws := wsX8_logOf) B.pre
  have hown : s.vm.findClass RX8 = some m.cls := findClass_of_methodNamed B.named
  have hlocks := B.notSynchronized
  have hinX8 : ∀ w ∈ wsX80, w ∈ wsX8_logOf := by decide +kernel
  have hS : va_S (fun _ => False) s.heap s.heap [] := va_S.rf
  obtain ⟨⟨⟨hmo, hFo⟩, ⟨hmf, hFf⟩, hms, hFs⟩, ⟨⟨hm0, hF0⟩, ⟨hm1, hF1⟩, ⟨hm2, hF2⟩, ⟨hm4, hF4⟩, hm5, hF5⟩, hRM, hRD, hRG, hRP, hRR, hRB, hRI⟩ := id hR
  have hl := lv_entry ([.ref o, .int x]) (n := 2) (Nat.le_of_ble_eq_true rfl)
  rw [lg_entry_eq]
  generalize (lg_sl ([.ref o, .int x]) ++ List.replicate (2 - (lg_sl ([.ref o, .int x])).length) Slot.unset).toArray = ls at hl ⊢
  have hl : lv_has ls 2 [(0, .ref o), (1, .int x)] := hl
  refine lv_iload_n hx hb dX8_logOf_0 rfl (lv_at hl 1 rfl) ?_
  refine lv_if_lt (tgt := 19) hx hb dX8_logOf_1 (by decide) (fun c1 => ?_) (fun c1 => ?_)
  · refine lv_null hx hb dX8_logOf_19 ?_
    exact W.aret hx hb hr (Or.inl ⟨_, rfl⟩) (Or.inl rfl) (fun t ht hW => ⟨none, rfl, rfl, ht⟩) (fun q hq => absurd hq List.not_mem_nil) dX8_logOf_20
  · refine lv_iload_n hx hb dX8_logOf_4 rfl (lv_at hl 1 rfl) ?_
    refine lv_bipush (v := 8) hx hb dX8_logOf_5 (by decide) ?_
    refine lv_icmp_ge (tgt := 19) hx hb dX8_logOf_7 (by decide) (fun c2 => ?_) (fun c2 => ?_)
    · refine lv_null hx hb dX8_logOf_19 ?_
      exact W.aret hx hb hr (Or.inl ⟨_, rfl⟩) (Or.inl rfl) (fun t ht hW => ⟨none, rfl, rfl, ht⟩) (fun q hq => absurd hq List.not_mem_nil) dX8_logOf_20
    · exfalso
      have hc1 := c1
      have hc2 := c2
      have hq := ixn hi
      rw [fa_lt] at hc1
      rw [fa_le] at hc2
      have h8 : (0 : Int32).toInt = 0 := (by decide)
      have h7 : (8 : Int32).toInt = 8 := (by decide)
      omega

set_option maxHeartbeats 8000000 in
set_option maxRecDepth 100000 in
theorem c_rackOf (l : Launch) (G : va_G) (cy : Nat → ClassId) (L : List Nat) (F : Nat → va_E) (o : Nat) (qa : Nat → Nat → Nat) (Mm : SM) (Dd : SD) (Sl : SL) (Pp : SP) (Kr : SR) (Bk : SB) (Xx : SX) (hR : Rep cy L o qa Mm Dd Sl Pp Kr Bk Xx F) (j : Nat) (hj : j < 5)  : Met l yX8_rackOf wsX8_rackOf ({ frames := 0, cells := 0, slots := 0, locals := 0 }) (va_Pc [.ref o, .int (nI j)] (fun U => bP G cy L F U U.heap)) (va_Sq (fun r => r = some (qa 4 j))) 0 0 (fun _ => False) := by
  refine Met.ofW (cc := cX8_rackOf) (maxL := 2) (ret := (some (.object "RopeDrums$Rack"))) (by decide) rfl ?_
  intro p e s m args below meth c s₁ B hml hv
  obtain ⟨rfl, hP, hK, hD⟩ := hv
  have hx := B.exec
  have hb := B.bytes
  have hr := B.returns
  have hts := atoms_spec (ws := wsX8_rackOf) B.pre
  have hown : s.vm.findClass RX8 = some m.cls := findClass_of_methodNamed B.named
  have hlocks := B.notSynchronized
  have hinX8 : ∀ w ∈ wsX80, w ∈ wsX8_rackOf := by decide +kernel
  have hS : va_S (fun _ => False) s.heap s.heap [] := va_S.rf
  obtain ⟨⟨⟨hmo, hFo⟩, ⟨hmf, hFf⟩, hms, hFs⟩, ⟨⟨hm0, hF0⟩, ⟨hm1, hF1⟩, ⟨hm2, hF2⟩, ⟨hm4, hF4⟩, hm5, hF5⟩, hRM, hRD, hRG, hRP, hRR, hRB, hRI⟩ := id hR
  have hl := lv_entry ([.ref o, .int (nI j)]) (n := 2) (Nat.le_of_ble_eq_true rfl)
  rw [lg_entry_eq]
  generalize (lg_sl ([.ref o, .int (nI j)]) ++ List.replicate (2 - (lg_sl ([.ref o, .int (nI j)])).length) Slot.unset).toArray = ls at hl ⊢
  have hl : lv_has ls 2 [(0, .ref o), (1, .int (nI j))] := hl
  refine lv_iload_n hx hb dX8_rackOf_0 rfl (lv_at hl 1 rfl) ?_
  refine lv_if_lt (tgt := 18) hx hb dX8_rackOf_1 (by decide) (fun c1 => absurd c1 (fun q => by rw [fa_lt, nI_toInt (by omega)] at q; have h8 : (0 : Int32).toInt = 0 := (by decide); omega)) (fun c1 => ?_)
  refine lv_iload_n hx hb dX8_rackOf_4 rfl (lv_at hl 1 rfl) ?_
  refine lv_iconst (v := 5) hx hb dX8_rackOf_5 (by decide) ?_
  refine lv_icmp_ge (tgt := 18) hx hb dX8_rackOf_6 (by decide) (fun c2 => absurd c2 (fun q => by rw [fa_le, nI_toInt (by omega)] at q; have h7 : (5 : Int32).toInt = 5 := (by decide); omega)) (fun c2 => ?_)
  refine lv_aload_n hx hb dX8_rackOf_9 rfl (lv_at hl 0 rfl) ?_
  refine pg_get (ci := 7) (C := RX8) (T := TX8) (N := 9) hx hb hts hinX8 hown hK hP hmo hFo rfl 4 (by decide) (hts (.fieldLink RX8 35 "RopeDrums" "racks" "[LRopeDrums$Rack;") (by decide +kernel)) (fun _ h9 => h9) rfl dX8_rackOf_10 ?_
  refine lv_iload_n hx hb dX8_rackOf_13 rfl (lv_at hl 1 rfl) ?_
  refine pg_aldq hx hb hK hP 8 hm4 hF4 rfl (vp_in_nI hj (by decide)) dX8_rackOf_14 ?_
  rw [show (pR 5 (qa 4)) (nI j).toNatClampNeg = some (qa 4 j) from pR_at hj (by decide)]
  refine W.eq (g2 := F0 m 15 ls [.ref (qa 4 j)]) rfl ?_
  refine lv_goto (tgt := 19) hx hb dX8_rackOf_15 (by decide) ?_
  exact W.aret hx hb hr (Or.inl ⟨_, rfl⟩) (Or.inr ⟨_, rfl⟩) (fun t ht hW => ⟨some (qa 4 j), rfl, rfl, ht⟩) (fun q hq => absurd hq List.not_mem_nil) dX8_rackOf_19

set_option maxHeartbeats 8000000 in
set_option maxRecDepth 100000 in
theorem c_rackOf_no (l : Launch) (G : va_G) (cy : Nat → ClassId) (L : List Nat) (F : Nat → va_E) (o : Nat) (qa : Nat → Nat → Nat) (Mm : SM) (Dd : SD) (Sl : SL) (Pp : SP) (Kr : SR) (Bk : SB) (Xx : SX) (hR : Rep cy L o qa Mm Dd Sl Pp Kr Bk Xx F) (x : Int32) (hi : ix 5 x = none)  : Met l yX8_rackOf wsX8_rackOf ({ frames := 0, cells := 0, slots := 0, locals := 0 }) (va_Pc [.ref o, .int x] (fun U => bP G cy L F U U.heap)) (va_Sq (fun r => r = none)) 0 0 (fun _ => False) := by
  refine Met.ofW (cc := cX8_rackOf) (maxL := 2) (ret := (some (.object "RopeDrums$Rack"))) (by decide) rfl ?_
  intro p e s m args below meth c s₁ B hml hv
  obtain ⟨rfl, hP, hK, hD⟩ := hv
  have hx := B.exec
  have hb := B.bytes
  have hr := B.returns
  have hts := atoms_spec (ws := wsX8_rackOf) B.pre
  have hown : s.vm.findClass RX8 = some m.cls := findClass_of_methodNamed B.named
  have hlocks := B.notSynchronized
  have hinX8 : ∀ w ∈ wsX80, w ∈ wsX8_rackOf := by decide +kernel
  have hS : va_S (fun _ => False) s.heap s.heap [] := va_S.rf
  obtain ⟨⟨⟨hmo, hFo⟩, ⟨hmf, hFf⟩, hms, hFs⟩, ⟨⟨hm0, hF0⟩, ⟨hm1, hF1⟩, ⟨hm2, hF2⟩, ⟨hm4, hF4⟩, hm5, hF5⟩, hRM, hRD, hRG, hRP, hRR, hRB, hRI⟩ := id hR
  have hl := lv_entry ([.ref o, .int x]) (n := 2) (Nat.le_of_ble_eq_true rfl)
  rw [lg_entry_eq]
  generalize (lg_sl ([.ref o, .int x]) ++ List.replicate (2 - (lg_sl ([.ref o, .int x])).length) Slot.unset).toArray = ls at hl ⊢
  have hl : lv_has ls 2 [(0, .ref o), (1, .int x)] := hl
  refine lv_iload_n hx hb dX8_rackOf_0 rfl (lv_at hl 1 rfl) ?_
  refine lv_if_lt (tgt := 18) hx hb dX8_rackOf_1 (by decide) (fun c1 => ?_) (fun c1 => ?_)
  · refine lv_null hx hb dX8_rackOf_18 ?_
    exact W.aret hx hb hr (Or.inl ⟨_, rfl⟩) (Or.inl rfl) (fun t ht hW => ⟨none, rfl, rfl, ht⟩) (fun q hq => absurd hq List.not_mem_nil) dX8_rackOf_19
  · refine lv_iload_n hx hb dX8_rackOf_4 rfl (lv_at hl 1 rfl) ?_
    refine lv_iconst (v := 5) hx hb dX8_rackOf_5 (by decide) ?_
    refine lv_icmp_ge (tgt := 18) hx hb dX8_rackOf_6 (by decide) (fun c2 => ?_) (fun c2 => ?_)
    · refine lv_null hx hb dX8_rackOf_18 ?_
      exact W.aret hx hb hr (Or.inl ⟨_, rfl⟩) (Or.inl rfl) (fun t ht hW => ⟨none, rfl, rfl, ht⟩) (fun q hq => absurd hq List.not_mem_nil) dX8_rackOf_19
    · exfalso
      have hc1 := c1
      have hc2 := c2
      have hq := ixn hi
      rw [fa_lt] at hc1
      rw [fa_le] at hc2
      have h8 : (0 : Int32).toInt = 0 := (by decide)
      have h7 : (5 : Int32).toInt = 5 := (by decide)
      omega

set_option maxHeartbeats 8000000 in
set_option maxRecDepth 100000 in
theorem c_brakeOf (l : Launch) (G : va_G) (cy : Nat → ClassId) (L : List Nat) (F : Nat → va_E) (o : Nat) (qa : Nat → Nat → Nat) (Mm : SM) (Dd : SD) (Sl : SL) (Pp : SP) (Kr : SR) (Bk : SB) (Xx : SX) (hR : Rep cy L o qa Mm Dd Sl Pp Kr Bk Xx F) (j : Nat) (hj : j < 4)  : Met l yX8_brakeOf wsX8_brakeOf ({ frames := 0, cells := 0, slots := 0, locals := 0 }) (va_Pc [.ref o, .int (nI j)] (fun U => bP G cy L F U U.heap)) (va_Sq (fun r => r = some (qa 6 j))) 0 0 (fun _ => False) := by
  refine Met.ofW (cc := cX8_brakeOf) (maxL := 2) (ret := (some (.object "RopeDrums$Brake"))) (by decide) rfl ?_
  intro p e s m args below meth c s₁ B hml hv
  obtain ⟨rfl, hP, hK, hD⟩ := hv
  have hx := B.exec
  have hb := B.bytes
  have hr := B.returns
  have hts := atoms_spec (ws := wsX8_brakeOf) B.pre
  have hown : s.vm.findClass RX8 = some m.cls := findClass_of_methodNamed B.named
  have hlocks := B.notSynchronized
  have hinX8 : ∀ w ∈ wsX80, w ∈ wsX8_brakeOf := by decide +kernel
  have hS : va_S (fun _ => False) s.heap s.heap [] := va_S.rf
  obtain ⟨⟨⟨hmo, hFo⟩, ⟨hmf, hFf⟩, hms, hFs⟩, ⟨⟨hm0, hF0⟩, ⟨hm1, hF1⟩, ⟨hm2, hF2⟩, ⟨hm4, hF4⟩, hm5, hF5⟩, hRM, hRD, hRG, hRP, hRR, hRB, hRI⟩ := id hR
  have hl := lv_entry ([.ref o, .int (nI j)]) (n := 2) (Nat.le_of_ble_eq_true rfl)
  rw [lg_entry_eq]
  generalize (lg_sl ([.ref o, .int (nI j)]) ++ List.replicate (2 - (lg_sl ([.ref o, .int (nI j)])).length) Slot.unset).toArray = ls at hl ⊢
  have hl : lv_has ls 2 [(0, .ref o), (1, .int (nI j))] := hl
  refine lv_iload_n hx hb dX8_brakeOf_0 rfl (lv_at hl 1 rfl) ?_
  refine lv_if_lt (tgt := 18) hx hb dX8_brakeOf_1 (by decide) (fun c1 => absurd c1 (fun q => by rw [fa_lt, nI_toInt (by omega)] at q; have h8 : (0 : Int32).toInt = 0 := (by decide); omega)) (fun c1 => ?_)
  refine lv_iload_n hx hb dX8_brakeOf_4 rfl (lv_at hl 1 rfl) ?_
  refine lv_iconst (v := 4) hx hb dX8_brakeOf_5 (by decide) ?_
  refine lv_icmp_ge (tgt := 18) hx hb dX8_brakeOf_6 (by decide) (fun c2 => absurd c2 (fun q => by rw [fa_le, nI_toInt (by omega)] at q; have h7 : (4 : Int32).toInt = 4 := (by decide); omega)) (fun c2 => ?_)
  refine lv_aload_n hx hb dX8_brakeOf_9 rfl (lv_at hl 0 rfl) ?_
  refine pg_get (ci := 7) (C := RX8) (T := TX8) (N := 9) hx hb hts hinX8 hown hK hP hmo hFo rfl 5 (by decide) (hts (.fieldLink RX8 41 "RopeDrums" "brakes" "[LRopeDrums$Brake;") (by decide +kernel)) (fun _ h9 => h9) rfl dX8_brakeOf_10 ?_
  refine lv_iload_n hx hb dX8_brakeOf_13 rfl (lv_at hl 1 rfl) ?_
  refine pg_aldq hx hb hK hP 4 hm5 hF5 rfl (vp_in_nI hj (by decide)) dX8_brakeOf_14 ?_
  rw [show (pR 4 (qa 6)) (nI j).toNatClampNeg = some (qa 6 j) from pR_at hj (by decide)]
  refine W.eq (g2 := F0 m 15 ls [.ref (qa 6 j)]) rfl ?_
  refine lv_goto (tgt := 19) hx hb dX8_brakeOf_15 (by decide) ?_
  exact W.aret hx hb hr (Or.inl ⟨_, rfl⟩) (Or.inr ⟨_, rfl⟩) (fun t ht hW => ⟨some (qa 6 j), rfl, rfl, ht⟩) (fun q hq => absurd hq List.not_mem_nil) dX8_brakeOf_19

set_option maxHeartbeats 8000000 in
set_option maxRecDepth 100000 in
theorem c_brakeOf_no (l : Launch) (G : va_G) (cy : Nat → ClassId) (L : List Nat) (F : Nat → va_E) (o : Nat) (qa : Nat → Nat → Nat) (Mm : SM) (Dd : SD) (Sl : SL) (Pp : SP) (Kr : SR) (Bk : SB) (Xx : SX) (hR : Rep cy L o qa Mm Dd Sl Pp Kr Bk Xx F) (x : Int32) (hi : ix 4 x = none)  : Met l yX8_brakeOf wsX8_brakeOf ({ frames := 0, cells := 0, slots := 0, locals := 0 }) (va_Pc [.ref o, .int x] (fun U => bP G cy L F U U.heap)) (va_Sq (fun r => r = none)) 0 0 (fun _ => False) := by
  refine Met.ofW (cc := cX8_brakeOf) (maxL := 2) (ret := (some (.object "RopeDrums$Brake"))) (by decide) rfl ?_
  intro p e s m args below meth c s₁ B hml hv
  obtain ⟨rfl, hP, hK, hD⟩ := hv
  have hx := B.exec
  have hb := B.bytes
  have hr := B.returns
  have hts := atoms_spec (ws := wsX8_brakeOf) B.pre
  have hown : s.vm.findClass RX8 = some m.cls := findClass_of_methodNamed B.named
  have hlocks := B.notSynchronized
  have hinX8 : ∀ w ∈ wsX80, w ∈ wsX8_brakeOf := by decide +kernel
  have hS : va_S (fun _ => False) s.heap s.heap [] := va_S.rf
  obtain ⟨⟨⟨hmo, hFo⟩, ⟨hmf, hFf⟩, hms, hFs⟩, ⟨⟨hm0, hF0⟩, ⟨hm1, hF1⟩, ⟨hm2, hF2⟩, ⟨hm4, hF4⟩, hm5, hF5⟩, hRM, hRD, hRG, hRP, hRR, hRB, hRI⟩ := id hR
  have hl := lv_entry ([.ref o, .int x]) (n := 2) (Nat.le_of_ble_eq_true rfl)
  rw [lg_entry_eq]
  generalize (lg_sl ([.ref o, .int x]) ++ List.replicate (2 - (lg_sl ([.ref o, .int x])).length) Slot.unset).toArray = ls at hl ⊢
  have hl : lv_has ls 2 [(0, .ref o), (1, .int x)] := hl
  refine lv_iload_n hx hb dX8_brakeOf_0 rfl (lv_at hl 1 rfl) ?_
  refine lv_if_lt (tgt := 18) hx hb dX8_brakeOf_1 (by decide) (fun c1 => ?_) (fun c1 => ?_)
  · refine lv_null hx hb dX8_brakeOf_18 ?_
    exact W.aret hx hb hr (Or.inl ⟨_, rfl⟩) (Or.inl rfl) (fun t ht hW => ⟨none, rfl, rfl, ht⟩) (fun q hq => absurd hq List.not_mem_nil) dX8_brakeOf_19
  · refine lv_iload_n hx hb dX8_brakeOf_4 rfl (lv_at hl 1 rfl) ?_
    refine lv_iconst (v := 4) hx hb dX8_brakeOf_5 (by decide) ?_
    refine lv_icmp_ge (tgt := 18) hx hb dX8_brakeOf_6 (by decide) (fun c2 => ?_) (fun c2 => ?_)
    · refine lv_null hx hb dX8_brakeOf_18 ?_
      exact W.aret hx hb hr (Or.inl ⟨_, rfl⟩) (Or.inl rfl) (fun t ht hW => ⟨none, rfl, rfl, ht⟩) (fun q hq => absurd hq List.not_mem_nil) dX8_brakeOf_19
    · exfalso
      have hc1 := c1
      have hc2 := c2
      have hq := ixn hi
      rw [fa_lt] at hc1
      rw [fa_le] at hc2
      have h8 : (0 : Int32).toInt = 0 := (by decide)
      have h7 : (4 : Int32).toInt = 4 := (by decide)
      omega

set_option maxHeartbeats 8000000 in
set_option maxRecDepth 100000 in
theorem c_fail_1 (l : Launch) (G : va_G) (cy : Nat → ClassId) (L : List Nat) (F : Nat → va_E) (sz : Nat) (o : Nat) (qa : Nat → Nat → Nat) (Mm : SM) (Dd : SD) (Sl : SL) (Pp : SP) (Kr : SR) (Bk : SB) (Xx : SX) (hR : Rep cy L o qa Mm Dd Sl Pp Kr Bk Xx F)  : Met l yX8_fail wsX8_fail ({ frames := 0, cells := 0, slots := 0, locals := 0 }) (va_Pc [.ref o, .int 1] (fun U => bQ G cy L F sz U U.heap)) (va_Qi (fun (r : Int32) (F' : Nat → va_E) => r = -10 - 1 ∧ Rep cy L o qa Mm Dd Sl Pp Kr Bk (1, upd Xx.2 1 (Xx.2 1 + 1)) F') (fun F' t => va_P G vwCl (va_pl L F') t.heap) (va_A (va_pl L F) sz)) 0 0 (va_A (va_pl L F) sz) := by
  refine Met.ofW (cc := cX8_fail) (maxL := 2) (ret := (some .int)) (by decide) rfl ?_
  intro p e s m args below meth c s₁ B hml hv
  obtain ⟨rfl, hsz, hP, hK, hD0⟩ := hv
  have hx := B.exec
  have hb := B.bytes
  have hr := B.returns
  have hts := atoms_spec (ws := wsX8_fail) B.pre
  have hown : s.vm.findClass RX8 = some m.cls := findClass_of_methodNamed B.named
  have hlocks := B.notSynchronized
  have hinX8 : ∀ w ∈ wsX80, w ∈ wsX8_fail := by decide +kernel
  subst hsz
  have hD := hD0.self F s.heap.size
  generalize hAe : va_A (va_pl L F) s.heap.size = A at hD ⊢
  have hA : ∀ q : Nat, s.heap.size ≤ q → A q := fun q h => by rw [← hAe]; exact Or.inr h
  have hS : va_S A s.heap s.heap [] := va_S.rf
  obtain ⟨⟨⟨hmo, hFo⟩, ⟨hmf, hFf⟩, hms, hFs⟩, ⟨⟨hm0, hF0⟩, ⟨hm1, hF1⟩, ⟨hm2, hF2⟩, ⟨hm4, hF4⟩, hm5, hF5⟩, hRM, hRD, hRG, hRP, hRR, hRB, hRI⟩ := id hR
  have hl := lv_entry ([.ref o, .int 1]) (n := 2) (Nat.le_of_ble_eq_true rfl)
  rw [lg_entry_eq]
  generalize (lg_sl ([.ref o, .int 1]) ++ List.replicate (2 - (lg_sl ([.ref o, .int 1])).length) Slot.unset).toArray = ls at hl ⊢
  have hl : lv_has ls 2 [(0, .ref o), (1, .int 1)] := hl
  refine lv_aload_n hx hb dX8_fail_0 rfl (lv_at hl 0 rfl) ?_
  refine pg_get (ci := 7) (C := RX8) (T := TX8) (N := 9) hx hb hts hinX8 hown hK hP hmo hFo rfl 6 (by decide) (hts (.fieldLink RX8 45 "RopeDrums" "failures" "[I") (by decide +kernel)) (fun _ h9 => h9) rfl dX8_fail_1 ?_
  refine lv_iload_n hx hb dX8_fail_4 rfl (lv_at hl 1 rfl) ?_
  refine lv_dup2_11 hx hb dX8_fail_5 rfl rfl ?_
  refine pg_iald hx hb hK hP 1 hmf hFf rfl (vp_in_nI (n := 1) (N := 6) (by decide) (by decide)) dX8_fail_6 ?_
  refine lv_topi (fun v1 ev1 => ?_)
  refine lv_iconst (v := 1) hx hb dX8_fail_7 (by decide) ?_
  refine lv_iadd hx hb dX8_fail_8 ?_
  refine lv_topi (fun v2 ev2 => ?_)
  refine pg_iast hx hb hK hP hD hS 1 hmf hFf rfl (vp_in_nI (n := 1) (N := 6) (by decide) (by decide)) dX8_fail_9 (fun H locs F3 eF3 hP hS => ?_)
  have hFo_3 : F3 o = .inr (7, [.ref (qa 8 0), .ref (qa 8 1), .ref (qa 8 2), .ref (qa 8 3), .ref (qa 8 4), .ref (qa 8 5), .ref (qa 8 6), .int Pp.1, .int Xx.1]) := by rw [eF3, va_up_ne _ _ (pl_ne hFo hFf rfl)]; exact hFo
  have hFqa80_3 : F3 (qa 8 0) = cQ (cy 7) 10 (pR 10 (qa 0)) := by rw [eF3, va_up_ne _ _ (pl_ne hF0 hFf rfl)]; exact hF0
  have hFqa81_3 : F3 (qa 8 1) = cQ (cy 5) 6 (pR 6 (qa 1)) := by rw [eF3, va_up_ne _ _ (pl_ne hF1 hFf rfl)]; exact hF1
  have hFqa82_3 : F3 (qa 8 2) = cQ (cy 6) 8 (pR 8 (qa 2)) := by rw [eF3, va_up_ne _ _ (pl_ne hF2 hFf rfl)]; exact hF2
  have hFqa83_3 : F3 (qa 8 3) = cQ (cy 9) 30 (pR Pp.1.toInt.toNat (qa 7)) := by rw [eF3, va_up_ne _ _ (pl_ne hFs hFf rfl)]; exact hFs
  have hFqa84_3 : F3 (qa 8 4) = cQ (cy 8) 5 (pR 5 (qa 4)) := by rw [eF3, va_up_ne _ _ (pl_ne hF4 hFf rfl)]; exact hF4
  have hFqa85_3 : F3 (qa 8 5) = cQ (cy 4) 4 (pR 4 (qa 6)) := by rw [eF3, va_up_ne _ _ (pl_ne hF5 hFf rfl)]; exact hF5
  have hFqa86_3 : F3 (qa 8 6) = cI (cy 1) 6 (upd Xx.2 (1 : Int32).toNatClampNeg v2) := by rw [eF3]; exact va_up_self _ _ _
  refine lv_aload_n hx hb dX8_fail_10 rfl (lv_at hl 0 rfl) ?_
  refine lv_iload_n hx hb dX8_fail_11 rfl (lv_at hl 1 rfl) ?_
  refine pg_put (ci := 7) (v := .int 1) (ty := .int) (C := RX8) (T := TX8) (N := 9) hx hb hts hinX8 tyX8 tyX8_ok nmX8 hown hK hP hD hS hmo hFo_3 rfl 8 (by decide) (hts (.fieldLink RX8 53 "RopeDrums" "latestFailure" "I") (by decide +kernel)) (fun _ h9 => h9) rfl (by decide +kernel) (rfl) (rfl) (Nat.le_of_ble_eq_true rfl) dX8_fail_12 (fun H locs F4 eF4 hP hS => ?_)
  have eF4 : F4 = va_up F3 o (.inr (7, [.ref (qa 8 0), .ref (qa 8 1), .ref (qa 8 2), .ref (qa 8 3), .ref (qa 8 4), .ref (qa 8 5), .ref (qa 8 6), .int Pp.1, .int 1])) := eF4
  have hFo_4 : F4 o = .inr (7, [.ref (qa 8 0), .ref (qa 8 1), .ref (qa 8 2), .ref (qa 8 3), .ref (qa 8 4), .ref (qa 8 5), .ref (qa 8 6), .int Pp.1, .int 1]) := by rw [eF4]; exact va_up_self _ _ _
  have hFqa80_4 : F4 (qa 8 0) = cQ (cy 7) 10 (pR 10 (qa 0)) := by rw [eF4, va_up_ne _ _ (pl_ne hFqa80_3 hFo_3 rfl)]; exact hFqa80_3
  have hFqa81_4 : F4 (qa 8 1) = cQ (cy 5) 6 (pR 6 (qa 1)) := by rw [eF4, va_up_ne _ _ (pl_ne hFqa81_3 hFo_3 rfl)]; exact hFqa81_3
  have hFqa82_4 : F4 (qa 8 2) = cQ (cy 6) 8 (pR 8 (qa 2)) := by rw [eF4, va_up_ne _ _ (pl_ne hFqa82_3 hFo_3 rfl)]; exact hFqa82_3
  have hFqa83_4 : F4 (qa 8 3) = cQ (cy 9) 30 (pR Pp.1.toInt.toNat (qa 7)) := by rw [eF4, va_up_ne _ _ (pl_ne hFqa83_3 hFo_3 rfl)]; exact hFqa83_3
  have hFqa84_4 : F4 (qa 8 4) = cQ (cy 8) 5 (pR 5 (qa 4)) := by rw [eF4, va_up_ne _ _ (pl_ne hFqa84_3 hFo_3 rfl)]; exact hFqa84_3
  have hFqa85_4 : F4 (qa 8 5) = cQ (cy 4) 4 (pR 4 (qa 6)) := by rw [eF4, va_up_ne _ _ (pl_ne hFqa85_3 hFo_3 rfl)]; exact hFqa85_3
  have hFqa86_4 : F4 (qa 8 6) = cI (cy 1) 6 (upd Xx.2 (1 : Int32).toNatClampNeg v2) := by rw [eF4, va_up_ne _ _ (pl_ne hFqa86_3 hFo_3 rfl)]; exact hFqa86_3
  refine lv_bipush (v := -10) hx hb dX8_fail_15 (by decide) ?_
  refine lv_iload_n hx hb dX8_fail_17 rfl (lv_at hl 1 rfl) ?_
  refine lv_isub hx hb dX8_fail_18 ?_
  refine lv_topi (fun v5 ev5 => ?_)
  exact W.iret (v := v5) hx hb hr (fun t ht hW => ⟨⟨v5, F4, rfl, ⟨by subst ev5 ev2 ev1; rfl, by subst ev5 ev2 ev1; rw [eF4, eF3]; exact hR.fails (x := 1) (f := upd Xx.2 1 (Xx.2 1 + 1))⟩, (by show va_P _ _ _ t.heap; rw [ht]; exact hP)⟩, hS.F ht⟩) hS.2.2 dX8_fail_19

set_option maxHeartbeats 8000000 in
set_option maxRecDepth 100000 in
theorem c_fail_2 (l : Launch) (G : va_G) (cy : Nat → ClassId) (L : List Nat) (F : Nat → va_E) (sz : Nat) (o : Nat) (qa : Nat → Nat → Nat) (Mm : SM) (Dd : SD) (Sl : SL) (Pp : SP) (Kr : SR) (Bk : SB) (Xx : SX) (hR : Rep cy L o qa Mm Dd Sl Pp Kr Bk Xx F)  : Met l yX8_fail wsX8_fail ({ frames := 0, cells := 0, slots := 0, locals := 0 }) (va_Pc [.ref o, .int 2] (fun U => bQ G cy L F sz U U.heap)) (va_Qi (fun (r : Int32) (F' : Nat → va_E) => r = -10 - 2 ∧ Rep cy L o qa Mm Dd Sl Pp Kr Bk (2, upd Xx.2 2 (Xx.2 2 + 1)) F') (fun F' t => va_P G vwCl (va_pl L F') t.heap) (va_A (va_pl L F) sz)) 0 0 (va_A (va_pl L F) sz) := by
  refine Met.ofW (cc := cX8_fail) (maxL := 2) (ret := (some .int)) (by decide) rfl ?_
  intro p e s m args below meth c s₁ B hml hv
  obtain ⟨rfl, hsz, hP, hK, hD0⟩ := hv
  have hx := B.exec
  have hb := B.bytes
  have hr := B.returns
  have hts := atoms_spec (ws := wsX8_fail) B.pre
  have hown : s.vm.findClass RX8 = some m.cls := findClass_of_methodNamed B.named
  have hlocks := B.notSynchronized
  have hinX8 : ∀ w ∈ wsX80, w ∈ wsX8_fail := by decide +kernel
  subst hsz
  have hD := hD0.self F s.heap.size
  generalize hAe : va_A (va_pl L F) s.heap.size = A at hD ⊢
  have hA : ∀ q : Nat, s.heap.size ≤ q → A q := fun q h => by rw [← hAe]; exact Or.inr h
  have hS : va_S A s.heap s.heap [] := va_S.rf
  obtain ⟨⟨⟨hmo, hFo⟩, ⟨hmf, hFf⟩, hms, hFs⟩, ⟨⟨hm0, hF0⟩, ⟨hm1, hF1⟩, ⟨hm2, hF2⟩, ⟨hm4, hF4⟩, hm5, hF5⟩, hRM, hRD, hRG, hRP, hRR, hRB, hRI⟩ := id hR
  have hl := lv_entry ([.ref o, .int 2]) (n := 2) (Nat.le_of_ble_eq_true rfl)
  rw [lg_entry_eq]
  generalize (lg_sl ([.ref o, .int 2]) ++ List.replicate (2 - (lg_sl ([.ref o, .int 2])).length) Slot.unset).toArray = ls at hl ⊢
  have hl : lv_has ls 2 [(0, .ref o), (1, .int 2)] := hl
  refine lv_aload_n hx hb dX8_fail_0 rfl (lv_at hl 0 rfl) ?_
  refine pg_get (ci := 7) (C := RX8) (T := TX8) (N := 9) hx hb hts hinX8 hown hK hP hmo hFo rfl 6 (by decide) (hts (.fieldLink RX8 45 "RopeDrums" "failures" "[I") (by decide +kernel)) (fun _ h9 => h9) rfl dX8_fail_1 ?_
  refine lv_iload_n hx hb dX8_fail_4 rfl (lv_at hl 1 rfl) ?_
  refine lv_dup2_11 hx hb dX8_fail_5 rfl rfl ?_
  refine pg_iald hx hb hK hP 1 hmf hFf rfl (vp_in_nI (n := 2) (N := 6) (by decide) (by decide)) dX8_fail_6 ?_
  refine lv_topi (fun v1 ev1 => ?_)
  refine lv_iconst (v := 1) hx hb dX8_fail_7 (by decide) ?_
  refine lv_iadd hx hb dX8_fail_8 ?_
  refine lv_topi (fun v2 ev2 => ?_)
  refine pg_iast hx hb hK hP hD hS 1 hmf hFf rfl (vp_in_nI (n := 2) (N := 6) (by decide) (by decide)) dX8_fail_9 (fun H locs F3 eF3 hP hS => ?_)
  have hFo_3 : F3 o = .inr (7, [.ref (qa 8 0), .ref (qa 8 1), .ref (qa 8 2), .ref (qa 8 3), .ref (qa 8 4), .ref (qa 8 5), .ref (qa 8 6), .int Pp.1, .int Xx.1]) := by rw [eF3, va_up_ne _ _ (pl_ne hFo hFf rfl)]; exact hFo
  have hFqa80_3 : F3 (qa 8 0) = cQ (cy 7) 10 (pR 10 (qa 0)) := by rw [eF3, va_up_ne _ _ (pl_ne hF0 hFf rfl)]; exact hF0
  have hFqa81_3 : F3 (qa 8 1) = cQ (cy 5) 6 (pR 6 (qa 1)) := by rw [eF3, va_up_ne _ _ (pl_ne hF1 hFf rfl)]; exact hF1
  have hFqa82_3 : F3 (qa 8 2) = cQ (cy 6) 8 (pR 8 (qa 2)) := by rw [eF3, va_up_ne _ _ (pl_ne hF2 hFf rfl)]; exact hF2
  have hFqa83_3 : F3 (qa 8 3) = cQ (cy 9) 30 (pR Pp.1.toInt.toNat (qa 7)) := by rw [eF3, va_up_ne _ _ (pl_ne hFs hFf rfl)]; exact hFs
  have hFqa84_3 : F3 (qa 8 4) = cQ (cy 8) 5 (pR 5 (qa 4)) := by rw [eF3, va_up_ne _ _ (pl_ne hF4 hFf rfl)]; exact hF4
  have hFqa85_3 : F3 (qa 8 5) = cQ (cy 4) 4 (pR 4 (qa 6)) := by rw [eF3, va_up_ne _ _ (pl_ne hF5 hFf rfl)]; exact hF5
  have hFqa86_3 : F3 (qa 8 6) = cI (cy 1) 6 (upd Xx.2 (2 : Int32).toNatClampNeg v2) := by rw [eF3]; exact va_up_self _ _ _
  refine lv_aload_n hx hb dX8_fail_10 rfl (lv_at hl 0 rfl) ?_
  refine lv_iload_n hx hb dX8_fail_11 rfl (lv_at hl 1 rfl) ?_
  refine pg_put (ci := 7) (v := .int 2) (ty := .int) (C := RX8) (T := TX8) (N := 9) hx hb hts hinX8 tyX8 tyX8_ok nmX8 hown hK hP hD hS hmo hFo_3 rfl 8 (by decide) (hts (.fieldLink RX8 53 "RopeDrums" "latestFailure" "I") (by decide +kernel)) (fun _ h9 => h9) rfl (by decide +kernel) (rfl) (rfl) (Nat.le_of_ble_eq_true rfl) dX8_fail_12 (fun H locs F4 eF4 hP hS => ?_)
  have eF4 : F4 = va_up F3 o (.inr (7, [.ref (qa 8 0), .ref (qa 8 1), .ref (qa 8 2), .ref (qa 8 3), .ref (qa 8 4), .ref (qa 8 5), .ref (qa 8 6), .int Pp.1, .int 2])) := eF4
  have hFo_4 : F4 o = .inr (7, [.ref (qa 8 0), .ref (qa 8 1), .ref (qa 8 2), .ref (qa 8 3), .ref (qa 8 4), .ref (qa 8 5), .ref (qa 8 6), .int Pp.1, .int 2]) := by rw [eF4]; exact va_up_self _ _ _
  have hFqa80_4 : F4 (qa 8 0) = cQ (cy 7) 10 (pR 10 (qa 0)) := by rw [eF4, va_up_ne _ _ (pl_ne hFqa80_3 hFo_3 rfl)]; exact hFqa80_3
  have hFqa81_4 : F4 (qa 8 1) = cQ (cy 5) 6 (pR 6 (qa 1)) := by rw [eF4, va_up_ne _ _ (pl_ne hFqa81_3 hFo_3 rfl)]; exact hFqa81_3
  have hFqa82_4 : F4 (qa 8 2) = cQ (cy 6) 8 (pR 8 (qa 2)) := by rw [eF4, va_up_ne _ _ (pl_ne hFqa82_3 hFo_3 rfl)]; exact hFqa82_3
  have hFqa83_4 : F4 (qa 8 3) = cQ (cy 9) 30 (pR Pp.1.toInt.toNat (qa 7)) := by rw [eF4, va_up_ne _ _ (pl_ne hFqa83_3 hFo_3 rfl)]; exact hFqa83_3
  have hFqa84_4 : F4 (qa 8 4) = cQ (cy 8) 5 (pR 5 (qa 4)) := by rw [eF4, va_up_ne _ _ (pl_ne hFqa84_3 hFo_3 rfl)]; exact hFqa84_3
  have hFqa85_4 : F4 (qa 8 5) = cQ (cy 4) 4 (pR 4 (qa 6)) := by rw [eF4, va_up_ne _ _ (pl_ne hFqa85_3 hFo_3 rfl)]; exact hFqa85_3
  have hFqa86_4 : F4 (qa 8 6) = cI (cy 1) 6 (upd Xx.2 (2 : Int32).toNatClampNeg v2) := by rw [eF4, va_up_ne _ _ (pl_ne hFqa86_3 hFo_3 rfl)]; exact hFqa86_3
  refine lv_bipush (v := -10) hx hb dX8_fail_15 (by decide) ?_
  refine lv_iload_n hx hb dX8_fail_17 rfl (lv_at hl 1 rfl) ?_
  refine lv_isub hx hb dX8_fail_18 ?_
  refine lv_topi (fun v5 ev5 => ?_)
  exact W.iret (v := v5) hx hb hr (fun t ht hW => ⟨⟨v5, F4, rfl, ⟨by subst ev5 ev2 ev1; rfl, by subst ev5 ev2 ev1; rw [eF4, eF3]; exact hR.fails (x := 2) (f := upd Xx.2 2 (Xx.2 2 + 1))⟩, (by show va_P _ _ _ t.heap; rw [ht]; exact hP)⟩, hS.F ht⟩) hS.2.2 dX8_fail_19

set_option maxHeartbeats 8000000 in
set_option maxRecDepth 100000 in
theorem c_fail_3 (l : Launch) (G : va_G) (cy : Nat → ClassId) (L : List Nat) (F : Nat → va_E) (sz : Nat) (o : Nat) (qa : Nat → Nat → Nat) (Mm : SM) (Dd : SD) (Sl : SL) (Pp : SP) (Kr : SR) (Bk : SB) (Xx : SX) (hR : Rep cy L o qa Mm Dd Sl Pp Kr Bk Xx F)  : Met l yX8_fail wsX8_fail ({ frames := 0, cells := 0, slots := 0, locals := 0 }) (va_Pc [.ref o, .int 3] (fun U => bQ G cy L F sz U U.heap)) (va_Qi (fun (r : Int32) (F' : Nat → va_E) => r = -10 - 3 ∧ Rep cy L o qa Mm Dd Sl Pp Kr Bk (3, upd Xx.2 3 (Xx.2 3 + 1)) F') (fun F' t => va_P G vwCl (va_pl L F') t.heap) (va_A (va_pl L F) sz)) 0 0 (va_A (va_pl L F) sz) := by
  refine Met.ofW (cc := cX8_fail) (maxL := 2) (ret := (some .int)) (by decide) rfl ?_
  intro p e s m args below meth c s₁ B hml hv
  obtain ⟨rfl, hsz, hP, hK, hD0⟩ := hv
  have hx := B.exec
  have hb := B.bytes
  have hr := B.returns
  have hts := atoms_spec (ws := wsX8_fail) B.pre
  have hown : s.vm.findClass RX8 = some m.cls := findClass_of_methodNamed B.named
  have hlocks := B.notSynchronized
  have hinX8 : ∀ w ∈ wsX80, w ∈ wsX8_fail := by decide +kernel
  subst hsz
  have hD := hD0.self F s.heap.size
  generalize hAe : va_A (va_pl L F) s.heap.size = A at hD ⊢
  have hA : ∀ q : Nat, s.heap.size ≤ q → A q := fun q h => by rw [← hAe]; exact Or.inr h
  have hS : va_S A s.heap s.heap [] := va_S.rf
  obtain ⟨⟨⟨hmo, hFo⟩, ⟨hmf, hFf⟩, hms, hFs⟩, ⟨⟨hm0, hF0⟩, ⟨hm1, hF1⟩, ⟨hm2, hF2⟩, ⟨hm4, hF4⟩, hm5, hF5⟩, hRM, hRD, hRG, hRP, hRR, hRB, hRI⟩ := id hR
  have hl := lv_entry ([.ref o, .int 3]) (n := 2) (Nat.le_of_ble_eq_true rfl)
  rw [lg_entry_eq]
  generalize (lg_sl ([.ref o, .int 3]) ++ List.replicate (2 - (lg_sl ([.ref o, .int 3])).length) Slot.unset).toArray = ls at hl ⊢
  have hl : lv_has ls 2 [(0, .ref o), (1, .int 3)] := hl
  refine lv_aload_n hx hb dX8_fail_0 rfl (lv_at hl 0 rfl) ?_
  refine pg_get (ci := 7) (C := RX8) (T := TX8) (N := 9) hx hb hts hinX8 hown hK hP hmo hFo rfl 6 (by decide) (hts (.fieldLink RX8 45 "RopeDrums" "failures" "[I") (by decide +kernel)) (fun _ h9 => h9) rfl dX8_fail_1 ?_
  refine lv_iload_n hx hb dX8_fail_4 rfl (lv_at hl 1 rfl) ?_
  refine lv_dup2_11 hx hb dX8_fail_5 rfl rfl ?_
  refine pg_iald hx hb hK hP 1 hmf hFf rfl (vp_in_nI (n := 3) (N := 6) (by decide) (by decide)) dX8_fail_6 ?_
  refine lv_topi (fun v1 ev1 => ?_)
  refine lv_iconst (v := 1) hx hb dX8_fail_7 (by decide) ?_
  refine lv_iadd hx hb dX8_fail_8 ?_
  refine lv_topi (fun v2 ev2 => ?_)
  refine pg_iast hx hb hK hP hD hS 1 hmf hFf rfl (vp_in_nI (n := 3) (N := 6) (by decide) (by decide)) dX8_fail_9 (fun H locs F3 eF3 hP hS => ?_)
  have hFo_3 : F3 o = .inr (7, [.ref (qa 8 0), .ref (qa 8 1), .ref (qa 8 2), .ref (qa 8 3), .ref (qa 8 4), .ref (qa 8 5), .ref (qa 8 6), .int Pp.1, .int Xx.1]) := by rw [eF3, va_up_ne _ _ (pl_ne hFo hFf rfl)]; exact hFo
  have hFqa80_3 : F3 (qa 8 0) = cQ (cy 7) 10 (pR 10 (qa 0)) := by rw [eF3, va_up_ne _ _ (pl_ne hF0 hFf rfl)]; exact hF0
  have hFqa81_3 : F3 (qa 8 1) = cQ (cy 5) 6 (pR 6 (qa 1)) := by rw [eF3, va_up_ne _ _ (pl_ne hF1 hFf rfl)]; exact hF1
  have hFqa82_3 : F3 (qa 8 2) = cQ (cy 6) 8 (pR 8 (qa 2)) := by rw [eF3, va_up_ne _ _ (pl_ne hF2 hFf rfl)]; exact hF2
  have hFqa83_3 : F3 (qa 8 3) = cQ (cy 9) 30 (pR Pp.1.toInt.toNat (qa 7)) := by rw [eF3, va_up_ne _ _ (pl_ne hFs hFf rfl)]; exact hFs
  have hFqa84_3 : F3 (qa 8 4) = cQ (cy 8) 5 (pR 5 (qa 4)) := by rw [eF3, va_up_ne _ _ (pl_ne hF4 hFf rfl)]; exact hF4
  have hFqa85_3 : F3 (qa 8 5) = cQ (cy 4) 4 (pR 4 (qa 6)) := by rw [eF3, va_up_ne _ _ (pl_ne hF5 hFf rfl)]; exact hF5
  have hFqa86_3 : F3 (qa 8 6) = cI (cy 1) 6 (upd Xx.2 (3 : Int32).toNatClampNeg v2) := by rw [eF3]; exact va_up_self _ _ _
  refine lv_aload_n hx hb dX8_fail_10 rfl (lv_at hl 0 rfl) ?_
  refine lv_iload_n hx hb dX8_fail_11 rfl (lv_at hl 1 rfl) ?_
  refine pg_put (ci := 7) (v := .int 3) (ty := .int) (C := RX8) (T := TX8) (N := 9) hx hb hts hinX8 tyX8 tyX8_ok nmX8 hown hK hP hD hS hmo hFo_3 rfl 8 (by decide) (hts (.fieldLink RX8 53 "RopeDrums" "latestFailure" "I") (by decide +kernel)) (fun _ h9 => h9) rfl (by decide +kernel) (rfl) (rfl) (Nat.le_of_ble_eq_true rfl) dX8_fail_12 (fun H locs F4 eF4 hP hS => ?_)
  have eF4 : F4 = va_up F3 o (.inr (7, [.ref (qa 8 0), .ref (qa 8 1), .ref (qa 8 2), .ref (qa 8 3), .ref (qa 8 4), .ref (qa 8 5), .ref (qa 8 6), .int Pp.1, .int 3])) := eF4
  have hFo_4 : F4 o = .inr (7, [.ref (qa 8 0), .ref (qa 8 1), .ref (qa 8 2), .ref (qa 8 3), .ref (qa 8 4), .ref (qa 8 5), .ref (qa 8 6), .int Pp.1, .int 3]) := by rw [eF4]; exact va_up_self _ _ _
  have hFqa80_4 : F4 (qa 8 0) = cQ (cy 7) 10 (pR 10 (qa 0)) := by rw [eF4, va_up_ne _ _ (pl_ne hFqa80_3 hFo_3 rfl)]; exact hFqa80_3
  have hFqa81_4 : F4 (qa 8 1) = cQ (cy 5) 6 (pR 6 (qa 1)) := by rw [eF4, va_up_ne _ _ (pl_ne hFqa81_3 hFo_3 rfl)]; exact hFqa81_3
  have hFqa82_4 : F4 (qa 8 2) = cQ (cy 6) 8 (pR 8 (qa 2)) := by rw [eF4, va_up_ne _ _ (pl_ne hFqa82_3 hFo_3 rfl)]; exact hFqa82_3
  have hFqa83_4 : F4 (qa 8 3) = cQ (cy 9) 30 (pR Pp.1.toInt.toNat (qa 7)) := by rw [eF4, va_up_ne _ _ (pl_ne hFqa83_3 hFo_3 rfl)]; exact hFqa83_3
  have hFqa84_4 : F4 (qa 8 4) = cQ (cy 8) 5 (pR 5 (qa 4)) := by rw [eF4, va_up_ne _ _ (pl_ne hFqa84_3 hFo_3 rfl)]; exact hFqa84_3
  have hFqa85_4 : F4 (qa 8 5) = cQ (cy 4) 4 (pR 4 (qa 6)) := by rw [eF4, va_up_ne _ _ (pl_ne hFqa85_3 hFo_3 rfl)]; exact hFqa85_3
  have hFqa86_4 : F4 (qa 8 6) = cI (cy 1) 6 (upd Xx.2 (3 : Int32).toNatClampNeg v2) := by rw [eF4, va_up_ne _ _ (pl_ne hFqa86_3 hFo_3 rfl)]; exact hFqa86_3
  refine lv_bipush (v := -10) hx hb dX8_fail_15 (by decide) ?_
  refine lv_iload_n hx hb dX8_fail_17 rfl (lv_at hl 1 rfl) ?_
  refine lv_isub hx hb dX8_fail_18 ?_
  refine lv_topi (fun v5 ev5 => ?_)
  exact W.iret (v := v5) hx hb hr (fun t ht hW => ⟨⟨v5, F4, rfl, ⟨by subst ev5 ev2 ev1; rfl, by subst ev5 ev2 ev1; rw [eF4, eF3]; exact hR.fails (x := 3) (f := upd Xx.2 3 (Xx.2 3 + 1))⟩, (by show va_P _ _ _ t.heap; rw [ht]; exact hP)⟩, hS.F ht⟩) hS.2.2 dX8_fail_19

set_option maxHeartbeats 8000000 in
set_option maxRecDepth 100000 in
theorem c_fail_4 (l : Launch) (G : va_G) (cy : Nat → ClassId) (L : List Nat) (F : Nat → va_E) (sz : Nat) (o : Nat) (qa : Nat → Nat → Nat) (Mm : SM) (Dd : SD) (Sl : SL) (Pp : SP) (Kr : SR) (Bk : SB) (Xx : SX) (hR : Rep cy L o qa Mm Dd Sl Pp Kr Bk Xx F)  : Met l yX8_fail wsX8_fail ({ frames := 0, cells := 0, slots := 0, locals := 0 }) (va_Pc [.ref o, .int 4] (fun U => bQ G cy L F sz U U.heap)) (va_Qi (fun (r : Int32) (F' : Nat → va_E) => r = -10 - 4 ∧ Rep cy L o qa Mm Dd Sl Pp Kr Bk (4, upd Xx.2 4 (Xx.2 4 + 1)) F') (fun F' t => va_P G vwCl (va_pl L F') t.heap) (va_A (va_pl L F) sz)) 0 0 (va_A (va_pl L F) sz) := by
  refine Met.ofW (cc := cX8_fail) (maxL := 2) (ret := (some .int)) (by decide) rfl ?_
  intro p e s m args below meth c s₁ B hml hv
  obtain ⟨rfl, hsz, hP, hK, hD0⟩ := hv
  have hx := B.exec
  have hb := B.bytes
  have hr := B.returns
  have hts := atoms_spec (ws := wsX8_fail) B.pre
  have hown : s.vm.findClass RX8 = some m.cls := findClass_of_methodNamed B.named
  have hlocks := B.notSynchronized
  have hinX8 : ∀ w ∈ wsX80, w ∈ wsX8_fail := by decide +kernel
  subst hsz
  have hD := hD0.self F s.heap.size
  generalize hAe : va_A (va_pl L F) s.heap.size = A at hD ⊢
  have hA : ∀ q : Nat, s.heap.size ≤ q → A q := fun q h => by rw [← hAe]; exact Or.inr h
  have hS : va_S A s.heap s.heap [] := va_S.rf
  obtain ⟨⟨⟨hmo, hFo⟩, ⟨hmf, hFf⟩, hms, hFs⟩, ⟨⟨hm0, hF0⟩, ⟨hm1, hF1⟩, ⟨hm2, hF2⟩, ⟨hm4, hF4⟩, hm5, hF5⟩, hRM, hRD, hRG, hRP, hRR, hRB, hRI⟩ := id hR
  have hl := lv_entry ([.ref o, .int 4]) (n := 2) (Nat.le_of_ble_eq_true rfl)
  rw [lg_entry_eq]
  generalize (lg_sl ([.ref o, .int 4]) ++ List.replicate (2 - (lg_sl ([.ref o, .int 4])).length) Slot.unset).toArray = ls at hl ⊢
  have hl : lv_has ls 2 [(0, .ref o), (1, .int 4)] := hl
  refine lv_aload_n hx hb dX8_fail_0 rfl (lv_at hl 0 rfl) ?_
  refine pg_get (ci := 7) (C := RX8) (T := TX8) (N := 9) hx hb hts hinX8 hown hK hP hmo hFo rfl 6 (by decide) (hts (.fieldLink RX8 45 "RopeDrums" "failures" "[I") (by decide +kernel)) (fun _ h9 => h9) rfl dX8_fail_1 ?_
  refine lv_iload_n hx hb dX8_fail_4 rfl (lv_at hl 1 rfl) ?_
  refine lv_dup2_11 hx hb dX8_fail_5 rfl rfl ?_
  refine pg_iald hx hb hK hP 1 hmf hFf rfl (vp_in_nI (n := 4) (N := 6) (by decide) (by decide)) dX8_fail_6 ?_
  refine lv_topi (fun v1 ev1 => ?_)
  refine lv_iconst (v := 1) hx hb dX8_fail_7 (by decide) ?_
  refine lv_iadd hx hb dX8_fail_8 ?_
  refine lv_topi (fun v2 ev2 => ?_)
  refine pg_iast hx hb hK hP hD hS 1 hmf hFf rfl (vp_in_nI (n := 4) (N := 6) (by decide) (by decide)) dX8_fail_9 (fun H locs F3 eF3 hP hS => ?_)
  have hFo_3 : F3 o = .inr (7, [.ref (qa 8 0), .ref (qa 8 1), .ref (qa 8 2), .ref (qa 8 3), .ref (qa 8 4), .ref (qa 8 5), .ref (qa 8 6), .int Pp.1, .int Xx.1]) := by rw [eF3, va_up_ne _ _ (pl_ne hFo hFf rfl)]; exact hFo
  have hFqa80_3 : F3 (qa 8 0) = cQ (cy 7) 10 (pR 10 (qa 0)) := by rw [eF3, va_up_ne _ _ (pl_ne hF0 hFf rfl)]; exact hF0
  have hFqa81_3 : F3 (qa 8 1) = cQ (cy 5) 6 (pR 6 (qa 1)) := by rw [eF3, va_up_ne _ _ (pl_ne hF1 hFf rfl)]; exact hF1
  have hFqa82_3 : F3 (qa 8 2) = cQ (cy 6) 8 (pR 8 (qa 2)) := by rw [eF3, va_up_ne _ _ (pl_ne hF2 hFf rfl)]; exact hF2
  have hFqa83_3 : F3 (qa 8 3) = cQ (cy 9) 30 (pR Pp.1.toInt.toNat (qa 7)) := by rw [eF3, va_up_ne _ _ (pl_ne hFs hFf rfl)]; exact hFs
  have hFqa84_3 : F3 (qa 8 4) = cQ (cy 8) 5 (pR 5 (qa 4)) := by rw [eF3, va_up_ne _ _ (pl_ne hF4 hFf rfl)]; exact hF4
  have hFqa85_3 : F3 (qa 8 5) = cQ (cy 4) 4 (pR 4 (qa 6)) := by rw [eF3, va_up_ne _ _ (pl_ne hF5 hFf rfl)]; exact hF5
  have hFqa86_3 : F3 (qa 8 6) = cI (cy 1) 6 (upd Xx.2 (4 : Int32).toNatClampNeg v2) := by rw [eF3]; exact va_up_self _ _ _
  refine lv_aload_n hx hb dX8_fail_10 rfl (lv_at hl 0 rfl) ?_
  refine lv_iload_n hx hb dX8_fail_11 rfl (lv_at hl 1 rfl) ?_
  refine pg_put (ci := 7) (v := .int 4) (ty := .int) (C := RX8) (T := TX8) (N := 9) hx hb hts hinX8 tyX8 tyX8_ok nmX8 hown hK hP hD hS hmo hFo_3 rfl 8 (by decide) (hts (.fieldLink RX8 53 "RopeDrums" "latestFailure" "I") (by decide +kernel)) (fun _ h9 => h9) rfl (by decide +kernel) (rfl) (rfl) (Nat.le_of_ble_eq_true rfl) dX8_fail_12 (fun H locs F4 eF4 hP hS => ?_)
  have eF4 : F4 = va_up F3 o (.inr (7, [.ref (qa 8 0), .ref (qa 8 1), .ref (qa 8 2), .ref (qa 8 3), .ref (qa 8 4), .ref (qa 8 5), .ref (qa 8 6), .int Pp.1, .int 4])) := eF4
  have hFo_4 : F4 o = .inr (7, [.ref (qa 8 0), .ref (qa 8 1), .ref (qa 8 2), .ref (qa 8 3), .ref (qa 8 4), .ref (qa 8 5), .ref (qa 8 6), .int Pp.1, .int 4]) := by rw [eF4]; exact va_up_self _ _ _
  have hFqa80_4 : F4 (qa 8 0) = cQ (cy 7) 10 (pR 10 (qa 0)) := by rw [eF4, va_up_ne _ _ (pl_ne hFqa80_3 hFo_3 rfl)]; exact hFqa80_3
  have hFqa81_4 : F4 (qa 8 1) = cQ (cy 5) 6 (pR 6 (qa 1)) := by rw [eF4, va_up_ne _ _ (pl_ne hFqa81_3 hFo_3 rfl)]; exact hFqa81_3
  have hFqa82_4 : F4 (qa 8 2) = cQ (cy 6) 8 (pR 8 (qa 2)) := by rw [eF4, va_up_ne _ _ (pl_ne hFqa82_3 hFo_3 rfl)]; exact hFqa82_3
  have hFqa83_4 : F4 (qa 8 3) = cQ (cy 9) 30 (pR Pp.1.toInt.toNat (qa 7)) := by rw [eF4, va_up_ne _ _ (pl_ne hFqa83_3 hFo_3 rfl)]; exact hFqa83_3
  have hFqa84_4 : F4 (qa 8 4) = cQ (cy 8) 5 (pR 5 (qa 4)) := by rw [eF4, va_up_ne _ _ (pl_ne hFqa84_3 hFo_3 rfl)]; exact hFqa84_3
  have hFqa85_4 : F4 (qa 8 5) = cQ (cy 4) 4 (pR 4 (qa 6)) := by rw [eF4, va_up_ne _ _ (pl_ne hFqa85_3 hFo_3 rfl)]; exact hFqa85_3
  have hFqa86_4 : F4 (qa 8 6) = cI (cy 1) 6 (upd Xx.2 (4 : Int32).toNatClampNeg v2) := by rw [eF4, va_up_ne _ _ (pl_ne hFqa86_3 hFo_3 rfl)]; exact hFqa86_3
  refine lv_bipush (v := -10) hx hb dX8_fail_15 (by decide) ?_
  refine lv_iload_n hx hb dX8_fail_17 rfl (lv_at hl 1 rfl) ?_
  refine lv_isub hx hb dX8_fail_18 ?_
  refine lv_topi (fun v5 ev5 => ?_)
  exact W.iret (v := v5) hx hb hr (fun t ht hW => ⟨⟨v5, F4, rfl, ⟨by subst ev5 ev2 ev1; rfl, by subst ev5 ev2 ev1; rw [eF4, eF3]; exact hR.fails (x := 4) (f := upd Xx.2 4 (Xx.2 4 + 1))⟩, (by show va_P _ _ _ t.heap; rw [ht]; exact hP)⟩, hS.F ht⟩) hS.2.2 dX8_fail_19

set_option maxHeartbeats 8000000 in
set_option maxRecDepth 100000 in
theorem c_fail_5 (l : Launch) (G : va_G) (cy : Nat → ClassId) (L : List Nat) (F : Nat → va_E) (sz : Nat) (o : Nat) (qa : Nat → Nat → Nat) (Mm : SM) (Dd : SD) (Sl : SL) (Pp : SP) (Kr : SR) (Bk : SB) (Xx : SX) (hR : Rep cy L o qa Mm Dd Sl Pp Kr Bk Xx F)  : Met l yX8_fail wsX8_fail ({ frames := 0, cells := 0, slots := 0, locals := 0 }) (va_Pc [.ref o, .int 5] (fun U => bQ G cy L F sz U U.heap)) (va_Qi (fun (r : Int32) (F' : Nat → va_E) => r = -10 - 5 ∧ Rep cy L o qa Mm Dd Sl Pp Kr Bk (5, upd Xx.2 5 (Xx.2 5 + 1)) F') (fun F' t => va_P G vwCl (va_pl L F') t.heap) (va_A (va_pl L F) sz)) 0 0 (va_A (va_pl L F) sz) := by
  refine Met.ofW (cc := cX8_fail) (maxL := 2) (ret := (some .int)) (by decide) rfl ?_
  intro p e s m args below meth c s₁ B hml hv
  obtain ⟨rfl, hsz, hP, hK, hD0⟩ := hv
  have hx := B.exec
  have hb := B.bytes
  have hr := B.returns
  have hts := atoms_spec (ws := wsX8_fail) B.pre
  have hown : s.vm.findClass RX8 = some m.cls := findClass_of_methodNamed B.named
  have hlocks := B.notSynchronized
  have hinX8 : ∀ w ∈ wsX80, w ∈ wsX8_fail := by decide +kernel
  subst hsz
  have hD := hD0.self F s.heap.size
  generalize hAe : va_A (va_pl L F) s.heap.size = A at hD ⊢
  have hA : ∀ q : Nat, s.heap.size ≤ q → A q := fun q h => by rw [← hAe]; exact Or.inr h
  have hS : va_S A s.heap s.heap [] := va_S.rf
  obtain ⟨⟨⟨hmo, hFo⟩, ⟨hmf, hFf⟩, hms, hFs⟩, ⟨⟨hm0, hF0⟩, ⟨hm1, hF1⟩, ⟨hm2, hF2⟩, ⟨hm4, hF4⟩, hm5, hF5⟩, hRM, hRD, hRG, hRP, hRR, hRB, hRI⟩ := id hR
  have hl := lv_entry ([.ref o, .int 5]) (n := 2) (Nat.le_of_ble_eq_true rfl)
  rw [lg_entry_eq]
  generalize (lg_sl ([.ref o, .int 5]) ++ List.replicate (2 - (lg_sl ([.ref o, .int 5])).length) Slot.unset).toArray = ls at hl ⊢
  have hl : lv_has ls 2 [(0, .ref o), (1, .int 5)] := hl
  refine lv_aload_n hx hb dX8_fail_0 rfl (lv_at hl 0 rfl) ?_
  refine pg_get (ci := 7) (C := RX8) (T := TX8) (N := 9) hx hb hts hinX8 hown hK hP hmo hFo rfl 6 (by decide) (hts (.fieldLink RX8 45 "RopeDrums" "failures" "[I") (by decide +kernel)) (fun _ h9 => h9) rfl dX8_fail_1 ?_
  refine lv_iload_n hx hb dX8_fail_4 rfl (lv_at hl 1 rfl) ?_
  refine lv_dup2_11 hx hb dX8_fail_5 rfl rfl ?_
  refine pg_iald hx hb hK hP 1 hmf hFf rfl (vp_in_nI (n := 5) (N := 6) (by decide) (by decide)) dX8_fail_6 ?_
  refine lv_topi (fun v1 ev1 => ?_)
  refine lv_iconst (v := 1) hx hb dX8_fail_7 (by decide) ?_
  refine lv_iadd hx hb dX8_fail_8 ?_
  refine lv_topi (fun v2 ev2 => ?_)
  refine pg_iast hx hb hK hP hD hS 1 hmf hFf rfl (vp_in_nI (n := 5) (N := 6) (by decide) (by decide)) dX8_fail_9 (fun H locs F3 eF3 hP hS => ?_)
  have hFo_3 : F3 o = .inr (7, [.ref (qa 8 0), .ref (qa 8 1), .ref (qa 8 2), .ref (qa 8 3), .ref (qa 8 4), .ref (qa 8 5), .ref (qa 8 6), .int Pp.1, .int Xx.1]) := by rw [eF3, va_up_ne _ _ (pl_ne hFo hFf rfl)]; exact hFo
  have hFqa80_3 : F3 (qa 8 0) = cQ (cy 7) 10 (pR 10 (qa 0)) := by rw [eF3, va_up_ne _ _ (pl_ne hF0 hFf rfl)]; exact hF0
  have hFqa81_3 : F3 (qa 8 1) = cQ (cy 5) 6 (pR 6 (qa 1)) := by rw [eF3, va_up_ne _ _ (pl_ne hF1 hFf rfl)]; exact hF1
  have hFqa82_3 : F3 (qa 8 2) = cQ (cy 6) 8 (pR 8 (qa 2)) := by rw [eF3, va_up_ne _ _ (pl_ne hF2 hFf rfl)]; exact hF2
  have hFqa83_3 : F3 (qa 8 3) = cQ (cy 9) 30 (pR Pp.1.toInt.toNat (qa 7)) := by rw [eF3, va_up_ne _ _ (pl_ne hFs hFf rfl)]; exact hFs
  have hFqa84_3 : F3 (qa 8 4) = cQ (cy 8) 5 (pR 5 (qa 4)) := by rw [eF3, va_up_ne _ _ (pl_ne hF4 hFf rfl)]; exact hF4
  have hFqa85_3 : F3 (qa 8 5) = cQ (cy 4) 4 (pR 4 (qa 6)) := by rw [eF3, va_up_ne _ _ (pl_ne hF5 hFf rfl)]; exact hF5
  have hFqa86_3 : F3 (qa 8 6) = cI (cy 1) 6 (upd Xx.2 (5 : Int32).toNatClampNeg v2) := by rw [eF3]; exact va_up_self _ _ _
  refine lv_aload_n hx hb dX8_fail_10 rfl (lv_at hl 0 rfl) ?_
  refine lv_iload_n hx hb dX8_fail_11 rfl (lv_at hl 1 rfl) ?_
  refine pg_put (ci := 7) (v := .int 5) (ty := .int) (C := RX8) (T := TX8) (N := 9) hx hb hts hinX8 tyX8 tyX8_ok nmX8 hown hK hP hD hS hmo hFo_3 rfl 8 (by decide) (hts (.fieldLink RX8 53 "RopeDrums" "latestFailure" "I") (by decide +kernel)) (fun _ h9 => h9) rfl (by decide +kernel) (rfl) (rfl) (Nat.le_of_ble_eq_true rfl) dX8_fail_12 (fun H locs F4 eF4 hP hS => ?_)
  have eF4 : F4 = va_up F3 o (.inr (7, [.ref (qa 8 0), .ref (qa 8 1), .ref (qa 8 2), .ref (qa 8 3), .ref (qa 8 4), .ref (qa 8 5), .ref (qa 8 6), .int Pp.1, .int 5])) := eF4
  have hFo_4 : F4 o = .inr (7, [.ref (qa 8 0), .ref (qa 8 1), .ref (qa 8 2), .ref (qa 8 3), .ref (qa 8 4), .ref (qa 8 5), .ref (qa 8 6), .int Pp.1, .int 5]) := by rw [eF4]; exact va_up_self _ _ _
  have hFqa80_4 : F4 (qa 8 0) = cQ (cy 7) 10 (pR 10 (qa 0)) := by rw [eF4, va_up_ne _ _ (pl_ne hFqa80_3 hFo_3 rfl)]; exact hFqa80_3
  have hFqa81_4 : F4 (qa 8 1) = cQ (cy 5) 6 (pR 6 (qa 1)) := by rw [eF4, va_up_ne _ _ (pl_ne hFqa81_3 hFo_3 rfl)]; exact hFqa81_3
  have hFqa82_4 : F4 (qa 8 2) = cQ (cy 6) 8 (pR 8 (qa 2)) := by rw [eF4, va_up_ne _ _ (pl_ne hFqa82_3 hFo_3 rfl)]; exact hFqa82_3
  have hFqa83_4 : F4 (qa 8 3) = cQ (cy 9) 30 (pR Pp.1.toInt.toNat (qa 7)) := by rw [eF4, va_up_ne _ _ (pl_ne hFqa83_3 hFo_3 rfl)]; exact hFqa83_3
  have hFqa84_4 : F4 (qa 8 4) = cQ (cy 8) 5 (pR 5 (qa 4)) := by rw [eF4, va_up_ne _ _ (pl_ne hFqa84_3 hFo_3 rfl)]; exact hFqa84_3
  have hFqa85_4 : F4 (qa 8 5) = cQ (cy 4) 4 (pR 4 (qa 6)) := by rw [eF4, va_up_ne _ _ (pl_ne hFqa85_3 hFo_3 rfl)]; exact hFqa85_3
  have hFqa86_4 : F4 (qa 8 6) = cI (cy 1) 6 (upd Xx.2 (5 : Int32).toNatClampNeg v2) := by rw [eF4, va_up_ne _ _ (pl_ne hFqa86_3 hFo_3 rfl)]; exact hFqa86_3
  refine lv_bipush (v := -10) hx hb dX8_fail_15 (by decide) ?_
  refine lv_iload_n hx hb dX8_fail_17 rfl (lv_at hl 1 rfl) ?_
  refine lv_isub hx hb dX8_fail_18 ?_
  refine lv_topi (fun v5 ev5 => ?_)
  exact W.iret (v := v5) hx hb hr (fun t ht hW => ⟨⟨v5, F4, rfl, ⟨by subst ev5 ev2 ev1; rfl, by subst ev5 ev2 ev1; rw [eF4, eF3]; exact hR.fails (x := 5) (f := upd Xx.2 5 (Xx.2 5 + 1))⟩, (by show va_P _ _ _ t.heap; rw [ht]; exact hP)⟩, hS.F ht⟩) hS.2.2 dX8_fail_19

set_option maxHeartbeats 8000000 in
set_option maxRecDepth 100000 in
theorem c_succeed (l : Launch) (G : va_G) (cy : Nat → ClassId) (L : List Nat) (F : Nat → va_E) (sz : Nat) (o : Nat) (qa : Nat → Nat → Nat) (Mm : SM) (Dd : SD) (Sl : SL) (Pp : SP) (Kr : SR) (Bk : SB) (Xx : SX) (hR : Rep cy L o qa Mm Dd Sl Pp Kr Bk Xx F) (x : Int32)  : Met l yX8_succeed wsX8_succeed ({ frames := 0, cells := 0, slots := 0, locals := 0 }) (va_Pc [.ref o, .int x] (fun U => bQ G cy L F sz U U.heap)) (va_Qi (fun (r : Int32) (F' : Nat → va_E) => r = x ∧ Rep cy L o qa Mm Dd Sl Pp Kr Bk (0, Xx.2) F') (fun F' t => va_P G vwCl (va_pl L F') t.heap) (va_A (va_pl L F) sz)) 0 0 (va_A (va_pl L F) sz) := by
  refine Met.ofW (cc := cX8_succeed) (maxL := 2) (ret := (some .int)) (by decide) rfl ?_
  intro p e s m args below meth c s₁ B hml hv
  obtain ⟨rfl, hsz, hP, hK, hD0⟩ := hv
  have hx := B.exec
  have hb := B.bytes
  have hr := B.returns
  have hts := atoms_spec (ws := wsX8_succeed) B.pre
  have hown : s.vm.findClass RX8 = some m.cls := findClass_of_methodNamed B.named
  have hlocks := B.notSynchronized
  have hinX8 : ∀ w ∈ wsX80, w ∈ wsX8_succeed := by decide +kernel
  subst hsz
  have hD := hD0.self F s.heap.size
  generalize hAe : va_A (va_pl L F) s.heap.size = A at hD ⊢
  have hA : ∀ q : Nat, s.heap.size ≤ q → A q := fun q h => by rw [← hAe]; exact Or.inr h
  have hS : va_S A s.heap s.heap [] := va_S.rf
  obtain ⟨⟨⟨hmo, hFo⟩, ⟨hmf, hFf⟩, hms, hFs⟩, ⟨⟨hm0, hF0⟩, ⟨hm1, hF1⟩, ⟨hm2, hF2⟩, ⟨hm4, hF4⟩, hm5, hF5⟩, hRM, hRD, hRG, hRP, hRR, hRB, hRI⟩ := id hR
  have hl := lv_entry ([.ref o, .int x]) (n := 2) (Nat.le_of_ble_eq_true rfl)
  rw [lg_entry_eq]
  generalize (lg_sl ([.ref o, .int x]) ++ List.replicate (2 - (lg_sl ([.ref o, .int x])).length) Slot.unset).toArray = ls at hl ⊢
  have hl : lv_has ls 2 [(0, .ref o), (1, .int x)] := hl
  refine lv_aload_n hx hb dX8_succeed_0 rfl (lv_at hl 0 rfl) ?_
  refine lv_iconst (v := 0) hx hb dX8_succeed_1 (by decide) ?_
  refine pg_put (ci := 7) (v := .int 0) (ty := .int) (C := RX8) (T := TX8) (N := 9) hx hb hts hinX8 tyX8 tyX8_ok nmX8 hown hK hP hD hS hmo hFo rfl 8 (by decide) (hts (.fieldLink RX8 53 "RopeDrums" "latestFailure" "I") (by decide +kernel)) (fun _ h9 => h9) rfl (by decide +kernel) (rfl) (rfl) (Nat.le_of_ble_eq_true rfl) dX8_succeed_2 (fun H locs F1 eF1 hP hS => ?_)
  have eF1 : F1 = va_up F o (.inr (7, [.ref (qa 8 0), .ref (qa 8 1), .ref (qa 8 2), .ref (qa 8 3), .ref (qa 8 4), .ref (qa 8 5), .ref (qa 8 6), .int Pp.1, .int 0])) := eF1
  have hFo_1 : F1 o = .inr (7, [.ref (qa 8 0), .ref (qa 8 1), .ref (qa 8 2), .ref (qa 8 3), .ref (qa 8 4), .ref (qa 8 5), .ref (qa 8 6), .int Pp.1, .int 0]) := by rw [eF1]; exact va_up_self _ _ _
  have hFqa80_1 : F1 (qa 8 0) = cQ (cy 7) 10 (pR 10 (qa 0)) := by rw [eF1, va_up_ne _ _ (pl_ne hF0 hFo rfl)]; exact hF0
  have hFqa81_1 : F1 (qa 8 1) = cQ (cy 5) 6 (pR 6 (qa 1)) := by rw [eF1, va_up_ne _ _ (pl_ne hF1 hFo rfl)]; exact hF1
  have hFqa82_1 : F1 (qa 8 2) = cQ (cy 6) 8 (pR 8 (qa 2)) := by rw [eF1, va_up_ne _ _ (pl_ne hF2 hFo rfl)]; exact hF2
  have hFqa83_1 : F1 (qa 8 3) = cQ (cy 9) 30 (pR Pp.1.toInt.toNat (qa 7)) := by rw [eF1, va_up_ne _ _ (pl_ne hFs hFo rfl)]; exact hFs
  have hFqa84_1 : F1 (qa 8 4) = cQ (cy 8) 5 (pR 5 (qa 4)) := by rw [eF1, va_up_ne _ _ (pl_ne hF4 hFo rfl)]; exact hF4
  have hFqa85_1 : F1 (qa 8 5) = cQ (cy 4) 4 (pR 4 (qa 6)) := by rw [eF1, va_up_ne _ _ (pl_ne hF5 hFo rfl)]; exact hF5
  have hFqa86_1 : F1 (qa 8 6) = cI (cy 1) 6 Xx.2 := by rw [eF1, va_up_ne _ _ (pl_ne hFf hFo rfl)]; exact hFf
  refine lv_iload_n hx hb dX8_succeed_5 rfl (lv_at hl 1 rfl) ?_
  exact W.iret (v := x) hx hb hr (fun t ht hW => ⟨⟨x, F1, rfl, ⟨rfl, by rw [eF1]; exact hR.good (x := 0)⟩, (by show va_P _ _ _ t.heap; rw [ht]; exact hP)⟩, hS.F ht⟩) hS.2.2 dX8_succeed_6
