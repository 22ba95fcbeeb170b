set_option maxHeartbeats 8000000 in
set_option maxRecDepth 100000 in
theorem c_X8_init (l : Launch) (G : va_G) (cy : Nat → ClassId) (L : List Nat) (F : Nat → va_E) (sz : Nat) (o : Nat) (hmo : o ∈ L) (hFo : F o = .inr (7, [.null, .null, .null, .null, .null, .null, .null, .int 0, .int 0]))  : Met l yX8_init wsX8_init ({ frames := 3, cells := 53, slots := 358, locals := 61 }) (va_Pc [.ref o] (fun U => bQZ G cy L F sz U U.heap)) (va_Qv (fun u : List Nat × (Nat → va_E) => ∃ qb, Rep cy u.1 o qb M0 D0 S0 P0 K0 B0 X0 u.2 ∧ pD (va_A (va_pl L F) sz) u.1) (fun u t => va_P G vwCl (va_pl u.1 u.2) t.heap) (va_A (va_pl L F) sz)) 53 358 (va_A (va_pl L F) sz) := by
  refine Met.ofW (cc := cX8_init) (maxL := 2) (ret := none) (by decide) rfl ?_
  intro p e s m args below meth c s₁ B hml hv
  obtain ⟨rfl, ⟨hsz, hP, hK, hD0⟩, hZ⟩ := hv
  have hx := B.exec
  have hb := B.bytes
  have hr := B.returns
  have hts := atoms_spec (ws := wsX8_init) B.pre
  have hown : s.vm.findClass RX8 = some m.cls := findClass_of_methodNamed B.named
  have hlocks := B.notSynchronized
  have hinX8 : ∀ w ∈ wsX80, w ∈ wsX8_init := by decide +kernel
  have hinX4 : ∀ w ∈ wsX40, w ∈ wsX8_init := by decide +kernel
  have hinX1 : ∀ w ∈ wsX10, w ∈ wsX8_init := by decide +kernel
  have hinX3 : ∀ w ∈ wsX30, w ∈ wsX8_init := by decide +kernel
  have hinX6 : ∀ w ∈ wsX60, w ∈ wsX8_init := by decide +kernel
  have hinX0 : ∀ w ∈ wsX00, w ∈ wsX8_init := by decide +kernel
  have hin2 : meth.name = "<init>" := (name_of_methodNamed B.named B.method).1
  subst hsz
  have hD := hD0.self F s.heap.size
  generalize hAe : va_A (va_pl L F) s.heap.size = A at hD ⊢
  have hA : ∀ q : Nat, s.heap.size ≤ q → A q := fun q h => by rw [← hAe]; exact Or.inr h
  have hS : va_S A s.heap s.heap [] := va_S.rf
  have hl := lv_entry ([.ref o]) (n := 2) (Nat.le_of_ble_eq_true rfl)
  rw [lg_entry_eq]
  generalize (lg_sl ([.ref o]) ++ List.replicate (2 - (lg_sl ([.ref o])).length) Slot.unset).toArray = ls at hl ⊢
  have hl : lv_has ls 2 [(0, .ref o)] := hl
  refine lv_aload_n hx hb dX8_init_0 rfl (lv_at hl 0 rfl) ?_
  refine W.objInit hx hb hown (hts (.methodLink RX8 1 objectInit) (by decide +kernel)) (hts (.instanceMethod objectInit) (by decide +kernel)) (hts (.code objectInit ⟨#[0xb1]⟩ 1 none) (by decide +kernel)) rfl (by rw [hml]; exact hl.1) rfl dX8_init_1 (Nat.le_of_ble_eq_true rfl) (Nat.le_of_ble_eq_true rfl) ?_
  refine W.eq (g2 := F0 m 4 ls []) rfl ?_
  refine lv_aload_n hx hb dX8_init_4 rfl (lv_at hl 0 rfl) ?_
  refine lv_bipush (v := 10) hx hb dX8_init_5 (by decide) ?_
  refine pg_newq (C := RX4) (N' := 10) hx hb hown (hts (.classLink RX8 9 RX4) (by decide +kernel)) hZ.2.2.2.2.1 hK 7 rfl hP hD hS hA (by decide) rfl (by decide) (Nat.le_of_ble_eq_true rfl) (Nat.le_of_ble_eq_true rfl) dX8_init_7 (fun q1 H F2 L3 hnq1 eF2 eL3 hP hD hS => ?_)
  have hmo_3 : o ∈ L3 := by rw [eL3]; exact List.mem_append_left _ hmo
  have hFo_3 : F2 o = .inr (7, [.null, .null, .null, .null, .null, .null, .null, .int 0, .int 0]) := by rw [eF2, va_up_ne _ _ (fun z => hnq1 (by rw [← z]; exact hmo))]; exact hFo
  have hmq1 : q1 ∈ L3 := by rw [eL3]; exact List.mem_append_right _ (List.mem_singleton.mpr rfl)
  have hFq1 : F2 q1 = cQ (cy 7) 10 (fun _ => none) := by rw [eF2]; exact va_up_self _ _ _
  refine pg_putF (ci := 7) (v := .ref q1) (ty := (.array (.object "RopeDrums$Meter"))) (C := RX8) (T := TX8) (N := 9) hx hb hts hinX8 tyX8 tyX8_ok nmX8 hown hK hP hD hS hmo_3 hFo_3 rfl 0 (by decide) (hts (.fieldLink RX8 11 "RopeDrums" "meters" "[LRopeDrums$Meter;") (by decide +kernel)) (fun _ h9 => h9) rfl hin2 rfl (by decide +kernel) (rfl) (rfl) (Nat.le_of_ble_eq_true rfl) dX8_init_10 (fun H locs F4 eF4 hP hS => ?_)
  have eF4 : F4 = va_up F2 o (.inr (7, [.ref q1, .null, .null, .null, .null, .null, .null, .int 0, .int 0])) := eF4
  have hFo_4 : F4 o = .inr (7, [.ref q1, .null, .null, .null, .null, .null, .null, .int 0, .int 0]) := by rw [eF4]; exact va_up_self _ _ _
  have hFq1_4 : F4 q1 = cQ (cy 7) 10 (fun _ => none) := by rw [eF4, va_up_ne _ _ (pl_ne hFq1 hFo_3 rfl)]; exact hFq1
  refine lv_aload_n hx hb dX8_init_13 rfl (lv_at hl 0 rfl) ?_
  refine lv_bipush (v := 6) hx hb dX8_init_14 (by decide) ?_
  refine pg_newq (C := RX1) (N' := 6) hx hb hown (hts (.classLink RX8 15 RX1) (by decide +kernel)) hZ.2.2.1 hK 5 rfl hP hD hS hA (by decide) rfl (by decide) (Nat.le_of_ble_eq_true rfl) (Nat.le_of_ble_eq_true rfl) dX8_init_16 (fun q5 H F6 L7 hnq5 eF6 eL7 hP hD hS => ?_)
  have hmo_7 : o ∈ L7 := by rw [eL7]; exact List.mem_append_left _ hmo_3
  have hFo_7 : F6 o = .inr (7, [.ref q1, .null, .null, .null, .null, .null, .null, .int 0, .int 0]) := by rw [eF6, va_up_ne _ _ (fun z => hnq5 (by rw [← z]; exact hmo_3))]; exact hFo_4
  have hmq1_7 : q1 ∈ L7 := by rw [eL7]; exact List.mem_append_left _ hmq1
  have hFq1_7 : F6 q1 = cQ (cy 7) 10 (fun _ => none) := by rw [eF6, va_up_ne _ _ (fun z => hnq5 (by rw [← z]; exact hmq1))]; exact hFq1_4
  have hmq5 : q5 ∈ L7 := by rw [eL7]; exact List.mem_append_right _ (List.mem_singleton.mpr rfl)
  have hFq5 : F6 q5 = cQ (cy 5) 6 (fun _ => none) := by rw [eF6]; exact va_up_self _ _ _
  refine pg_putF (ci := 7) (v := .ref q5) (ty := (.array (.object "RopeDrums$Drum"))) (C := RX8) (T := TX8) (N := 9) hx hb hts hinX8 tyX8 tyX8_ok nmX8 hown hK hP hD hS hmo_7 hFo_7 rfl 1 (by decide) (hts (.fieldLink RX8 17 "RopeDrums" "drums" "[LRopeDrums$Drum;") (by decide +kernel)) (fun _ h9 => h9) rfl hin2 rfl (by decide +kernel) (rfl) (rfl) (Nat.le_of_ble_eq_true rfl) dX8_init_19 (fun H locs F8 eF8 hP hS => ?_)
  have eF8 : F8 = va_up F6 o (.inr (7, [.ref q1, .ref q5, .null, .null, .null, .null, .null, .int 0, .int 0])) := eF8
  have hFo_8 : F8 o = .inr (7, [.ref q1, .ref q5, .null, .null, .null, .null, .null, .int 0, .int 0]) := by rw [eF8]; exact va_up_self _ _ _
  have hFq1_8 : F8 q1 = cQ (cy 7) 10 (fun _ => none) := by rw [eF8, va_up_ne _ _ (pl_ne hFq1_7 hFo_7 rfl)]; exact hFq1_7
  have hFq5_8 : F8 q5 = cQ (cy 5) 6 (fun _ => none) := by rw [eF8, va_up_ne _ _ (pl_ne hFq5 hFo_7 rfl)]; exact hFq5
  refine lv_aload_n hx hb dX8_init_22 rfl (lv_at hl 0 rfl) ?_
  refine lv_bipush (v := 8) hx hb dX8_init_23 (by decide) ?_
  refine pg_newq (C := RX3) (N' := 8) hx hb hown (hts (.classLink RX8 21 RX3) (by decide +kernel)) hZ.2.2.2.1 hK 6 rfl hP hD hS hA (by decide) rfl (by decide) (Nat.le_of_ble_eq_true rfl) (Nat.le_of_ble_eq_true rfl) dX8_init_25 (fun q9 H F10 L11 hnq9 eF10 eL11 hP hD hS => ?_)
  have hmo_11 : o ∈ L11 := by rw [eL11]; exact List.mem_append_left _ hmo_7
  have hFo_11 : F10 o = .inr (7, [.ref q1, .ref q5, .null, .null, .null, .null, .null, .int 0, .int 0]) := by rw [eF10, va_up_ne _ _ (fun z => hnq9 (by rw [← z]; exact hmo_7))]; exact hFo_8
  have hmq1_11 : q1 ∈ L11 := by rw [eL11]; exact List.mem_append_left _ hmq1_7
  have hFq1_11 : F10 q1 = cQ (cy 7) 10 (fun _ => none) := by rw [eF10, va_up_ne _ _ (fun z => hnq9 (by rw [← z]; exact hmq1_7))]; exact hFq1_8
  have hmq5_11 : q5 ∈ L11 := by rw [eL11]; exact List.mem_append_left _ hmq5
  have hFq5_11 : F10 q5 = cQ (cy 5) 6 (fun _ => none) := by rw [eF10, va_up_ne _ _ (fun z => hnq9 (by rw [← z]; exact hmq5))]; exact hFq5_8
  have hmq9 : q9 ∈ L11 := by rw [eL11]; exact List.mem_append_right _ (List.mem_singleton.mpr rfl)
  have hFq9 : F10 q9 = cQ (cy 6) 8 (fun _ => none) := by rw [eF10]; exact va_up_self _ _ _
  refine pg_putF (ci := 7) (v := .ref q9) (ty := (.array (.object "RopeDrums$Log"))) (C := RX8) (T := TX8) (N := 9) hx hb hts hinX8 tyX8 tyX8_ok nmX8 hown hK hP hD hS hmo_11 hFo_11 rfl 2 (by decide) (hts (.fieldLink RX8 23 "RopeDrums" "logs" "[LRopeDrums$Log;") (by decide +kernel)) (fun _ h9 => h9) rfl hin2 rfl (by decide +kernel) (rfl) (rfl) (Nat.le_of_ble_eq_true rfl) dX8_init_28 (fun H locs F12 eF12 hP hS => ?_)
  have eF12 : F12 = va_up F10 o (.inr (7, [.ref q1, .ref q5, .ref q9, .null, .null, .null, .null, .int 0, .int 0])) := eF12
  have hFo_12 : F12 o = .inr (7, [.ref q1, .ref q5, .ref q9, .null, .null, .null, .null, .int 0, .int 0]) := by rw [eF12]; exact va_up_self _ _ _
  have hFq1_12 : F12 q1 = cQ (cy 7) 10 (fun _ => none) := by rw [eF12, va_up_ne _ _ (pl_ne hFq1_11 hFo_11 rfl)]; exact hFq1_11
  have hFq5_12 : F12 q5 = cQ (cy 5) 6 (fun _ => none) := by rw [eF12, va_up_ne _ _ (pl_ne hFq5_11 hFo_11 rfl)]; exact hFq5_11
  have hFq9_12 : F12 q9 = cQ (cy 6) 8 (fun _ => none) := by rw [eF12, va_up_ne _ _ (pl_ne hFq9 hFo_11 rfl)]; exact hFq9
  refine lv_aload_n hx hb dX8_init_31 rfl (lv_at hl 0 rfl) ?_
  refine lv_bipush (v := 30) hx hb dX8_init_32 (by decide) ?_
  refine pg_newq (C := RX7) (N' := 30) hx hb hown (hts (.classLink RX8 27 RX7) (by decide +kernel)) hZ.2.2.2.2.2.2 hK 9 rfl hP hD hS hA (by decide) rfl (by decide) (Nat.le_of_ble_eq_true rfl) (Nat.le_of_ble_eq_true rfl) dX8_init_34 (fun q13 H F14 L15 hnq13 eF14 eL15 hP hD hS => ?_)
  have hmo_15 : o ∈ L15 := by rw [eL15]; exact List.mem_append_left _ hmo_11
  have hFo_15 : F14 o = .inr (7, [.ref q1, .ref q5, .ref q9, .null, .null, .null, .null, .int 0, .int 0]) := by rw [eF14, va_up_ne _ _ (fun z => hnq13 (by rw [← z]; exact hmo_11))]; exact hFo_12
  have hmq1_15 : q1 ∈ L15 := by rw [eL15]; exact List.mem_append_left _ hmq1_11
  have hFq1_15 : F14 q1 = cQ (cy 7) 10 (fun _ => none) := by rw [eF14, va_up_ne _ _ (fun z => hnq13 (by rw [← z]; exact hmq1_11))]; exact hFq1_12
  have hmq5_15 : q5 ∈ L15 := by rw [eL15]; exact List.mem_append_left _ hmq5_11
  have hFq5_15 : F14 q5 = cQ (cy 5) 6 (fun _ => none) := by rw [eF14, va_up_ne _ _ (fun z => hnq13 (by rw [← z]; exact hmq5_11))]; exact hFq5_12
  have hmq9_15 : q9 ∈ L15 := by rw [eL15]; exact List.mem_append_left _ hmq9
  have hFq9_15 : F14 q9 = cQ (cy 6) 8 (fun _ => none) := by rw [eF14, va_up_ne _ _ (fun z => hnq13 (by rw [← z]; exact hmq9))]; exact hFq9_12
  have hmq13 : q13 ∈ L15 := by rw [eL15]; exact List.mem_append_right _ (List.mem_singleton.mpr rfl)
  have hFq13 : F14 q13 = cQ (cy 9) 30 (fun _ => none) := by rw [eF14]; exact va_up_self _ _ _
  refine pg_putF (ci := 7) (v := .ref q13) (ty := (.array (.object "RopeDrums$Spool"))) (C := RX8) (T := TX8) (N := 9) hx hb hts hinX8 tyX8 tyX8_ok nmX8 hown hK hP hD hS hmo_15 hFo_15 rfl 3 (by decide) (hts (.fieldLink RX8 29 "RopeDrums" "spools" "[LRopeDrums$Spool;") (by decide +kernel)) (fun _ h9 => h9) rfl hin2 rfl (by decide +kernel) (rfl) (rfl) (Nat.le_of_ble_eq_true rfl) dX8_init_37 (fun H locs F16 eF16 hP hS => ?_)
  have eF16 : F16 = va_up F14 o (.inr (7, [.ref q1, .ref q5, .ref q9, .ref q13, .null, .null, .null, .int 0, .int 0])) := eF16
  have hFo_16 : F16 o = .inr (7, [.ref q1, .ref q5, .ref q9, .ref q13, .null, .null, .null, .int 0, .int 0]) := by rw [eF16]; exact va_up_self _ _ _
  have hFq1_16 : F16 q1 = cQ (cy 7) 10 (fun _ => none) := by rw [eF16, va_up_ne _ _ (pl_ne hFq1_15 hFo_15 rfl)]; exact hFq1_15
  have hFq5_16 : F16 q5 = cQ (cy 5) 6 (fun _ => none) := by rw [eF16, va_up_ne _ _ (pl_ne hFq5_15 hFo_15 rfl)]; exact hFq5_15
  have hFq9_16 : F16 q9 = cQ (cy 6) 8 (fun _ => none) := by rw [eF16, va_up_ne _ _ (pl_ne hFq9_15 hFo_15 rfl)]; exact hFq9_15
  have hFq13_16 : F16 q13 = cQ (cy 9) 30 (fun _ => none) := by rw [eF16, va_up_ne _ _ (pl_ne hFq13 hFo_15 rfl)]; exact hFq13
  refine lv_aload_n hx hb dX8_init_40 rfl (lv_at hl 0 rfl) ?_
  refine lv_iconst (v := 5) hx hb dX8_init_41 (by decide) ?_
  refine pg_newq (C := RX6) (N' := 5) hx hb hown (hts (.classLink RX8 33 RX6) (by decide +kernel)) hZ.2.2.2.2.2.1 hK 8 rfl hP hD hS hA (by decide) rfl (by decide) (Nat.le_of_ble_eq_true rfl) (Nat.le_of_ble_eq_true rfl) dX8_init_42 (fun q17 H F18 L19 hnq17 eF18 eL19 hP hD hS => ?_)
  have hmo_19 : o ∈ L19 := by rw [eL19]; exact List.mem_append_left _ hmo_15
  have hFo_19 : F18 o = .inr (7, [.ref q1, .ref q5, .ref q9, .ref q13, .null, .null, .null, .int 0, .int 0]) := by rw [eF18, va_up_ne _ _ (fun z => hnq17 (by rw [← z]; exact hmo_15))]; exact hFo_16
  have hmq1_19 : q1 ∈ L19 := by rw [eL19]; exact List.mem_append_left _ hmq1_15
  have hFq1_19 : F18 q1 = cQ (cy 7) 10 (fun _ => none) := by rw [eF18, va_up_ne _ _ (fun z => hnq17 (by rw [← z]; exact hmq1_15))]; exact hFq1_16
  have hmq5_19 : q5 ∈ L19 := by rw [eL19]; exact List.mem_append_left _ hmq5_15
  have hFq5_19 : F18 q5 = cQ (cy 5) 6 (fun _ => none) := by rw [eF18, va_up_ne _ _ (fun z => hnq17 (by rw [← z]; exact hmq5_15))]; exact hFq5_16
  have hmq9_19 : q9 ∈ L19 := by rw [eL19]; exact List.mem_append_left _ hmq9_15
  have hFq9_19 : F18 q9 = cQ (cy 6) 8 (fun _ => none) := by rw [eF18, va_up_ne _ _ (fun z => hnq17 (by rw [← z]; exact hmq9_15))]; exact hFq9_16
  have hmq13_19 : q13 ∈ L19 := by rw [eL19]; exact List.mem_append_left _ hmq13
  have hFq13_19 : F18 q13 = cQ (cy 9) 30 (fun _ => none) := by rw [eF18, va_up_ne _ _ (fun z => hnq17 (by rw [← z]; exact hmq13))]; exact hFq13_16
  have hmq17 : q17 ∈ L19 := by rw [eL19]; exact List.mem_append_right _ (List.mem_singleton.mpr rfl)
  have hFq17 : F18 q17 = cQ (cy 8) 5 (fun _ => none) := by rw [eF18]; exact va_up_self _ _ _
  refine pg_putF (ci := 7) (v := .ref q17) (ty := (.array (.object "RopeDrums$Rack"))) (C := RX8) (T := TX8) (N := 9) hx hb hts hinX8 tyX8 tyX8_ok nmX8 hown hK hP hD hS hmo_19 hFo_19 rfl 4 (by decide) (hts (.fieldLink RX8 35 "RopeDrums" "racks" "[LRopeDrums$Rack;") (by decide +kernel)) (fun _ h9 => h9) rfl hin2 rfl (by decide +kernel) (rfl) (rfl) (Nat.le_of_ble_eq_true rfl) dX8_init_45 (fun H locs F20 eF20 hP hS => ?_)
  have eF20 : F20 = va_up F18 o (.inr (7, [.ref q1, .ref q5, .ref q9, .ref q13, .ref q17, .null, .null, .int 0, .int 0])) := eF20
  have hFo_20 : F20 o = .inr (7, [.ref q1, .ref q5, .ref q9, .ref q13, .ref q17, .null, .null, .int 0, .int 0]) := by rw [eF20]; exact va_up_self _ _ _
  have hFq1_20 : F20 q1 = cQ (cy 7) 10 (fun _ => none) := by rw [eF20, va_up_ne _ _ (pl_ne hFq1_19 hFo_19 rfl)]; exact hFq1_19
  have hFq5_20 : F20 q5 = cQ (cy 5) 6 (fun _ => none) := by rw [eF20, va_up_ne _ _ (pl_ne hFq5_19 hFo_19 rfl)]; exact hFq5_19
  have hFq9_20 : F20 q9 = cQ (cy 6) 8 (fun _ => none) := by rw [eF20, va_up_ne _ _ (pl_ne hFq9_19 hFo_19 rfl)]; exact hFq9_19
  have hFq13_20 : F20 q13 = cQ (cy 9) 30 (fun _ => none) := by rw [eF20, va_up_ne _ _ (pl_ne hFq13_19 hFo_19 rfl)]; exact hFq13_19
  have hFq17_20 : F20 q17 = cQ (cy 8) 5 (fun _ => none) := by rw [eF20, va_up_ne _ _ (pl_ne hFq17 hFo_19 rfl)]; exact hFq17
  refine lv_aload_n hx hb dX8_init_48 rfl (lv_at hl 0 rfl) ?_
  refine lv_iconst (v := 4) hx hb dX8_init_49 (by decide) ?_
  refine pg_newq (C := RX0) (N' := 4) hx hb hown (hts (.classLink RX8 39 RX0) (by decide +kernel)) hZ.2.1 hK 4 rfl hP hD hS hA (by decide) rfl (by decide) (Nat.le_of_ble_eq_true rfl) (Nat.le_of_ble_eq_true rfl) dX8_init_50 (fun q21 H F22 L23 hnq21 eF22 eL23 hP hD hS => ?_)
  have hmo_23 : o ∈ L23 := by rw [eL23]; exact List.mem_append_left _ hmo_19
  have hFo_23 : F22 o = .inr (7, [.ref q1, .ref q5, .ref q9, .ref q13, .ref q17, .null, .null, .int 0, .int 0]) := by rw [eF22, va_up_ne _ _ (fun z => hnq21 (by rw [← z]; exact hmo_19))]; exact hFo_20
  have hmq1_23 : q1 ∈ L23 := by rw [eL23]; exact List.mem_append_left _ hmq1_19
  have hFq1_23 : F22 q1 = cQ (cy 7) 10 (fun _ => none) := by rw [eF22, va_up_ne _ _ (fun z => hnq21 (by rw [← z]; exact hmq1_19))]; exact hFq1_20
  have hmq5_23 : q5 ∈ L23 := by rw [eL23]; exact List.mem_append_left _ hmq5_19
  have hFq5_23 : F22 q5 = cQ (cy 5) 6 (fun _ => none) := by rw [eF22, va_up_ne _ _ (fun z => hnq21 (by rw [← z]; exact hmq5_19))]; exact hFq5_20
  have hmq9_23 : q9 ∈ L23 := by rw [eL23]; exact List.mem_append_left _ hmq9_19
  have hFq9_23 : F22 q9 = cQ (cy 6) 8 (fun _ => none) := by rw [eF22, va_up_ne _ _ (fun z => hnq21 (by rw [← z]; exact hmq9_19))]; exact hFq9_20
  have hmq13_23 : q13 ∈ L23 := by rw [eL23]; exact List.mem_append_left _ hmq13_19
  have hFq13_23 : F22 q13 = cQ (cy 9) 30 (fun _ => none) := by rw [eF22, va_up_ne _ _ (fun z => hnq21 (by rw [← z]; exact hmq13_19))]; exact hFq13_20
  have hmq17_23 : q17 ∈ L23 := by rw [eL23]; exact List.mem_append_left _ hmq17
  have hFq17_23 : F22 q17 = cQ (cy 8) 5 (fun _ => none) := by rw [eF22, va_up_ne _ _ (fun z => hnq21 (by rw [← z]; exact hmq17))]; exact hFq17_20
  have hmq21 : q21 ∈ L23 := by rw [eL23]; exact List.mem_append_right _ (List.mem_singleton.mpr rfl)
  have hFq21 : F22 q21 = cQ (cy 4) 4 (fun _ => none) := by rw [eF22]; exact va_up_self _ _ _
  refine pg_putF (ci := 7) (v := .ref q21) (ty := (.array (.object "RopeDrums$Brake"))) (C := RX8) (T := TX8) (N := 9) hx hb hts hinX8 tyX8 tyX8_ok nmX8 hown hK hP hD hS hmo_23 hFo_23 rfl 5 (by decide) (hts (.fieldLink RX8 41 "RopeDrums" "brakes" "[LRopeDrums$Brake;") (by decide +kernel)) (fun _ h9 => h9) rfl hin2 rfl (by decide +kernel) (rfl) (rfl) (Nat.le_of_ble_eq_true rfl) dX8_init_53 (fun H locs F24 eF24 hP hS => ?_)
  have eF24 : F24 = va_up F22 o (.inr (7, [.ref q1, .ref q5, .ref q9, .ref q13, .ref q17, .ref q21, .null, .int 0, .int 0])) := eF24
  have hFo_24 : F24 o = .inr (7, [.ref q1, .ref q5, .ref q9, .ref q13, .ref q17, .ref q21, .null, .int 0, .int 0]) := by rw [eF24]; exact va_up_self _ _ _
  have hFq1_24 : F24 q1 = cQ (cy 7) 10 (fun _ => none) := by rw [eF24, va_up_ne _ _ (pl_ne hFq1_23 hFo_23 rfl)]; exact hFq1_23
  have hFq5_24 : F24 q5 = cQ (cy 5) 6 (fun _ => none) := by rw [eF24, va_up_ne _ _ (pl_ne hFq5_23 hFo_23 rfl)]; exact hFq5_23
  have hFq9_24 : F24 q9 = cQ (cy 6) 8 (fun _ => none) := by rw [eF24, va_up_ne _ _ (pl_ne hFq9_23 hFo_23 rfl)]; exact hFq9_23
  have hFq13_24 : F24 q13 = cQ (cy 9) 30 (fun _ => none) := by rw [eF24, va_up_ne _ _ (pl_ne hFq13_23 hFo_23 rfl)]; exact hFq13_23
  have hFq17_24 : F24 q17 = cQ (cy 8) 5 (fun _ => none) := by rw [eF24, va_up_ne _ _ (pl_ne hFq17_23 hFo_23 rfl)]; exact hFq17_23
  have hFq21_24 : F24 q21 = cQ (cy 4) 4 (fun _ => none) := by rw [eF24, va_up_ne _ _ (pl_ne hFq21 hFo_23 rfl)]; exact hFq21
  refine lv_aload_n hx hb dX8_init_56 rfl (lv_at hl 0 rfl) ?_
  refine lv_bipush (v := 6) hx hb dX8_init_57 (by decide) ?_
  refine pg_newa (N' := 6) (atype := .int) (ty := .int) hx hb (hts (.arrayClass .int) (by decide +kernel)) rfl hK 1 rfl hP hD hS hA (6, .inl (fun _ => 0)) (fun cA => by rw [vp_cell_i] <;> rfl) (by decide) rfl (by decide) (Nat.le_of_ble_eq_true rfl) (Nat.le_of_ble_eq_true rfl) dX8_init_59 (fun q25 H F26 L27 hnq25 eF26 eL27 hP hD hS => ?_)
  have hmo_27 : o ∈ L27 := by rw [eL27]; exact List.mem_append_left _ hmo_23
  have hFo_27 : F26 o = .inr (7, [.ref q1, .ref q5, .ref q9, .ref q13, .ref q17, .ref q21, .null, .int 0, .int 0]) := by rw [eF26, va_up_ne _ _ (fun z => hnq25 (by rw [← z]; exact hmo_23))]; exact hFo_24
  have hmq1_27 : q1 ∈ L27 := by rw [eL27]; exact List.mem_append_left _ hmq1_23
  have hFq1_27 : F26 q1 = cQ (cy 7) 10 (fun _ => none) := by rw [eF26, va_up_ne _ _ (fun z => hnq25 (by rw [← z]; exact hmq1_23))]; exact hFq1_24
  have hmq5_27 : q5 ∈ L27 := by rw [eL27]; exact List.mem_append_left _ hmq5_23
  have hFq5_27 : F26 q5 = cQ (cy 5) 6 (fun _ => none) := by rw [eF26, va_up_ne _ _ (fun z => hnq25 (by rw [← z]; exact hmq5_23))]; exact hFq5_24
  have hmq9_27 : q9 ∈ L27 := by rw [eL27]; exact List.mem_append_left _ hmq9_23
  have hFq9_27 : F26 q9 = cQ (cy 6) 8 (fun _ => none) := by rw [eF26, va_up_ne _ _ (fun z => hnq25 (by rw [← z]; exact hmq9_23))]; exact hFq9_24
  have hmq13_27 : q13 ∈ L27 := by rw [eL27]; exact List.mem_append_left _ hmq13_23
  have hFq13_27 : F26 q13 = cQ (cy 9) 30 (fun _ => none) := by rw [eF26, va_up_ne _ _ (fun z => hnq25 (by rw [← z]; exact hmq13_23))]; exact hFq13_24
  have hmq17_27 : q17 ∈ L27 := by rw [eL27]; exact List.mem_append_left _ hmq17_23
  have hFq17_27 : F26 q17 = cQ (cy 8) 5 (fun _ => none) := by rw [eF26, va_up_ne _ _ (fun z => hnq25 (by rw [← z]; exact hmq17_23))]; exact hFq17_24
  have hmq21_27 : q21 ∈ L27 := by rw [eL27]; exact List.mem_append_left _ hmq21
  have hFq21_27 : F26 q21 = cQ (cy 4) 4 (fun _ => none) := by rw [eF26, va_up_ne _ _ (fun z => hnq25 (by rw [← z]; exact hmq21))]; exact hFq21_24
  have hmq25 : q25 ∈ L27 := by rw [eL27]; exact List.mem_append_right _ (List.mem_singleton.mpr rfl)
  have hFq25 : F26 q25 = cI (cy 1) 6 (fun _ => 0) := by rw [eF26]; exact va_up_self _ _ _
  refine pg_putF (ci := 7) (v := .ref q25) (ty := (.array .int)) (C := RX8) (T := TX8) (N := 9) hx hb hts hinX8 tyX8 tyX8_ok nmX8 hown hK hP hD hS hmo_27 hFo_27 rfl 6 (by decide) (hts (.fieldLink RX8 45 "RopeDrums" "failures" "[I") (by decide +kernel)) (fun _ h9 => h9) rfl hin2 rfl (by decide +kernel) (rfl) (rfl) (Nat.le_of_ble_eq_true rfl) dX8_init_61 (fun H locs F28 eF28 hP hS => ?_)
  have eF28 : F28 = va_up F26 o (.inr (7, [.ref q1, .ref q5, .ref q9, .ref q13, .ref q17, .ref q21, .ref q25, .int 0, .int 0])) := eF28
  have hFo_28 : F28 o = .inr (7, [.ref q1, .ref q5, .ref q9, .ref q13, .ref q17, .ref q21, .ref q25, .int 0, .int 0]) := by rw [eF28]; exact va_up_self _ _ _
  have hFq1_28 : F28 q1 = cQ (cy 7) 10 (fun _ => none) := by rw [eF28, va_up_ne _ _ (pl_ne hFq1_27 hFo_27 rfl)]; exact hFq1_27
  have hFq5_28 : F28 q5 = cQ (cy 5) 6 (fun _ => none) := by rw [eF28, va_up_ne _ _ (pl_ne hFq5_27 hFo_27 rfl)]; exact hFq5_27
  have hFq9_28 : F28 q9 = cQ (cy 6) 8 (fun _ => none) := by rw [eF28, va_up_ne _ _ (pl_ne hFq9_27 hFo_27 rfl)]; exact hFq9_27
  have hFq13_28 : F28 q13 = cQ (cy 9) 30 (fun _ => none) := by rw [eF28, va_up_ne _ _ (pl_ne hFq13_27 hFo_27 rfl)]; exact hFq13_27
  have hFq17_28 : F28 q17 = cQ (cy 8) 5 (fun _ => none) := by rw [eF28, va_up_ne _ _ (pl_ne hFq17_27 hFo_27 rfl)]; exact hFq17_27
  have hFq21_28 : F28 q21 = cQ (cy 4) 4 (fun _ => none) := by rw [eF28, va_up_ne _ _ (pl_ne hFq21_27 hFo_27 rfl)]; exact hFq21_27
  have hFq25_28 : F28 q25 = cI (cy 1) 6 (fun _ => 0) := by rw [eF28, va_up_ne _ _ (pl_ne hFq25 hFo_27 rfl)]; exact hFq25
  refine lv_aload_n hx hb dX8_init_64 rfl (lv_at hl 0 rfl) ?_
  refine lv_iconst (v := 0) hx hb dX8_init_65 (by decide) ?_
  refine pg_put (ci := 7) (v := .int 0) (ty := .int) (C := RX8) (T := TX8) (N := 9) hx hb hts hinX8 tyX8 tyX8_ok nmX8 hown hK hP hD hS hmo_27 hFo_28 rfl 7 (by decide) (hts (.fieldLink RX8 49 "RopeDrums" "spoolCount" "I") (by decide +kernel)) (fun _ h9 => h9) rfl (by decide +kernel) (rfl) (rfl) (Nat.le_of_ble_eq_true rfl) dX8_init_66 (fun H locs F29 eF29 hP hS => ?_)
  have eF29 : F29 = va_up F28 o (.inr (7, [.ref q1, .ref q5, .ref q9, .ref q13, .ref q17, .ref q21, .ref q25, .int 0, .int 0])) := eF29
  have hFo_29 : F29 o = .inr (7, [.ref q1, .ref q5, .ref q9, .ref q13, .ref q17, .ref q21, .ref q25, .int 0, .int 0]) := by rw [eF29]; exact va_up_self _ _ _
  have hFq1_29 : F29 q1 = cQ (cy 7) 10 (fun _ => none) := by rw [eF29, va_up_ne _ _ (pl_ne hFq1_28 hFo_28 rfl)]; exact hFq1_28
  have hFq5_29 : F29 q5 = cQ (cy 5) 6 (fun _ => none) := by rw [eF29, va_up_ne _ _ (pl_ne hFq5_28 hFo_28 rfl)]; exact hFq5_28
  have hFq9_29 : F29 q9 = cQ (cy 6) 8 (fun _ => none) := by rw [eF29, va_up_ne _ _ (pl_ne hFq9_28 hFo_28 rfl)]; exact hFq9_28
  have hFq13_29 : F29 q13 = cQ (cy 9) 30 (fun _ => none) := by rw [eF29, va_up_ne _ _ (pl_ne hFq13_28 hFo_28 rfl)]; exact hFq13_28
  have hFq17_29 : F29 q17 = cQ (cy 8) 5 (fun _ => none) := by rw [eF29, va_up_ne _ _ (pl_ne hFq17_28 hFo_28 rfl)]; exact hFq17_28
  have hFq21_29 : F29 q21 = cQ (cy 4) 4 (fun _ => none) := by rw [eF29, va_up_ne _ _ (pl_ne hFq21_28 hFo_28 rfl)]; exact hFq21_28
  have hFq25_29 : F29 q25 = cI (cy 1) 6 (fun _ => 0) := by rw [eF29, va_up_ne _ _ (pl_ne hFq25_28 hFo_28 rfl)]; exact hFq25_28
  refine lv_aload_n hx hb dX8_init_69 rfl (lv_at hl 0 rfl) ?_
  refine lv_iconst (v := 0) hx hb dX8_init_70 (by decide) ?_
  refine pg_put (ci := 7) (v := .int 0) (ty := .int) (C := RX8) (T := TX8) (N := 9) hx hb hts hinX8 tyX8 tyX8_ok nmX8 hown hK hP hD hS hmo_27 hFo_29 rfl 8 (by decide) (hts (.fieldLink RX8 53 "RopeDrums" "latestFailure" "I") (by decide +kernel)) (fun _ h9 => h9) rfl (by decide +kernel) (rfl) (rfl) (Nat.le_of_ble_eq_true rfl) dX8_init_71 (fun H locs F30 eF30 hP hS => ?_)
  have eF30 : F30 = va_up F29 o (.inr (7, [.ref q1, .ref q5, .ref q9, .ref q13, .ref q17, .ref q21, .ref q25, .int 0, .int 0])) := eF30
  have hFo_30 : F30 o = .inr (7, [.ref q1, .ref q5, .ref q9, .ref q13, .ref q17, .ref q21, .ref q25, .int 0, .int 0]) := by rw [eF30]; exact va_up_self _ _ _
  have hFq1_30 : F30 q1 = cQ (cy 7) 10 (fun _ => none) := by rw [eF30, va_up_ne _ _ (pl_ne hFq1_29 hFo_29 rfl)]; exact hFq1_29
  have hFq5_30 : F30 q5 = cQ (cy 5) 6 (fun _ => none) := by rw [eF30, va_up_ne _ _ (pl_ne hFq5_29 hFo_29 rfl)]; exact hFq5_29
  have hFq9_30 : F30 q9 = cQ (cy 6) 8 (fun _ => none) := by rw [eF30, va_up_ne _ _ (pl_ne hFq9_29 hFo_29 rfl)]; exact hFq9_29
  have hFq13_30 : F30 q13 = cQ (cy 9) 30 (fun _ => none) := by rw [eF30, va_up_ne _ _ (pl_ne hFq13_29 hFo_29 rfl)]; exact hFq13_29
  have hFq17_30 : F30 q17 = cQ (cy 8) 5 (fun _ => none) := by rw [eF30, va_up_ne _ _ (pl_ne hFq17_29 hFo_29 rfl)]; exact hFq17_29
  have hFq21_30 : F30 q21 = cQ (cy 4) 4 (fun _ => none) := by rw [eF30, va_up_ne _ _ (pl_ne hFq21_29 hFo_29 rfl)]; exact hFq21_29
  have hFq25_30 : F30 q25 = cI (cy 1) 6 (fun _ => 0) := by rw [eF30, va_up_ne _ _ (pl_ne hFq25_29 hFo_29 rfl)]; exact hFq25_29
  refine lv_iconst (v := 0) hx hb dX8_init_74 (by decide) ?_
  refine lv_istore_n (lv' := [(1, .int 0), (0, .ref o)]) hx hb dX8_init_75 rfl hl (by decide) rfl (fun ls hl => ?_)
  have hC : RepC cy L27 o (fun a b => if a = 8 then (match b with | 0 => q1 | 1 => q5 | 2 => q9 | 3 => q13 | 4 => q17 | 5 => q21 | _ => q25) else 0) 0 0 0 0 0 F30 := ⟨⟨⟨hmo_27, hFo_30⟩, ⟨hmq25, hFq25_30⟩, ⟨hmq13_27, hFq13_30⟩⟩, ⟨⟨hmq1_27, (by rw [pR0]; exact hFq1_30)⟩, ⟨hmq5_27, (by rw [pR0]; exact hFq5_30)⟩, ⟨hmq9_27, (by rw [pR0]; exact hFq9_30)⟩, ⟨hmq17_27, (by rw [pR0]; exact hFq17_30)⟩, ⟨hmq21_27, (by rw [pR0]; exact hFq21_30)⟩⟩, fun j hj => absurd hj (Nat.not_lt_zero _), fun j hj => absurd hj (Nat.not_lt_zero _), fun j hj => absurd hj (Nat.not_lt_zero _), fun j hj => absurd hj (Nat.not_lt_zero _), fun j hj => absurd hj (Nat.not_lt_zero _), fun i j hi => absurd hi (Nat.not_lt_zero _), fun i j hi => absurd hi (Nat.not_lt_zero _), fun i j hi => absurd hi (Nat.not_lt_zero _), fun i j hi => absurd hi (Nat.not_lt_zero _), fun i j hi => absurd hi (Nat.not_lt_zero _), fun i j hi => absurd hi (Nat.not_lt_zero _), fun i j hi => absurd hi (Nat.not_lt_zero _)⟩
  refine W.widen (k := 7 + 0 * 1) (n := 69 + 0 * 3) (Nat.le_of_ble_eq_true rfl) (Nat.le_of_ble_eq_true rfl) ?_
  refine lp_g (pc := 76) (nL := 2) (α := Nat × List Nat × (Nat → Nat → Nat) × (Nat → va_E)) (fun xx => xx.1 ≤ 10 ∧ pD A xx.2.1 ∧ RepC cy xx.2.1 o xx.2.2.1 xx.1 0 0 0 0 xx.2.2.2) (fun xx => [(1, .int (nI xx.1)), (0, .ref o)]) (fun xx => va_pl xx.2.1 xx.2.2.2) (fun xx => 7 + xx.1 * 1) (fun xx => 69 + xx.1 * 3) (fun xx => 10 - xx.1) (fun xx ls H locs hI hP hS hl K => ?_) (0, L27, (fun a b => if a = 8 then (match b with | 0 => q1 | 1 => q5 | 2 => q9 | 3 => q13 | 4 => q17 | 5 => q21 | _ => q25) else 0), F30) ls ⟨Nat.zero_le _, hD, hC⟩ hP hS (lv_sub hl [0, 1] rfl)
  obtain ⟨kk0, Lx0, qx0, Fx0⟩ := xx
  obtain ⟨hle, hD, hC⟩ := hI
  have hle : kk0 ≤ 10 := hle
  have hD : pD A Lx0 := hD
  have hC : RepC cy Lx0 o qx0 kk0 0 0 0 0 Fx0 := hC
  have hP : va_P G vwCl (va_pl Lx0 Fx0) H := hP
  have hmo := hC.1.1.1
  have hFo := hC.1.1.2
  have hma := hC.2.1.1.1
  have hFa := hC.2.1.1.2
  have hl : lv_has ls 2 [(1, .int (nI kk0)), (0, .ref o)] := hl
  refine lv_iload_n hx hb dX8_init_76 rfl (lv_at hl 0 rfl) ?_
  refine lv_bipush (v := 10) hx hb dX8_init_77 (by decide) ?_
  refine lv_icmp_ge (tgt := 101) hx hb dX8_init_79 (by decide) (fun c31 => ?_) (fun c31 => ?_)
  · refine lv_iconst (v := 0) hx hb dX8_init_101 (by decide) ?_
    refine lv_istore_n (lv' := [(1, .int 0), (0, .ref o)]) hx hb dX8_init_102 rfl hl (by decide) rfl (fun ls hl => ?_)
    have hge : kk0 = 10 := by have hc := c31; rw [fa_le, nI_toInt (by omega)] at hc; have h7 : (10 : Int32).toInt = 10 := (by decide); omega
    rw [hge] at hC
    refine W.widen (k := 17 + 0 * 1) (n := 99 + 0 * 4) (by omega) (by omega) ?_
    refine lp_g (pc := 103) (nL := 2) (α := Nat × List Nat × (Nat → Nat → Nat) × (Nat → va_E)) (fun xx => xx.1 ≤ 6 ∧ pD A xx.2.1 ∧ RepC cy xx.2.1 o xx.2.2.1 10 xx.1 0 0 0 xx.2.2.2) (fun xx => [(1, .int (nI xx.1)), (0, .ref o)]) (fun xx => va_pl xx.2.1 xx.2.2.2) (fun xx => 17 + xx.1 * 1) (fun xx => 99 + xx.1 * 4) (fun xx => 6 - xx.1) (fun xx ls H locs hI hP hS hl K => ?_) (0, Lx0, qx0, Fx0) ls ⟨Nat.zero_le _, hD, hC⟩ hP hS (lv_sub hl [0, 1] rfl)
    obtain ⟨kk1, Lx1, qx1, Fx1⟩ := xx
    obtain ⟨hle, hD, hC⟩ := hI
    have hle : kk1 ≤ 6 := hle
    have hD : pD A Lx1 := hD
    have hC : RepC cy Lx1 o qx1 10 kk1 0 0 0 Fx1 := hC
    have hP : va_P G vwCl (va_pl Lx1 Fx1) H := hP
    have hmo := hC.1.1.1
    have hFo := hC.1.1.2
    have hma := hC.2.1.2.1.1
    have hFa := hC.2.1.2.1.2
    have hl : lv_has ls 2 [(1, .int (nI kk1)), (0, .ref o)] := hl
    refine lv_iload_n hx hb dX8_init_103 rfl (lv_at hl 0 rfl) ?_
    refine lv_bipush (v := 6) hx hb dX8_init_104 (by decide) ?_
    refine lv_icmp_ge (tgt := 128) hx hb dX8_init_106 (by decide) (fun c32 => ?_) (fun c32 => ?_)
    · refine lv_iconst (v := 0) hx hb dX8_init_128 (by decide) ?_
      refine lv_istore_n (lv' := [(1, .int 0), (0, .ref o)]) hx hb dX8_init_129 rfl hl (by decide) rfl (fun ls hl => ?_)
      have hge : kk1 = 6 := by have hc := c32; rw [fa_le, nI_toInt (by omega)] at hc; have h7 : (6 : Int32).toInt = 6 := (by decide); omega
      rw [hge] at hC
      refine W.widen (k := 23 + 0 * 2) (n := 123 + 0 * 19) (by omega) (by omega) ?_
      refine lp_g (pc := 130) (nL := 2) (α := Nat × List Nat × (Nat → Nat → Nat) × (Nat → va_E)) (fun xx => xx.1 ≤ 8 ∧ pD A xx.2.1 ∧ RepC cy xx.2.1 o xx.2.2.1 10 6 xx.1 0 0 xx.2.2.2) (fun xx => [(1, .int (nI xx.1)), (0, .ref o)]) (fun xx => va_pl xx.2.1 xx.2.2.2) (fun xx => 23 + xx.1 * 2) (fun xx => 123 + xx.1 * 19) (fun xx => 8 - xx.1) (fun xx ls H locs hI hP hS hl K => ?_) (0, Lx1, qx1, Fx1) ls ⟨Nat.zero_le _, hD, hC⟩ hP hS (lv_sub hl [0, 1] rfl)
      obtain ⟨kk2, Lx2, qx2, Fx2⟩ := xx
      obtain ⟨hle, hD, hC⟩ := hI
      have hle : kk2 ≤ 8 := hle
      have hD : pD A Lx2 := hD
      have hC : RepC cy Lx2 o qx2 10 6 kk2 0 0 Fx2 := hC
      have hP : va_P G vwCl (va_pl Lx2 Fx2) H := hP
      have hmo := hC.1.1.1
      have hFo := hC.1.1.2
      have hma := hC.2.1.2.2.1.1
      have hFa := hC.2.1.2.2.1.2
      have hl : lv_has ls 2 [(1, .int (nI kk2)), (0, .ref o)] := hl
      refine lv_iload_n hx hb dX8_init_130 rfl (lv_at hl 0 rfl) ?_
      refine lv_bipush (v := 8) hx hb dX8_init_131 (by decide) ?_
      refine lv_icmp_ge (tgt := 165) hx hb dX8_init_133 (by decide) (fun c33 => ?_) (fun c33 => ?_)
      · refine lv_iconst (v := 0) hx hb dX8_init_165 (by decide) ?_
        refine lv_istore_n (lv' := [(1, .int 0), (0, .ref o)]) hx hb dX8_init_166 rfl hl (by decide) rfl (fun ls hl => ?_)
        have hge : kk2 = 8 := by have hc := c33; rw [fa_le, nI_toInt (by omega)] at hc; have h7 : (8 : Int32).toInt = 8 := (by decide); omega
        rw [hge] at hC
        refine W.widen (k := 39 + 0 * 2) (n := 275 + 0 * 15) (by omega) (by omega) ?_
        refine lp_g (pc := 167) (nL := 2) (α := Nat × List Nat × (Nat → Nat → Nat) × (Nat → va_E)) (fun xx => xx.1 ≤ 5 ∧ pD A xx.2.1 ∧ RepC cy xx.2.1 o xx.2.2.1 10 6 8 xx.1 0 xx.2.2.2) (fun xx => [(1, .int (nI xx.1)), (0, .ref o)]) (fun xx => va_pl xx.2.1 xx.2.2.2) (fun xx => 39 + xx.1 * 2) (fun xx => 275 + xx.1 * 15) (fun xx => 5 - xx.1) (fun xx ls H locs hI hP hS hl K => ?_) (0, Lx2, qx2, Fx2) ls ⟨Nat.zero_le _, hD, hC⟩ hP hS (lv_sub hl [0, 1] rfl)
        obtain ⟨kk3, Lx3, qx3, Fx3⟩ := xx
        obtain ⟨hle, hD, hC⟩ := hI
        have hle : kk3 ≤ 5 := hle
        have hD : pD A Lx3 := hD
        have hC : RepC cy Lx3 o qx3 10 6 8 kk3 0 Fx3 := hC
        have hP : va_P G vwCl (va_pl Lx3 Fx3) H := hP
        have hmo := hC.1.1.1
        have hFo := hC.1.1.2
        have hma := hC.2.1.2.2.2.1.1
        have hFa := hC.2.1.2.2.2.1.2
        have hl : lv_has ls 2 [(1, .int (nI kk3)), (0, .ref o)] := hl
        refine lv_iload_n hx hb dX8_init_167 rfl (lv_at hl 0 rfl) ?_
        refine lv_iconst (v := 5) hx hb dX8_init_168 (by decide) ?_
        refine lv_icmp_ge (tgt := 191) hx hb dX8_init_169 (by decide) (fun c34 => ?_) (fun c34 => ?_)
        · refine lv_iconst (v := 0) hx hb dX8_init_191 (by decide) ?_
          refine lv_istore_n (lv' := [(1, .int 0), (0, .ref o)]) hx hb dX8_init_192 rfl hl (by decide) rfl (fun ls hl => ?_)
          have hge : kk3 = 5 := by have hc := c34; rw [fa_le, nI_toInt (by omega)] at hc; have h7 : (5 : Int32).toInt = 5 := (by decide); omega
          rw [hge] at hC
          refine W.widen (k := 49 + 0 * 1) (n := 350 + 0 * 2) (by omega) (by omega) ?_
          refine lp_g (pc := 193) (nL := 2) (α := Nat × List Nat × (Nat → Nat → Nat) × (Nat → va_E)) (fun xx => xx.1 ≤ 4 ∧ pD A xx.2.1 ∧ RepC cy xx.2.1 o xx.2.2.1 10 6 8 5 xx.1 xx.2.2.2) (fun xx => [(1, .int (nI xx.1)), (0, .ref o)]) (fun xx => va_pl xx.2.1 xx.2.2.2) (fun xx => 49 + xx.1 * 1) (fun xx => 350 + xx.1 * 2) (fun xx => 4 - xx.1) (fun xx ls H locs hI hP hS hl K => ?_) (0, Lx3, qx3, Fx3) ls ⟨Nat.zero_le _, hD, hC⟩ hP hS (lv_sub hl [0, 1] rfl)
          obtain ⟨kk4, Lx4, qx4, Fx4⟩ := xx
          obtain ⟨hle, hD, hC⟩ := hI
          have hle : kk4 ≤ 4 := hle
          have hD : pD A Lx4 := hD
          have hC : RepC cy Lx4 o qx4 10 6 8 5 kk4 Fx4 := hC
          have hP : va_P G vwCl (va_pl Lx4 Fx4) H := hP
          have hmo := hC.1.1.1
          have hFo := hC.1.1.2
          have hma := hC.2.1.2.2.2.2.1
          have hFa := hC.2.1.2.2.2.2.2
          have hl : lv_has ls 2 [(1, .int (nI kk4)), (0, .ref o)] := hl
          refine lv_iload_n hx hb dX8_init_193 rfl (lv_at hl 0 rfl) ?_
          refine lv_iconst (v := 4) hx hb dX8_init_194 (by decide) ?_
          refine lv_icmp_ge (tgt := 217) hx hb dX8_init_195 (by decide) (fun c35 => ?_) (fun c35 => ?_)
          · refine W.widen (k := 53) (n := 358) (by omega) (by omega) ?_
            exact W.vret hx hb hr (fun t ht hW => ⟨⟨(Lx4, Fx4), rfl, ⟨qx4, (by have hge : kk4 = 4 := (by have hc := c35; rw [fa_le, nI_toInt (by omega)] at hc; have h7 : (4 : Int32).toInt = 4 := (by decide); omega); rw [hge] at hC; exact hC.done), hD⟩, (by show va_P _ _ _ t.heap; rw [ht]; exact hP)⟩, hS.F ht⟩) hS.2.2 dX8_init_217
          · have hlt : kk4 < 4 := by have hc := c35; rw [fa_le, nI_toInt (by omega)] at hc; have h7 : (4 : Int32).toInt = 4 := (by decide); omega
            refine lv_aload_n hx hb dX8_init_198 rfl (lv_at hl 1 rfl) ?_
            refine pg_get (ci := 7) (C := RX8) (T := TX8) (N := 9) hx hb hts hinX8 hown hK hP hmo hFo rfl 5 (by decide) (hts (.fieldLink RX8 41 "RopeDrums" "brakes" "[LRopeDrums$Brake;") (by decide +kernel)) (fun _ h9 => h9) rfl dX8_init_199 ?_
            refine lv_iload_n hx hb dX8_init_202 rfl (lv_at hl 0 rfl) ?_
            refine pg_newo (ci := 0) (T := TX0) (N := 2) hx hb hts hinX0 tyX0 tyX0_ok hown (hts (.classLink RX8 39 RX0) (by decide +kernel)) (hts (.instantiable RX0 2) (by decide +kernel)) (hts (.initialized RX0) (by decide +kernel)) hK hP hD hS hA rfl [.int 0, .double 0] (by decide +kernel) (by show _ ≤ 53; omega) (by show _ ≤ 358; omega) dX8_init_203 (fun q36 H F37 L38 hnq36 eF37 eL38 hP hD hS => ?_)
            have hmo_38 : o ∈ L38 := by rw [eL38]; exact List.mem_append_left _ hmo
            have hFo_38 : F37 o = .inr (7, [.ref (qx4 8 0), .ref (qx4 8 1), .ref (qx4 8 2), .ref (qx4 8 3), .ref (qx4 8 4), .ref (qx4 8 5), .ref (qx4 8 6), .int 0, .int 0]) := by rw [eF37, va_up_ne _ _ (fun z => hnq36 (by rw [← z]; exact hmo))]; exact hFo
            have hmqx485_38 : (qx4 8 5) ∈ L38 := by rw [eL38]; exact List.mem_append_left _ hma
            have hFqx485_38 : F37 (qx4 8 5) = cQ (cy 4) 4 (pR kk4 (qx4 6)) := by rw [eF37, va_up_ne _ _ (fun z => hnq36 (by rw [← z]; exact hma))]; exact hFa
            have hmq36 : q36 ∈ L38 := by rw [eL38]; exact List.mem_append_right _ (List.mem_singleton.mpr rfl)
            have hFq36 : F37 q36 = .inr (0, [.int 0, .double 0]) := by rw [eF37]; exact va_up_self _ _ _
            refine lv_dup hx hb dX8_init_206 rfl ?_
            refine va_callv (va_runIN (As := []) (rest := [.ref q36, .int (nI kk4), .ref (qx4 8 5)]) ⟨hx, hb, hml, hown, hts⟩ (c_X0_init l G cy L38 F37 H.size q36 hmq36 hFq36) (⟨va_cnB 0 hts gX8_init_X0_init_n62 rfl rfl rfl hZ.1.2.2.2.1 (hts (.initialized RX0) (by decide +kernel)) (by decide +kernel) ⟨Nat.le_of_ble_eq_true rfl, Nat.le_of_ble_eq_true rfl⟩, rfl, hts (.instanceMethod yX0_init) (by decide +kernel)⟩) (preS_of okQ (⟨rfl, hP, hK, hD.top⟩)) rfl rfl hl.1 rfl (lv_room (Nat.le_of_ble_eq_true rfl)) dX8_init_207 ⟨by show _ ≤ 53; omega, by show _ ≤ 358; omega⟩) hS (fun q _ h => pl_free hD hS hA q h) (pl_free hD hS hA) (fun F39 t H1 locs ht hvm hw hP1 hz1 hk1 hS => ?_)
            have hP1 : va_P G vwCl (va_pl L38 F39) t.heap := hP1
            rw [ht] at hP1
            have hP := hP1
            generalize H1 = H at hP hS ⊢
            have eF39 : F39 = va_up F37 q36 (.inr (0, [.int 2, .double FP.dconst0])) := hw
            have hFo_39 : F39 o = .inr (7, [.ref (qx4 8 0), .ref (qx4 8 1), .ref (qx4 8 2), .ref (qx4 8 3), .ref (qx4 8 4), .ref (qx4 8 5), .ref (qx4 8 6), .int 0, .int 0]) := by rw [eF39, va_up_ne _ _ (pl_ne hFo_38 hFq36 rfl)]; exact hFo_38
            have hFqx485_39 : F39 (qx4 8 5) = cQ (cy 4) 4 (pR kk4 (qx4 6)) := by rw [eF39, va_up_ne _ _ (pl_ne hFqx485_38 hFq36 rfl)]; exact hFqx485_38
            have hFq36_39 : F39 q36 = .inr (0, [.int 2, .double FP.dconst0]) := by rw [eF39]; exact va_up_self _ _ _
            refine pg_astq hx hb hK hP hD hS 4 0 hmqx485_38 hFqx485_39 rfl hmq36 hFq36_39 rfl (vp_in_nI hlt (by decide)) dX8_init_210 (fun H locs F40 eF40 hP hS => ?_)
            have hFo_40 : F40 o = .inr (7, [.ref (qx4 8 0), .ref (qx4 8 1), .ref (qx4 8 2), .ref (qx4 8 3), .ref (qx4 8 4), .ref (qx4 8 5), .ref (qx4 8 6), .int 0, .int 0]) := by rw [eF40, va_up_ne _ _ (pl_ne hFo_39 hFqx485_39 rfl)]; exact hFo_39
            have hFqx485_40 : F40 (qx4 8 5) = cQ (cy 4) 4 (va_up (pR kk4 (qx4 6)) (nI kk4 : Int32).toNatClampNeg (some q36)) := by rw [eF40]; exact va_up_self _ _ _
            have hFq36_40 : F40 q36 = .inr (0, [.int 2, .double FP.dconst0]) := by rw [eF40, va_up_ne _ _ (pl_ne hFq36_39 hFqx485_39 rfl)]; exact hFq36_39
            obtain ⟨v41, ev41⟩ : ∃ y : Int32, y = (nI kk4) + (1) := ⟨_, rfl⟩
            refine lv_iinc (v := v41) (lv' := [(1, .int v41), (0, .ref o)]) hx hb dX8_init_211 hl (k := 0) rfl (by rw [ev41]; rfl) (by decide) rfl (fun ls hl => ?_)
            refine lv_goto (tgt := 193) hx hb dX8_init_214 (by decide) ?_
            have hv : v41 = nI (kk4 + 1) := by rw [ev41, nI_succ]
            rw [hv] at hl
            have hC := RepC.s6 hC ⟨fun b hb9 => (by rw [eL38]; exact List.mem_append_left _ hb9), fun b hb9 hx9 => (by have n1 : b ≠ qx4 8 5 := (fun z => hx9 (by rw [z]; exact List.mem_cons_self)); have nq36 : b ≠ q36 := (fun z => hnq36 (by rw [← z]; exact hb9)); show F40 b = Fx4 b; rw [eF40, eF39, eF37]; simp only [va_up_ne _ _ n1, va_up_ne _ _ nq36])⟩ hnq36 ⟨hmq36, hFq36_40⟩ ⟨hmqx485_38, (by have hz := hFqx485_40; rw [nI_clamp (by omega)] at hz; exact hz)⟩
            refine W.widen (k := 49 + (kk4 + 1) * 1) (n := 350 + (kk4 + 1) * 2) (by omega) (by omega) ?_
            exact K (kk4 + 1, L38, va_up qx4 6 (va_up (qx4 6) kk4 q36), F40) ls H locs ⟨by show kk4 + 1 ≤ 4; omega, hD, hC⟩ (by show 4 - (kk4 + 1) < 4 - kk4; omega) hP hS (lv_sub hl [0, 1] rfl)
        · have hlt : kk3 < 5 := by have hc := c34; rw [fa_le, nI_toInt (by omega)] at hc; have h7 : (5 : Int32).toInt = 5 := (by decide); omega
          refine lv_aload_n hx hb dX8_init_172 rfl (lv_at hl 1 rfl) ?_
          refine pg_get (ci := 7) (C := RX8) (T := TX8) (N := 9) hx hb hts hinX8 hown hK hP hmo hFo rfl 4 (by decide) (hts (.fieldLink RX8 35 "RopeDrums" "racks" "[LRopeDrums$Rack;") (by decide +kernel)) (fun _ h9 => h9) rfl dX8_init_173 ?_
          refine lv_iload_n hx hb dX8_init_176 rfl (lv_at hl 0 rfl) ?_
          refine pg_newo (ci := 5) (T := TX6) (N := 3) hx hb hts hinX6 tyX6 tyX6_ok hown (hts (.classLink RX8 33 RX6) (by decide +kernel)) (hts (.instantiable RX6 3) (by decide +kernel)) (hts (.initialized RX6) (by decide +kernel)) hK hP hD hS hA rfl [.int 0, .null, .int 0] (by decide +kernel) (by show _ ≤ 53; omega) (by show _ ≤ 358; omega) dX8_init_177 (fun q42 H F43 L44 hnq42 eF43 eL44 hP hD hS => ?_)
          have hmo_44 : o ∈ L44 := by rw [eL44]; exact List.mem_append_left _ hmo
          have hFo_44 : F43 o = .inr (7, [.ref (qx3 8 0), .ref (qx3 8 1), .ref (qx3 8 2), .ref (qx3 8 3), .ref (qx3 8 4), .ref (qx3 8 5), .ref (qx3 8 6), .int 0, .int 0]) := by rw [eF43, va_up_ne _ _ (fun z => hnq42 (by rw [← z]; exact hmo))]; exact hFo
          have hmqx384_44 : (qx3 8 4) ∈ L44 := by rw [eL44]; exact List.mem_append_left _ hma
          have hFqx384_44 : F43 (qx3 8 4) = cQ (cy 8) 5 (pR kk3 (qx3 4)) := by rw [eF43, va_up_ne _ _ (fun z => hnq42 (by rw [← z]; exact hma))]; exact hFa
          have hmq42 : q42 ∈ L44 := by rw [eL44]; exact List.mem_append_right _ (List.mem_singleton.mpr rfl)
          have hFq42 : F43 q42 = .inr (5, [.int 0, .null, .int 0]) := by rw [eF43]; exact va_up_self _ _ _
          refine lv_dup hx hb dX8_init_180 rfl ?_
          have hfr := fun q => pl_free (F := F43) hD hS hA q
          refine va_callv (va_runIN (As := []) (rest := [.ref q42, .int (nI kk3), .ref (qx3 8 4)]) ⟨hx, hb, hml, hown, hts⟩ (c_X6_init l G cy L44 F43 H.size q42 hmq42 hFq42) (⟨va_cnB 0 hts gX8_init_X6_init_n61 rfl rfl rfl hZ.1.2.2.1 (hts (.initialized RX6) (by decide +kernel)) (by decide +kernel) ⟨Nat.le_of_ble_eq_true rfl, Nat.le_of_ble_eq_true rfl⟩, rfl, hts (.instanceMethod yX6_init) (by decide +kernel)⟩) (preS_of okQZ (⟨⟨rfl, hP, hK, hD.top⟩, hZ⟩)) rfl rfl hl.1 rfl (lv_room (Nat.le_of_ble_eq_true rfl)) dX8_init_181 ⟨by show _ ≤ 53; omega, by show _ ≤ 358; omega⟩) hS (fun q _ h => pl_free hD hS hA q h) (pl_free hD hS hA) (fun F45 t H1 locs ht hvm hw hP1 hz1 hk1 hS => ?_)
          obtain ⟨L46, F47⟩ := F45
          obtain ⟨q48, hnq48, eL46, eF47, hD1⟩ := hw
          have eL46 : L46 = L44 ++ [q48] := eL46
          have eF47 : F47 = va_up (va_up F43 q48 (cQ (cy 9) 12 (fun _ => none))) q42 (.inr (5, [.int (-1), .ref q48, .int 0])) := eF47
          have hD : pD A L46 := hD1.mono hfr
          have hP1 : va_P G vwCl (va_pl L46 F47) t.heap := hP1
          rw [ht] at hP1
          have hP := hP1
          generalize H1 = H at hP hS ⊢
          have hmo_48 : o ∈ L46 := by rw [eL46]; exact List.mem_append_left _ hmo_44
          have hFo_48 : F47 o = .inr (7, [.ref (qx3 8 0), .ref (qx3 8 1), .ref (qx3 8 2), .ref (qx3 8 3), .ref (qx3 8 4), .ref (qx3 8 5), .ref (qx3 8 6), .int 0, .int 0]) := by rw [eF47, va_up_ne _ _ (pl_ne hFo_44 hFq42 rfl), va_up_ne _ _ (fun z => hnq48 (by rw [← z]; exact hmo_44))]; exact hFo_44
          have hmqx384_48 : (qx3 8 4) ∈ L46 := by rw [eL46]; exact List.mem_append_left _ hmqx384_44
          have hFqx384_48 : F47 (qx3 8 4) = cQ (cy 8) 5 (pR kk3 (qx3 4)) := by rw [eF47, va_up_ne _ _ (pl_ne hFqx384_44 hFq42 rfl), va_up_ne _ _ (fun z => hnq48 (by rw [← z]; exact hmqx384_44))]; exact hFqx384_44
          have hmq42_48 : q42 ∈ L46 := by rw [eL46]; exact List.mem_append_left _ hmq42
          have hFq42_48 : F47 q42 = .inr (5, [.int (-1), .ref q48, .int 0]) := by rw [eF47]; exact va_up_self _ _ _
          have hmq48 : q48 ∈ L46 := by rw [eL46]; exact List.mem_append_right _ (List.mem_singleton.mpr rfl)
          have hFq48 : F47 q48 = cQ (cy 9) 12 (fun _ => none) := by rw [eF47, va_up_ne _ _ (fun z => hnq48 (by rw [z]; exact hmq42)), va_up_self]
          refine pg_astq hx hb hK hP hD hS 8 5 hmqx384_48 hFqx384_48 rfl hmq42_48 hFq42_48 rfl (vp_in_nI hlt (by decide)) dX8_init_184 (fun H locs F49 eF49 hP hS => ?_)
          have hFo_49 : F49 o = .inr (7, [.ref (qx3 8 0), .ref (qx3 8 1), .ref (qx3 8 2), .ref (qx3 8 3), .ref (qx3 8 4), .ref (qx3 8 5), .ref (qx3 8 6), .int 0, .int 0]) := by rw [eF49, va_up_ne _ _ (pl_ne hFo_48 hFqx384_48 rfl)]; exact hFo_48
          have hFqx384_49 : F49 (qx3 8 4) = cQ (cy 8) 5 (va_up (pR kk3 (qx3 4)) (nI kk3 : Int32).toNatClampNeg (some q42)) := by rw [eF49]; exact va_up_self _ _ _
          have hFq42_49 : F49 q42 = .inr (5, [.int (-1), .ref q48, .int 0]) := by rw [eF49, va_up_ne _ _ (pl_ne hFq42_48 hFqx384_48 rfl)]; exact hFq42_48
          have hFq48_49 : F49 q48 = cQ (cy 9) 12 (fun _ => none) := by rw [eF49, va_up_ne _ _ (pl_ne hFq48 hFqx384_48 rfl)]; exact hFq48
          obtain ⟨v50, ev50⟩ : ∃ y : Int32, y = (nI kk3) + (1) := ⟨_, rfl⟩
          refine lv_iinc (v := v50) (lv' := [(1, .int v50), (0, .ref o)]) hx hb dX8_init_185 hl (k := 0) rfl (by rw [ev50]; rfl) (by decide) rfl (fun ls hl => ?_)
          refine lv_goto (tgt := 167) hx hb dX8_init_188 (by decide) ?_
          have hv : v50 = nI (kk3 + 1) := by rw [ev50, nI_succ]
          rw [hv] at hl
          have hC := RepC.s4 hC ⟨fun b hb9 => (by rw [eL46, eL44]; exact List.mem_append_left _ (List.mem_append_left _ hb9)), fun b hb9 hx9 => (by have n1 : b ≠ qx3 8 4 := (fun z => hx9 (by rw [z]; exact List.mem_cons_self)); have nq42 : b ≠ q42 := (fun z => hnq42 (by rw [← z]; exact hb9)); have nq48 : b ≠ q48 := (fun z => hnq48 (by rw [← z]; exact (by rw [eL44]; exact List.mem_append_left _ hb9))); show F49 b = Fx3 b; rw [eF49, eF47, eF43]; simp only [va_up_ne _ _ n1, va_up_ne _ _ nq42, va_up_ne _ _ nq48])⟩ hnq42 (fun z => hnq48 (by rw [eL44]; exact List.mem_append_left _ z)) ⟨hmq42_48, hFq42_49⟩ ⟨hmq48, hFq48_49⟩ ⟨hmqx384_48, (by have hz := hFqx384_49; rw [nI_clamp (by omega)] at hz; exact hz)⟩
          refine W.widen (k := 39 + (kk3 + 1) * 2) (n := 275 + (kk3 + 1) * 15) (by omega) (by omega) ?_
          exact K (kk3 + 1, L46, va_up (va_up qx3 4 (va_up (qx3 4) kk3 q42)) 5 (va_up (qx3 5) kk3 q48), F49) ls H locs ⟨by show kk3 + 1 ≤ 5; omega, hD, hC⟩ (by show 5 - (kk3 + 1) < 5 - kk3; omega) hP hS (lv_sub hl [0, 1] rfl)
      · have hlt : kk2 < 8 := by have hc := c33; rw [fa_le, nI_toInt (by omega)] at hc; have h7 : (8 : Int32).toInt = 8 := (by decide); omega
        refine lv_aload_n hx hb dX8_init_136 rfl (lv_at hl 1 rfl) ?_
        refine pg_get (ci := 7) (C := RX8) (T := TX8) (N := 9) hx hb hts hinX8 hown hK hP hmo hFo rfl 2 (by decide) (hts (.fieldLink RX8 23 "RopeDrums" "logs" "[LRopeDrums$Log;") (by decide +kernel)) (fun _ h9 => h9) rfl dX8_init_137 ?_
        refine lv_iload_n hx hb dX8_init_140 rfl (lv_at hl 0 rfl) ?_
        refine pg_newo (ci := 3) (T := TX3) (N := 3) hx hb hts hinX3 tyX3 tyX3_ok hown (hts (.classLink RX8 21 RX3) (by decide +kernel)) (hts (.instantiable RX3 3) (by decide +kernel)) (hts (.initialized RX3) (by decide +kernel)) hK hP hD hS hA rfl [.int 0, .int 0, .null] (by decide +kernel) (by show _ ≤ 53; omega) (by show _ ≤ 358; omega) dX8_init_141 (fun q51 H F52 L53 hnq51 eF52 eL53 hP hD hS => ?_)
        have hmo_53 : o ∈ L53 := by rw [eL53]; exact List.mem_append_left _ hmo
        have hFo_53 : F52 o = .inr (7, [.ref (qx2 8 0), .ref (qx2 8 1), .ref (qx2 8 2), .ref (qx2 8 3), .ref (qx2 8 4), .ref (qx2 8 5), .ref (qx2 8 6), .int 0, .int 0]) := by rw [eF52, va_up_ne _ _ (fun z => hnq51 (by rw [← z]; exact hmo))]; exact hFo
        have hmqx282_53 : (qx2 8 2) ∈ L53 := by rw [eL53]; exact List.mem_append_left _ hma
        have hFqx282_53 : F52 (qx2 8 2) = cQ (cy 6) 8 (pR kk2 (qx2 2)) := by rw [eF52, va_up_ne _ _ (fun z => hnq51 (by rw [← z]; exact hma))]; exact hFa
        have hmq51 : q51 ∈ L53 := by rw [eL53]; exact List.mem_append_right _ (List.mem_singleton.mpr rfl)
        have hFq51 : F52 q51 = .inr (3, [.int 0, .int 0, .null]) := by rw [eF52]; exact va_up_self _ _ _
        refine lv_dup hx hb dX8_init_144 rfl ?_
        refine lv_iload_n hx hb dX8_init_145 rfl (lv_at hl 0 rfl) ?_
        refine lv_iconst (v := 4) hx hb dX8_init_146 (by decide) ?_
        refine lv_icmp_ge (tgt := 154) hx hb dX8_init_147 (by decide) (fun c54 => ?_) (fun c54 => ?_)
        · refine lv_iconst (v := 3) hx hb dX8_init_154 (by decide) ?_
          have hfr := fun q => pl_free (F := F52) hD hS hA q
          refine va_callv (va_runI (As := [.int 3]) (rest := [.ref q51, .int (nI kk2), .ref (qx2 8 2)]) ⟨hx, hb, hml, hown, hts⟩ (c_X3_init l G cy L53 F52 H.size q51 3 hmq51 hFq51) (cwI 1 hts gX8_init_X3_init rfl rfl rfl (hts (.initialized RX3) (by decide +kernel)) (hts (.methodLink RX8 58 yX3_init) (by decide +kernel)) (hts (.instanceMethod yX3_init) (by decide +kernel)) rfl (by decide +kernel) ⟨Nat.le_of_ble_eq_true rfl, Nat.le_of_ble_eq_true rfl⟩) (preS_of okQZ (⟨⟨rfl, hP, hK, hD.top⟩, hZ⟩)) rfl rfl hl.1 rfl (lv_room (Nat.le_of_ble_eq_true rfl)) dX8_init_155 ⟨by show _ ≤ 53; omega, by show _ ≤ 358; omega⟩) hS (fun q _ h => pl_free hD hS hA q h) (pl_free hD hS hA) (fun F55 t H1 locs ht hvm hw hP1 hz1 hk1 hS => ?_)
          obtain ⟨L56, F57⟩ := F55
          obtain ⟨q58, hnq58, eL56, eF57, hD1⟩ := hw
          have eL56 : L56 = L53 ++ [q58] := eL56
          have eF57 : F57 = va_up (va_up F52 q58 (cD (cy 0) 16 (fun _ => 0))) q51 (.inr (3, [.int (-1), .int 3, .ref q58])) := eF57
          have hD : pD A L56 := hD1.mono hfr
          have hP1 : va_P G vwCl (va_pl L56 F57) t.heap := hP1
          rw [ht] at hP1
          have hP := hP1
          generalize H1 = H at hP hS ⊢
          have hmo_58 : o ∈ L56 := by rw [eL56]; exact List.mem_append_left _ hmo_53
          have hFo_58 : F57 o = .inr (7, [.ref (qx2 8 0), .ref (qx2 8 1), .ref (qx2 8 2), .ref (qx2 8 3), .ref (qx2 8 4), .ref (qx2 8 5), .ref (qx2 8 6), .int 0, .int 0]) := by rw [eF57, va_up_ne _ _ (pl_ne hFo_53 hFq51 rfl), va_up_ne _ _ (fun z => hnq58 (by rw [← z]; exact hmo_53))]; exact hFo_53
          have hmqx282_58 : (qx2 8 2) ∈ L56 := by rw [eL56]; exact List.mem_append_left _ hmqx282_53
          have hFqx282_58 : F57 (qx2 8 2) = cQ (cy 6) 8 (pR kk2 (qx2 2)) := by rw [eF57, va_up_ne _ _ (pl_ne hFqx282_53 hFq51 rfl), va_up_ne _ _ (fun z => hnq58 (by rw [← z]; exact hmqx282_53))]; exact hFqx282_53
          have hmq51_58 : q51 ∈ L56 := by rw [eL56]; exact List.mem_append_left _ hmq51
          have hFq51_58 : F57 q51 = .inr (3, [.int (-1), .int 3, .ref q58]) := by rw [eF57]; exact va_up_self _ _ _
          have hmq58 : q58 ∈ L56 := by rw [eL56]; exact List.mem_append_right _ (List.mem_singleton.mpr rfl)
          have hFq58 : F57 q58 = cD (cy 0) 16 (fun _ => 0) := by rw [eF57, va_up_ne _ _ (fun z => hnq58 (by rw [z]; exact hmq51)), va_up_self]
          refine pg_astq hx hb hK hP hD hS 6 3 hmqx282_58 hFqx282_58 rfl hmq51_58 hFq51_58 rfl (vp_in_nI hlt (by decide)) dX8_init_158 (fun H locs F59 eF59 hP hS => ?_)
          have hFo_59 : F59 o = .inr (7, [.ref (qx2 8 0), .ref (qx2 8 1), .ref (qx2 8 2), .ref (qx2 8 3), .ref (qx2 8 4), .ref (qx2 8 5), .ref (qx2 8 6), .int 0, .int 0]) := by rw [eF59, va_up_ne _ _ (pl_ne hFo_58 hFqx282_58 rfl)]; exact hFo_58
          have hFqx282_59 : F59 (qx2 8 2) = cQ (cy 6) 8 (va_up (pR kk2 (qx2 2)) (nI kk2 : Int32).toNatClampNeg (some q51)) := by rw [eF59]; exact va_up_self _ _ _
          have hFq51_59 : F59 q51 = .inr (3, [.int (-1), .int 3, .ref q58]) := by rw [eF59, va_up_ne _ _ (pl_ne hFq51_58 hFqx282_58 rfl)]; exact hFq51_58
          have hFq58_59 : F59 q58 = cD (cy 0) 16 (fun _ => 0) := by rw [eF59, va_up_ne _ _ (pl_ne hFq58 hFqx282_58 rfl)]; exact hFq58
          obtain ⟨v60, ev60⟩ : ∃ y : Int32, y = (nI kk2) + (1) := ⟨_, rfl⟩
          refine lv_iinc (v := v60) (lv' := [(1, .int v60), (0, .ref o)]) hx hb dX8_init_159 hl (k := 0) rfl (by rw [ev60]; rfl) (by decide) rfl (fun ls hl => ?_)
          refine lv_goto (tgt := 130) hx hb dX8_init_162 (by decide) ?_
          have hv : v60 = nI (kk2 + 1) := by rw [ev60, nI_succ]
          rw [hv] at hl
          have hC := RepC.s2 hC ⟨fun b hb9 => (by rw [eL56, eL53]; exact List.mem_append_left _ (List.mem_append_left _ hb9)), fun b hb9 hx9 => (by have n1 : b ≠ qx2 8 2 := (fun z => hx9 (by rw [z]; exact List.mem_cons_self)); have nq51 : b ≠ q51 := (fun z => hnq51 (by rw [← z]; exact hb9)); have nq58 : b ≠ q58 := (fun z => hnq58 (by rw [← z]; exact (by rw [eL53]; exact List.mem_append_left _ hb9))); show F59 b = Fx2 b; rw [eF59, eF57, eF52]; simp only [va_up_ne _ _ n1, va_up_ne _ _ nq51, va_up_ne _ _ nq58])⟩ hnq51 (fun z => hnq58 (by rw [eL53]; exact List.mem_append_left _ z)) ⟨hmq51_58, (by rw [show lw kk2 = 3 from ((lw3 _).mpr (by have hc := c54; rw [fa_le, nI_toInt (by omega)] at hc; have h4 : (4 : Int32).toInt = 4 := (by decide); omega))]; exact hFq51_59)⟩ ⟨hmq58, hFq58_59⟩ ⟨hmqx282_58, (by have hz := hFqx282_59; rw [nI_clamp (by omega)] at hz; exact hz)⟩
          refine W.widen (k := 23 + (kk2 + 1) * 2) (n := 123 + (kk2 + 1) * 19) (by omega) (by omega) ?_
          exact K (kk2 + 1, L56, va_up (va_up qx2 2 (va_up (qx2 2) kk2 q51)) 3 (va_up (qx2 3) kk2 q58), F59) ls H locs ⟨by show kk2 + 1 ≤ 8; omega, hD, hC⟩ (by show 8 - (kk2 + 1) < 8 - kk2; omega) hP hS (lv_sub hl [0, 1] rfl)
        · refine lv_iconst (v := 2) hx hb dX8_init_150 (by decide) ?_
          refine lv_goto (tgt := 155) hx hb dX8_init_151 (by decide) ?_
          have hfr := fun q => pl_free (F := F52) hD hS hA q
          refine va_callv (va_runI (As := [.int 2]) (rest := [.ref q51, .int (nI kk2), .ref (qx2 8 2)]) ⟨hx, hb, hml, hown, hts⟩ (c_X3_init l G cy L53 F52 H.size q51 2 hmq51 hFq51) (cwI 1 hts gX8_init_X3_init rfl rfl rfl (hts (.initialized RX3) (by decide +kernel)) (hts (.methodLink RX8 58 yX3_init) (by decide +kernel)) (hts (.instanceMethod yX3_init) (by decide +kernel)) rfl (by decide +kernel) ⟨Nat.le_of_ble_eq_true rfl, Nat.le_of_ble_eq_true rfl⟩) (preS_of okQZ (⟨⟨rfl, hP, hK, hD.top⟩, hZ⟩)) rfl rfl hl.1 rfl (lv_room (Nat.le_of_ble_eq_true rfl)) dX8_init_155 ⟨by show _ ≤ 53; omega, by show _ ≤ 358; omega⟩) hS (fun q _ h => pl_free hD hS hA q h) (pl_free hD hS hA) (fun F61 t H1 locs ht hvm hw hP1 hz1 hk1 hS => ?_)
          obtain ⟨L62, F63⟩ := F61
          obtain ⟨q64, hnq64, eL62, eF63, hD1⟩ := hw
          have eL62 : L62 = L53 ++ [q64] := eL62
          have eF63 : F63 = va_up (va_up F52 q64 (cD (cy 0) 16 (fun _ => 0))) q51 (.inr (3, [.int (-1), .int 2, .ref q64])) := eF63
          have hD : pD A L62 := hD1.mono hfr
          have hP1 : va_P G vwCl (va_pl L62 F63) t.heap := hP1
          rw [ht] at hP1
          have hP := hP1
          generalize H1 = H at hP hS ⊢
          have hmo_64 : o ∈ L62 := by rw [eL62]; exact List.mem_append_left _ hmo_53
          have hFo_64 : F63 o = .inr (7, [.ref (qx2 8 0), .ref (qx2 8 1), .ref (qx2 8 2), .ref (qx2 8 3), .ref (qx2 8 4), .ref (qx2 8 5), .ref (qx2 8 6), .int 0, .int 0]) := by rw [eF63, va_up_ne _ _ (pl_ne hFo_53 hFq51 rfl), va_up_ne _ _ (fun z => hnq64 (by rw [← z]; exact hmo_53))]; exact hFo_53
          have hmqx282_64 : (qx2 8 2) ∈ L62 := by rw [eL62]; exact List.mem_append_left _ hmqx282_53
          have hFqx282_64 : F63 (qx2 8 2) = cQ (cy 6) 8 (pR kk2 (qx2 2)) := by rw [eF63, va_up_ne _ _ (pl_ne hFqx282_53 hFq51 rfl), va_up_ne _ _ (fun z => hnq64 (by rw [← z]; exact hmqx282_53))]; exact hFqx282_53
          have hmq51_64 : q51 ∈ L62 := by rw [eL62]; exact List.mem_append_left _ hmq51
          have hFq51_64 : F63 q51 = .inr (3, [.int (-1), .int 2, .ref q64]) := by rw [eF63]; exact va_up_self _ _ _
          have hmq64 : q64 ∈ L62 := by rw [eL62]; exact List.mem_append_right _ (List.mem_singleton.mpr rfl)
          have hFq64 : F63 q64 = cD (cy 0) 16 (fun _ => 0) := by rw [eF63, va_up_ne _ _ (fun z => hnq64 (by rw [z]; exact hmq51)), va_up_self]
          refine pg_astq hx hb hK hP hD hS 6 3 hmqx282_64 hFqx282_64 rfl hmq51_64 hFq51_64 rfl (vp_in_nI hlt (by decide)) dX8_init_158 (fun H locs F65 eF65 hP hS => ?_)
          have hFo_65 : F65 o = .inr (7, [.ref (qx2 8 0), .ref (qx2 8 1), .ref (qx2 8 2), .ref (qx2 8 3), .ref (qx2 8 4), .ref (qx2 8 5), .ref (qx2 8 6), .int 0, .int 0]) := by rw [eF65, va_up_ne _ _ (pl_ne hFo_64 hFqx282_64 rfl)]; exact hFo_64
          have hFqx282_65 : F65 (qx2 8 2) = cQ (cy 6) 8 (va_up (pR kk2 (qx2 2)) (nI kk2 : Int32).toNatClampNeg (some q51)) := by rw [eF65]; exact va_up_self _ _ _
          have hFq51_65 : F65 q51 = .inr (3, [.int (-1), .int 2, .ref q64]) := by rw [eF65, va_up_ne _ _ (pl_ne hFq51_64 hFqx282_64 rfl)]; exact hFq51_64
          have hFq64_65 : F65 q64 = cD (cy 0) 16 (fun _ => 0) := by rw [eF65, va_up_ne _ _ (pl_ne hFq64 hFqx282_64 rfl)]; exact hFq64
          obtain ⟨v66, ev66⟩ : ∃ y : Int32, y = (nI kk2) + (1) := ⟨_, rfl⟩
          refine lv_iinc (v := v66) (lv' := [(1, .int v66), (0, .ref o)]) hx hb dX8_init_159 hl (k := 0) rfl (by rw [ev66]; rfl) (by decide) rfl (fun ls hl => ?_)
          refine lv_goto (tgt := 130) hx hb dX8_init_162 (by decide) ?_
          have hv : v66 = nI (kk2 + 1) := by rw [ev66, nI_succ]
          rw [hv] at hl
          have hC := RepC.s2 hC ⟨fun b hb9 => (by rw [eL62, eL53]; exact List.mem_append_left _ (List.mem_append_left _ hb9)), fun b hb9 hx9 => (by have n1 : b ≠ qx2 8 2 := (fun z => hx9 (by rw [z]; exact List.mem_cons_self)); have nq51 : b ≠ q51 := (fun z => hnq51 (by rw [← z]; exact hb9)); have nq64 : b ≠ q64 := (fun z => hnq64 (by rw [← z]; exact (by rw [eL53]; exact List.mem_append_left _ hb9))); show F65 b = Fx2 b; rw [eF65, eF63, eF52]; simp only [va_up_ne _ _ n1, va_up_ne _ _ nq51, va_up_ne _ _ nq64])⟩ hnq51 (fun z => hnq64 (by rw [eL53]; exact List.mem_append_left _ z)) ⟨hmq51_64, (by rw [show lw kk2 = 2 from ((lw2 _).mpr (by have hc := c54; rw [fa_le, nI_toInt (by omega)] at hc; have h4 : (4 : Int32).toInt = 4 := (by decide); omega))]; exact hFq51_65)⟩ ⟨hmq64, hFq64_65⟩ ⟨hmqx282_64, (by have hz := hFqx282_65; rw [nI_clamp (by omega)] at hz; exact hz)⟩
          refine W.widen (k := 23 + (kk2 + 1) * 2) (n := 123 + (kk2 + 1) * 19) (by omega) (by omega) ?_
          exact K (kk2 + 1, L62, va_up (va_up qx2 2 (va_up (qx2 2) kk2 q51)) 3 (va_up (qx2 3) kk2 q64), F65) ls H locs ⟨by show kk2 + 1 ≤ 8; omega, hD, hC⟩ (by show 8 - (kk2 + 1) < 8 - kk2; omega) hP hS (lv_sub hl [0, 1] rfl)
    · have hlt : kk1 < 6 := by have hc := c32; rw [fa_le, nI_toInt (by omega)] at hc; have h7 : (6 : Int32).toInt = 6 := (by decide); omega
      refine lv_aload_n hx hb dX8_init_109 rfl (lv_at hl 1 rfl) ?_
      refine pg_get (ci := 7) (C := RX8) (T := TX8) (N := 9) hx hb hts hinX8 hown hK hP hmo hFo rfl 1 (by decide) (hts (.fieldLink RX8 17 "RopeDrums" "drums" "[LRopeDrums$Drum;") (by decide +kernel)) (fun _ h9 => h9) rfl dX8_init_110 ?_
      refine lv_iload_n hx hb dX8_init_113 rfl (lv_at hl 0 rfl) ?_
      refine pg_newo (ci := 1) (T := TX1) (N := 4) hx hb hts hinX1 tyX1 tyX1_ok hown (hts (.classLink RX8 15 RX1) (by decide +kernel)) (hts (.instantiable RX1 4) (by decide +kernel)) (hts (.initialized RX1) (by decide +kernel)) hK hP hD hS hA rfl [.double 0, .double 0, .double 0, .long 0] (by decide +kernel) (by show _ ≤ 53; omega) (by show _ ≤ 358; omega) dX8_init_114 (fun q67 H F68 L69 hnq67 eF68 eL69 hP hD hS => ?_)
      have hmo_69 : o ∈ L69 := by rw [eL69]; exact List.mem_append_left _ hmo
      have hFo_69 : F68 o = .inr (7, [.ref (qx1 8 0), .ref (qx1 8 1), .ref (qx1 8 2), .ref (qx1 8 3), .ref (qx1 8 4), .ref (qx1 8 5), .ref (qx1 8 6), .int 0, .int 0]) := by rw [eF68, va_up_ne _ _ (fun z => hnq67 (by rw [← z]; exact hmo))]; exact hFo
      have hmqx181_69 : (qx1 8 1) ∈ L69 := by rw [eL69]; exact List.mem_append_left _ hma
      have hFqx181_69 : F68 (qx1 8 1) = cQ (cy 5) 6 (pR kk1 (qx1 1)) := by rw [eF68, va_up_ne _ _ (fun z => hnq67 (by rw [← z]; exact hma))]; exact hFa
      have hmq67 : q67 ∈ L69 := by rw [eL69]; exact List.mem_append_right _ (List.mem_singleton.mpr rfl)
      have hFq67 : F68 q67 = .inr (1, [.double 0, .double 0, .double 0, .long 0]) := by rw [eF68]; exact va_up_self _ _ _
      refine lv_dup hx hb dX8_init_117 rfl ?_
      refine va_callv (va_runIN (As := []) (rest := [.ref q67, .int (nI kk1), .ref (qx1 8 1)]) ⟨hx, hb, hml, hown, hts⟩ (c_X1_init l G cy L69 F68 H.size q67 hmq67 hFq67) (⟨va_cnB 0 hts gX8_init_X1_init_n57 rfl rfl rfl hZ.1.2.1 (hts (.initialized RX1) (by decide +kernel)) (by decide +kernel) ⟨Nat.le_of_ble_eq_true rfl, Nat.le_of_ble_eq_true rfl⟩, rfl, hts (.instanceMethod yX1_init) (by decide +kernel)⟩) (preS_of okQ (⟨rfl, hP, hK, hD.top⟩)) rfl rfl hl.1 rfl (lv_room (Nat.le_of_ble_eq_true rfl)) dX8_init_118 ⟨by show _ ≤ 53; omega, by show _ ≤ 358; omega⟩) hS (fun q _ h => pl_free hD hS hA q h) (pl_free hD hS hA) (fun F70 t H1 locs ht hvm hw hP1 hz1 hk1 hS => ?_)
      have hP1 : va_P G vwCl (va_pl L69 F70) t.heap := hP1
      rw [ht] at hP1
      have hP := hP1
      generalize H1 = H at hP hS ⊢
      have eF70 : F70 = va_up F68 q67 (.inr (1, [.double FP.dconst1, .double FP.dconst0, .double FP.dconst0, .long 0])) := hw
      have hFo_70 : F70 o = .inr (7, [.ref (qx1 8 0), .ref (qx1 8 1), .ref (qx1 8 2), .ref (qx1 8 3), .ref (qx1 8 4), .ref (qx1 8 5), .ref (qx1 8 6), .int 0, .int 0]) := by rw [eF70, va_up_ne _ _ (pl_ne hFo_69 hFq67 rfl)]; exact hFo_69
      have hFqx181_70 : F70 (qx1 8 1) = cQ (cy 5) 6 (pR kk1 (qx1 1)) := by rw [eF70, va_up_ne _ _ (pl_ne hFqx181_69 hFq67 rfl)]; exact hFqx181_69
      have hFq67_70 : F70 q67 = .inr (1, [.double FP.dconst1, .double FP.dconst0, .double FP.dconst0, .long 0]) := by rw [eF70]; exact va_up_self _ _ _
      refine pg_astq hx hb hK hP hD hS 5 1 hmqx181_69 hFqx181_70 rfl hmq67 hFq67_70 rfl (vp_in_nI hlt (by decide)) dX8_init_121 (fun H locs F71 eF71 hP hS => ?_)
      have hFo_71 : F71 o = .inr (7, [.ref (qx1 8 0), .ref (qx1 8 1), .ref (qx1 8 2), .ref (qx1 8 3), .ref (qx1 8 4), .ref (qx1 8 5), .ref (qx1 8 6), .int 0, .int 0]) := by rw [eF71, va_up_ne _ _ (pl_ne hFo_70 hFqx181_70 rfl)]; exact hFo_70
      have hFqx181_71 : F71 (qx1 8 1) = cQ (cy 5) 6 (va_up (pR kk1 (qx1 1)) (nI kk1 : Int32).toNatClampNeg (some q67)) := by rw [eF71]; exact va_up_self _ _ _
      have hFq67_71 : F71 q67 = .inr (1, [.double FP.dconst1, .double FP.dconst0, .double FP.dconst0, .long 0]) := by rw [eF71, va_up_ne _ _ (pl_ne hFq67_70 hFqx181_70 rfl)]; exact hFq67_70
      obtain ⟨v72, ev72⟩ : ∃ y : Int32, y = (nI kk1) + (1) := ⟨_, rfl⟩
      refine lv_iinc (v := v72) (lv' := [(1, .int v72), (0, .ref o)]) hx hb dX8_init_122 hl (k := 0) rfl (by rw [ev72]; rfl) (by decide) rfl (fun ls hl => ?_)
      refine lv_goto (tgt := 103) hx hb dX8_init_125 (by decide) ?_
      have hv : v72 = nI (kk1 + 1) := by rw [ev72, nI_succ]
      rw [hv] at hl
      have hC := RepC.s1 hC ⟨fun b hb9 => (by rw [eL69]; exact List.mem_append_left _ hb9), fun b hb9 hx9 => (by have n1 : b ≠ qx1 8 1 := (fun z => hx9 (by rw [z]; exact List.mem_cons_self)); have nq67 : b ≠ q67 := (fun z => hnq67 (by rw [← z]; exact hb9)); show F71 b = Fx1 b; rw [eF71, eF70, eF68]; simp only [va_up_ne _ _ n1, va_up_ne _ _ nq67])⟩ hnq67 ⟨hmq67, hFq67_71⟩ ⟨hmqx181_69, (by have hz := hFqx181_71; rw [nI_clamp (by omega)] at hz; exact hz)⟩
      refine W.widen (k := 17 + (kk1 + 1) * 1) (n := 99 + (kk1 + 1) * 4) (by omega) (by omega) ?_
      exact K (kk1 + 1, L69, va_up qx1 1 (va_up (qx1 1) kk1 q67), F71) ls H locs ⟨by show kk1 + 1 ≤ 6; omega, hD, hC⟩ (by show 6 - (kk1 + 1) < 6 - kk1; omega) hP hS (lv_sub hl [0, 1] rfl)
  · have hlt : kk0 < 10 := by have hc := c31; rw [fa_le, nI_toInt (by omega)] at hc; have h7 : (10 : Int32).toInt = 10 := (by decide); omega
    refine lv_aload_n hx hb dX8_init_82 rfl (lv_at hl 1 rfl) ?_
    refine pg_get (ci := 7) (C := RX8) (T := TX8) (N := 9) hx hb hts hinX8 hown hK hP hmo hFo rfl 0 (by decide) (hts (.fieldLink RX8 11 "RopeDrums" "meters" "[LRopeDrums$Meter;") (by decide +kernel)) (fun _ h9 => h9) rfl dX8_init_83 ?_
    refine lv_iload_n hx hb dX8_init_86 rfl (lv_at hl 0 rfl) ?_
    refine pg_newo (ci := 4) (T := TX4) (N := 3) hx hb hts hinX4 tyX4 tyX4_ok hown (hts (.classLink RX8 9 RX4) (by decide +kernel)) (hts (.instantiable RX4 3) (by decide +kernel)) (hts (.initialized RX4) (by decide +kernel)) hK hP hD hS hA rfl [.int 0, .long 0, .double 0] (by decide +kernel) (by show _ ≤ 53; omega) (by show _ ≤ 358; omega) dX8_init_87 (fun q73 H F74 L75 hnq73 eF74 eL75 hP hD hS => ?_)
    have hmo_75 : o ∈ L75 := by rw [eL75]; exact List.mem_append_left _ hmo
    have hFo_75 : F74 o = .inr (7, [.ref (qx0 8 0), .ref (qx0 8 1), .ref (qx0 8 2), .ref (qx0 8 3), .ref (qx0 8 4), .ref (qx0 8 5), .ref (qx0 8 6), .int 0, .int 0]) := by rw [eF74, va_up_ne _ _ (fun z => hnq73 (by rw [← z]; exact hmo))]; exact hFo
    have hmqx080_75 : (qx0 8 0) ∈ L75 := by rw [eL75]; exact List.mem_append_left _ hma
    have hFqx080_75 : F74 (qx0 8 0) = cQ (cy 7) 10 (pR kk0 (qx0 0)) := by rw [eF74, va_up_ne _ _ (fun z => hnq73 (by rw [← z]; exact hma))]; exact hFa
    have hmq73 : q73 ∈ L75 := by rw [eL75]; exact List.mem_append_right _ (List.mem_singleton.mpr rfl)
    have hFq73 : F74 q73 = .inr (4, [.int 0, .long 0, .double 0]) := by rw [eF74]; exact va_up_self _ _ _
    refine lv_dup hx hb dX8_init_90 rfl ?_
    refine va_callv (va_runIN (As := []) (rest := [.ref q73, .int (nI kk0), .ref (qx0 8 0)]) ⟨hx, hb, hml, hown, hts⟩ (c_X4_init l G cy L75 F74 H.size q73 hmq73 hFq73) (⟨va_cnB 0 hts gX8_init_X4_init_n56 rfl rfl rfl hZ.1.1 (hts (.initialized RX4) (by decide +kernel)) (by decide +kernel) ⟨Nat.le_of_ble_eq_true rfl, Nat.le_of_ble_eq_true rfl⟩, rfl, hts (.instanceMethod yX4_init) (by decide +kernel)⟩) (preS_of okQ (⟨rfl, hP, hK, hD.top⟩)) rfl rfl hl.1 rfl (lv_room (Nat.le_of_ble_eq_true rfl)) dX8_init_91 ⟨by show _ ≤ 53; omega, by show _ ≤ 358; omega⟩) hS (fun q _ h => pl_free hD hS hA q h) (pl_free hD hS hA) (fun F76 t H1 locs ht hvm hw hP1 hz1 hk1 hS => ?_)
    have hP1 : va_P G vwCl (va_pl L75 F76) t.heap := hP1
    rw [ht] at hP1
    have hP := hP1
    generalize H1 = H at hP hS ⊢
    have eF76 : F76 = va_up F74 q73 (.inr (4, [.int 0, .long 0, .double FP.dconst0])) := hw
    have hFo_76 : F76 o = .inr (7, [.ref (qx0 8 0), .ref (qx0 8 1), .ref (qx0 8 2), .ref (qx0 8 3), .ref (qx0 8 4), .ref (qx0 8 5), .ref (qx0 8 6), .int 0, .int 0]) := by rw [eF76, va_up_ne _ _ (pl_ne hFo_75 hFq73 rfl)]; exact hFo_75
    have hFqx080_76 : F76 (qx0 8 0) = cQ (cy 7) 10 (pR kk0 (qx0 0)) := by rw [eF76, va_up_ne _ _ (pl_ne hFqx080_75 hFq73 rfl)]; exact hFqx080_75
    have hFq73_76 : F76 q73 = .inr (4, [.int 0, .long 0, .double FP.dconst0]) := by rw [eF76]; exact va_up_self _ _ _
    refine pg_astq hx hb hK hP hD hS 7 4 hmqx080_75 hFqx080_76 rfl hmq73 hFq73_76 rfl (vp_in_nI hlt (by decide)) dX8_init_94 (fun H locs F77 eF77 hP hS => ?_)
    have hFo_77 : F77 o = .inr (7, [.ref (qx0 8 0), .ref (qx0 8 1), .ref (qx0 8 2), .ref (qx0 8 3), .ref (qx0 8 4), .ref (qx0 8 5), .ref (qx0 8 6), .int 0, .int 0]) := by rw [eF77, va_up_ne _ _ (pl_ne hFo_76 hFqx080_76 rfl)]; exact hFo_76
    have hFqx080_77 : F77 (qx0 8 0) = cQ (cy 7) 10 (va_up (pR kk0 (qx0 0)) (nI kk0 : Int32).toNatClampNeg (some q73)) := by rw [eF77]; exact va_up_self _ _ _
    have hFq73_77 : F77 q73 = .inr (4, [.int 0, .long 0, .double FP.dconst0]) := by rw [eF77, va_up_ne _ _ (pl_ne hFq73_76 hFqx080_76 rfl)]; exact hFq73_76
    obtain ⟨v78, ev78⟩ : ∃ y : Int32, y = (nI kk0) + (1) := ⟨_, rfl⟩
    refine lv_iinc (v := v78) (lv' := [(1, .int v78), (0, .ref o)]) hx hb dX8_init_95 hl (k := 0) rfl (by rw [ev78]; rfl) (by decide) rfl (fun ls hl => ?_)
    refine lv_goto (tgt := 76) hx hb dX8_init_98 (by decide) ?_
    have hv : v78 = nI (kk0 + 1) := by rw [ev78, nI_succ]
    rw [hv] at hl
    have hC := RepC.s0 hC ⟨fun b hb9 => (by rw [eL75]; exact List.mem_append_left _ hb9), fun b hb9 hx9 => (by have n1 : b ≠ qx0 8 0 := (fun z => hx9 (by rw [z]; exact List.mem_cons_self)); have nq73 : b ≠ q73 := (fun z => hnq73 (by rw [← z]; exact hb9)); show F77 b = Fx0 b; rw [eF77, eF76, eF74]; simp only [va_up_ne _ _ n1, va_up_ne _ _ nq73])⟩ hnq73 ⟨hmq73, hFq73_77⟩ ⟨hmqx080_75, (by have hz := hFqx080_77; rw [nI_clamp (by omega)] at hz; exact hz)⟩
    refine W.widen (k := 7 + (kk0 + 1) * 1) (n := 69 + (kk0 + 1) * 3) (by omega) (by omega) ?_
    exact K (kk0 + 1, L75, va_up qx0 0 (va_up (qx0 0) kk0 q73), F77) ls H locs ⟨by show kk0 + 1 ≤ 10; omega, hD, hC⟩ (by show 10 - (kk0 + 1) < 10 - kk0; omega) hP hS (lv_sub hl [0, 1] rfl)
