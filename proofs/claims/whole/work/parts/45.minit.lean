def gz (z : Int32) (k : Nat) : Nat → Int32 := fun i => if i < k then z else 0
theorem gz0 (z : Int32) : gz z 0 = fun _ => 0 := by funext i; simp [gz]
theorem gzs (z : Int32) (k : Nat) (hk : k < 2 ^ 31) : upd (gz z k) (nI k).toNatClampNeg z = gz z (k + 1) := by
  funext i
  rw [nI_clamp hk]
  unfold upd gz
  by_cases h1 : i = k
  · rw [if_pos h1, if_pos (by omega)]
  · rw [if_neg h1]
    by_cases h2 : i < k
    · rw [if_pos h2, if_pos (by omega)]
    · rw [if_neg h2, if_neg (by omega)]

set_option maxHeartbeats 8000000 in
set_option maxRecDepth 100000 in
theorem n_init (l : Launch) (G : va_G) (cy : Nat → ClassId) (L : List Nat) (F : Nat → va_E) (sz : Nat) (o : Nat) (hmo : o ∈ L) (hFo : F o = .inr (8, [.int 0, .null, .null, .null, .null, .null, .null, .null, .null, .int 0, .null, .null, .null, .null, .null, .null, .null, .int 0, .null, .long 0]))  : Met l yX9_init wsX9_init ({ frames := 1, cells := 16, slots := 324, locals := 20 }) (va_Pc [.ref o] (fun U => bQ G cy L F sz U U.heap)) (va_Qv (fun u : List Nat × (Nat → va_E) => ∃ qm, RepM cy u.1 o qm M0 D0 S0 P0 K0 B0 X0 u.2 ∧ pD (va_A (va_pl L F) sz) u.1) (fun u t => va_P G vwCl (va_pl u.1 u.2) t.heap) (va_A (va_pl L F) sz)) 16 324 (va_A (va_pl L F) sz) := by
  refine Met.ofW (cc := cX9_init) (maxL := 2) (ret := none) (by decide) rfl ?_
  intro p e s m args below meth c s₁ B hml hv
  obtain ⟨rfl, hsz, hP, hK, hD0⟩ := hv
  have hx := B.exec
  have hb := B.bytes
  have hr := B.returns
  have hts := atoms_spec (ws := wsX9_init) B.pre
  have hown : s.vm.findClass RX9 = some m.cls := findClass_of_methodNamed B.named
  have hlocks := B.notSynchronized
  have hinX9 : ∀ w ∈ wsX90, w ∈ wsX9_init := by decide +kernel
  have hin2 : meth.name = "<init>" := (name_of_methodNamed B.named B.method).1
  subst hsz
  have hD := hD0.self F s.heap.size
  generalize hAe : va_A (va_pl L F) s.heap.size = A at hD ⊢
  have hA : ∀ q : Nat, s.heap.size ≤ q → A q := fun q h => by rw [← hAe]; exact Or.inr h
  have hS : va_S A s.heap s.heap [] := va_S.rf
  have hl := lv_entry ([.ref o]) (n := 2) (Nat.le_of_ble_eq_true rfl)
  rw [lg_entry_eq]
  generalize (lg_sl ([.ref o]) ++ List.replicate (2 - (lg_sl ([.ref o])).length) Slot.unset).toArray = ls at hl ⊢
  have hl : lv_has ls 2 [(0, .ref o)] := hl
  refine lv_aload_n hx hb dX9_init_0 rfl (lv_at hl 0 rfl) ?_
  refine W.objInit hx hb hown (hts (.methodLink RX9 1 objectInit) (by decide +kernel)) (hts (.instanceMethod objectInit) (by decide +kernel)) (hts (.code objectInit ⟨#[0xb1]⟩ 1 none) (by decide +kernel)) rfl (by rw [hml]; exact hl.1) rfl dX9_init_1 (Nat.le_of_ble_eq_true rfl) (Nat.le_of_ble_eq_true rfl) ?_
  refine W.eq (g2 := F0 m 4 ls []) rfl ?_
  refine lv_aload_n hx hb dX9_init_4 rfl (lv_at hl 0 rfl) ?_
  refine lv_bipush (v := 10) hx hb dX9_init_5 (by decide) ?_
  refine pg_newa (N' := 10) (atype := .int) (ty := .int) hx hb (hts (.arrayClass .int) (by decide +kernel)) rfl hK 1 rfl hP hD hS hA (10, .inl (fun _ => 0)) (fun cA => by rw [vp_cell_i] <;> rfl) (by decide) rfl (by decide) (Nat.le_of_ble_eq_true rfl) (Nat.le_of_ble_eq_true rfl) dX9_init_7 (fun q1 H F2 L3 hnq1 eF2 eL3 hP hD hS => ?_)
  have hmo_3 : o ∈ L3 := by rw [eL3]; exact List.mem_append_left _ hmo
  have hFo_3 : F2 o = .inr (8, [.int 0, .null, .null, .null, .null, .null, .null, .null, .null, .int 0, .null, .null, .null, .null, .null, .null, .null, .int 0, .null, .long 0]) := by rw [eF2, va_up_ne _ _ (fun z => hnq1 (by rw [← z]; exact hmo))]; exact hFo
  have hmq1 : q1 ∈ L3 := by rw [eL3]; exact List.mem_append_right _ (List.mem_singleton.mpr rfl)
  have hFq1 : F2 q1 = cI (cy 1) 10 (fun _ => 0) := by rw [eF2]; exact va_up_self _ _ _
  refine pg_putF (ci := 8) (v := .ref q1) (ty := (.array .int)) (C := RX9) (T := TX9) (N := 20) hx hb hts hinX9 tyX9 tyX9_ok nmX9 hown hK hP hD hS hmo_3 hFo_3 rfl 1 (by decide) (hts (.fieldLink RX9 7 "RopeDrumsModel" "laneOf" "[I") (by decide +kernel)) (fun _ h9 => h9) rfl hin2 rfl (by decide +kernel) (rfl) (rfl) (Nat.le_of_ble_eq_true rfl) dX9_init_9 (fun H locs F4 eF4 hP hS => ?_)
  have eF4 : F4 = va_up F2 o (.inr (8, [.int 0, .ref q1, .null, .null, .null, .null, .null, .null, .null, .int 0, .null, .null, .null, .null, .null, .null, .null, .int 0, .null, .long 0])) := eF4
  have hFo_4 : F4 o = .inr (8, [.int 0, .ref q1, .null, .null, .null, .null, .null, .null, .null, .int 0, .null, .null, .null, .null, .null, .null, .null, .int 0, .null, .long 0]) := by rw [eF4]; exact va_up_self _ _ _
  have hFq1_4 : F4 q1 = cI (cy 1) 10 (fun _ => 0) := by rw [eF4, va_up_ne _ _ (pl_ne hFq1 hFo_3 rfl)]; exact hFq1
  refine lv_aload_n hx hb dX9_init_12 rfl (lv_at hl 0 rfl) ?_
  refine lv_bipush (v := 10) hx hb dX9_init_13 (by decide) ?_
  refine pg_newa (N' := 10) (atype := .long) (ty := .long) hx hb (hts (.arrayClass .long) (by decide +kernel)) rfl hK 2 rfl hP hD hS hA (10, .inr (.inl (fun _ => 0))) (fun cA => by rw [vp_cell_l] <;> rfl) (by decide) rfl (by decide) (Nat.le_of_ble_eq_true rfl) (Nat.le_of_ble_eq_true rfl) dX9_init_15 (fun q5 H F6 L7 hnq5 eF6 eL7 hP hD hS => ?_)
  have hmo_7 : o ∈ L7 := by rw [eL7]; exact List.mem_append_left _ hmo_3
  have hFo_7 : F6 o = .inr (8, [.int 0, .ref q1, .null, .null, .null, .null, .null, .null, .null, .int 0, .null, .null, .null, .null, .null, .null, .null, .int 0, .null, .long 0]) := by rw [eF6, va_up_ne _ _ (fun z => hnq5 (by rw [← z]; exact hmo_3))]; exact hFo_4
  have hmq1_7 : q1 ∈ L7 := by rw [eL7]; exact List.mem_append_left _ hmq1
  have hFq1_7 : F6 q1 = cI (cy 1) 10 (fun _ => 0) := by rw [eF6, va_up_ne _ _ (fun z => hnq5 (by rw [← z]; exact hmq1))]; exact hFq1_4
  have hmq5 : q5 ∈ L7 := by rw [eL7]; exact List.mem_append_right _ (List.mem_singleton.mpr rfl)
  have hFq5 : F6 q5 = cJ (cy 2) 10 (fun _ => 0) := by rw [eF6]; exact va_up_self _ _ _
  refine pg_putF (ci := 8) (v := .ref q5) (ty := (.array .long)) (C := RX9) (T := TX9) (N := 20) hx hb hts hinX9 tyX9 tyX9_ok nmX9 hown hK hP hD hS hmo_7 hFo_7 rfl 2 (by decide) (hts (.fieldLink RX9 13 "RopeDrumsModel" "held" "[J") (by decide +kernel)) (fun _ h9 => h9) rfl hin2 rfl (by decide +kernel) (rfl) (rfl) (Nat.le_of_ble_eq_true rfl) dX9_init_17 (fun H locs F8 eF8 hP hS => ?_)
  have eF8 : F8 = va_up F6 o (.inr (8, [.int 0, .ref q1, .ref q5, .null, .null, .null, .null, .null, .null, .int 0, .null, .null, .null, .null, .null, .null, .null, .int 0, .null, .long 0])) := eF8
  have hFo_8 : F8 o = .inr (8, [.int 0, .ref q1, .ref q5, .null, .null, .null, .null, .null, .null, .int 0, .null, .null, .null, .null, .null, .null, .null, .int 0, .null, .long 0]) := by rw [eF8]; exact va_up_self _ _ _
  have hFq1_8 : F8 q1 = cI (cy 1) 10 (fun _ => 0) := by rw [eF8, va_up_ne _ _ (pl_ne hFq1_7 hFo_7 rfl)]; exact hFq1_7
  have hFq5_8 : F8 q5 = cJ (cy 2) 10 (fun _ => 0) := by rw [eF8, va_up_ne _ _ (pl_ne hFq5 hFo_7 rfl)]; exact hFq5
  refine lv_aload_n hx hb dX9_init_20 rfl (lv_at hl 0 rfl) ?_
  refine lv_bipush (v := 6) hx hb dX9_init_21 (by decide) ?_
  refine pg_newa (N' := 6) (atype := .double) (ty := .double) hx hb (hts (.arrayClass .double) (by decide +kernel)) rfl hK 0 rfl hP hD hS hA (6, .inr (.inr (.inr (.inl (fun _ => 0))))) (fun cA => by rw [vp_cell_d] <;> rfl) (by decide) rfl (by decide) (Nat.le_of_ble_eq_true rfl) (Nat.le_of_ble_eq_true rfl) dX9_init_23 (fun q9 H F10 L11 hnq9 eF10 eL11 hP hD hS => ?_)
  have hmo_11 : o ∈ L11 := by rw [eL11]; exact List.mem_append_left _ hmo_7
  have hFo_11 : F10 o = .inr (8, [.int 0, .ref q1, .ref q5, .null, .null, .null, .null, .null, .null, .int 0, .null, .null, .null, .null, .null, .null, .null, .int 0, .null, .long 0]) := by rw [eF10, va_up_ne _ _ (fun z => hnq9 (by rw [← z]; exact hmo_7))]; exact hFo_8
  have hmq1_11 : q1 ∈ L11 := by rw [eL11]; exact List.mem_append_left _ hmq1_7
  have hFq1_11 : F10 q1 = cI (cy 1) 10 (fun _ => 0) := by rw [eF10, va_up_ne _ _ (fun z => hnq9 (by rw [← z]; exact hmq1_7))]; exact hFq1_8
  have hmq5_11 : q5 ∈ L11 := by rw [eL11]; exact List.mem_append_left _ hmq5
  have hFq5_11 : F10 q5 = cJ (cy 2) 10 (fun _ => 0) := by rw [eF10, va_up_ne _ _ (fun z => hnq9 (by rw [← z]; exact hmq5))]; exact hFq5_8
  have hmq9 : q9 ∈ L11 := by rw [eL11]; exact List.mem_append_right _ (List.mem_singleton.mpr rfl)
  have hFq9 : F10 q9 = cD (cy 0) 6 (fun _ => 0) := by rw [eF10]; exact va_up_self _ _ _
  refine pg_putF (ci := 8) (v := .ref q9) (ty := (.array .double)) (C := RX9) (T := TX9) (N := 20) hx hb hts hinX9 tyX9 tyX9_ok nmX9 hown hK hP hD hS hmo_11 hFo_11 rfl 3 (by decide) (hts (.fieldLink RX9 17 "RopeDrumsModel" "around" "[D") (by decide +kernel)) (fun _ h9 => h9) rfl hin2 rfl (by decide +kernel) (rfl) (rfl) (Nat.le_of_ble_eq_true rfl) dX9_init_25 (fun H locs F12 eF12 hP hS => ?_)
  have eF12 : F12 = va_up F10 o (.inr (8, [.int 0, .ref q1, .ref q5, .ref q9, .null, .null, .null, .null, .null, .int 0, .null, .null, .null, .null, .null, .null, .null, .int 0, .null, .long 0])) := eF12
  have hFo_12 : F12 o = .inr (8, [.int 0, .ref q1, .ref q5, .ref q9, .null, .null, .null, .null, .null, .int 0, .null, .null, .null, .null, .null, .null, .null, .int 0, .null, .long 0]) := by rw [eF12]; exact va_up_self _ _ _
  have hFq1_12 : F12 q1 = cI (cy 1) 10 (fun _ => 0) := by rw [eF12, va_up_ne _ _ (pl_ne hFq1_11 hFo_11 rfl)]; exact hFq1_11
  have hFq5_12 : F12 q5 = cJ (cy 2) 10 (fun _ => 0) := by rw [eF12, va_up_ne _ _ (pl_ne hFq5_11 hFo_11 rfl)]; exact hFq5_11
  have hFq9_12 : F12 q9 = cD (cy 0) 6 (fun _ => 0) := by rw [eF12, va_up_ne _ _ (pl_ne hFq9 hFo_11 rfl)]; exact hFq9
  refine lv_aload_n hx hb dX9_init_28 rfl (lv_at hl 0 rfl) ?_
  refine lv_bipush (v := 6) hx hb dX9_init_29 (by decide) ?_
  refine pg_newa (N' := 6) (atype := .double) (ty := .double) hx hb (hts (.arrayClass .double) (by decide +kernel)) rfl hK 0 rfl hP hD hS hA (6, .inr (.inr (.inr (.inl (fun _ => 0))))) (fun cA => by rw [vp_cell_d] <;> rfl) (by decide) rfl (by decide) (Nat.le_of_ble_eq_true rfl) (Nat.le_of_ble_eq_true rfl) dX9_init_31 (fun q13 H F14 L15 hnq13 eF14 eL15 hP hD hS => ?_)
  have hne_q13_q9 : q13 ≠ q9 := fun z => hnq13 (by rw [z]; exact hmq9)
  have hmo_15 : o ∈ L15 := by rw [eL15]; exact List.mem_append_left _ hmo_11
  have hFo_15 : F14 o = .inr (8, [.int 0, .ref q1, .ref q5, .ref q9, .null, .null, .null, .null, .null, .int 0, .null, .null, .null, .null, .null, .null, .null, .int 0, .null, .long 0]) := by rw [eF14, va_up_ne _ _ (fun z => hnq13 (by rw [← z]; exact hmo_11))]; exact hFo_12
  have hmq1_15 : q1 ∈ L15 := by rw [eL15]; exact List.mem_append_left _ hmq1_11
  have hFq1_15 : F14 q1 = cI (cy 1) 10 (fun _ => 0) := by rw [eF14, va_up_ne _ _ (fun z => hnq13 (by rw [← z]; exact hmq1_11))]; exact hFq1_12
  have hmq5_15 : q5 ∈ L15 := by rw [eL15]; exact List.mem_append_left _ hmq5_11
  have hFq5_15 : F14 q5 = cJ (cy 2) 10 (fun _ => 0) := by rw [eF14, va_up_ne _ _ (fun z => hnq13 (by rw [← z]; exact hmq5_11))]; exact hFq5_12
  have hmq9_15 : q9 ∈ L15 := by rw [eL15]; exact List.mem_append_left _ hmq9
  have hFq9_15 : F14 q9 = cD (cy 0) 6 (fun _ => 0) := by rw [eF14, va_up_ne _ _ (fun z => hnq13 (by rw [← z]; exact hmq9))]; exact hFq9_12
  have hmq13 : q13 ∈ L15 := by rw [eL15]; exact List.mem_append_right _ (List.mem_singleton.mpr rfl)
  have hFq13 : F14 q13 = cD (cy 0) 6 (fun _ => 0) := by rw [eF14]; exact va_up_self _ _ _
  refine pg_putF (ci := 8) (v := .ref q13) (ty := (.array .double)) (C := RX9) (T := TX9) (N := 20) hx hb hts hinX9 tyX9 tyX9_ok nmX9 hown hK hP hD hS hmo_15 hFo_15 rfl 4 (by decide) (hts (.fieldLink RX9 21 "RopeDrumsModel" "at" "[D") (by decide +kernel)) (fun _ h9 => h9) rfl hin2 rfl (by decide +kernel) (rfl) (rfl) (Nat.le_of_ble_eq_true rfl) dX9_init_33 (fun H locs F16 eF16 hP hS => ?_)
  have eF16 : F16 = va_up F14 o (.inr (8, [.int 0, .ref q1, .ref q5, .ref q9, .ref q13, .null, .null, .null, .null, .int 0, .null, .null, .null, .null, .null, .null, .null, .int 0, .null, .long 0])) := eF16
  have hFo_16 : F16 o = .inr (8, [.int 0, .ref q1, .ref q5, .ref q9, .ref q13, .null, .null, .null, .null, .int 0, .null, .null, .null, .null, .null, .null, .null, .int 0, .null, .long 0]) := by rw [eF16]; exact va_up_self _ _ _
  have hFq1_16 : F16 q1 = cI (cy 1) 10 (fun _ => 0) := by rw [eF16, va_up_ne _ _ (pl_ne hFq1_15 hFo_15 rfl)]; exact hFq1_15
  have hFq5_16 : F16 q5 = cJ (cy 2) 10 (fun _ => 0) := by rw [eF16, va_up_ne _ _ (pl_ne hFq5_15 hFo_15 rfl)]; exact hFq5_15
  have hFq9_16 : F16 q9 = cD (cy 0) 6 (fun _ => 0) := by rw [eF16, va_up_ne _ _ (pl_ne hFq9_15 hFo_15 rfl)]; exact hFq9_15
  have hFq13_16 : F16 q13 = cD (cy 0) 6 (fun _ => 0) := by rw [eF16, va_up_ne _ _ (pl_ne hFq13 hFo_15 rfl)]; exact hFq13
  refine lv_aload_n hx hb dX9_init_36 rfl (lv_at hl 0 rfl) ?_
  refine lv_bipush (v := 6) hx hb dX9_init_37 (by decide) ?_
  refine pg_newa (N' := 6) (atype := .double) (ty := .double) hx hb (hts (.arrayClass .double) (by decide +kernel)) rfl hK 0 rfl hP hD hS hA (6, .inr (.inr (.inr (.inl (fun _ => 0))))) (fun cA => by rw [vp_cell_d] <;> rfl) (by decide) rfl (by decide) (Nat.le_of_ble_eq_true rfl) (Nat.le_of_ble_eq_true rfl) dX9_init_39 (fun q17 H F18 L19 hnq17 eF18 eL19 hP hD hS => ?_)
  have hne_q17_q9 : q17 ≠ q9 := fun z => hnq17 (by rw [z]; exact hmq9_15)
  have hne_q17_q13 : q17 ≠ q13 := fun z => hnq17 (by rw [z]; exact hmq13)
  have hmo_19 : o ∈ L19 := by rw [eL19]; exact List.mem_append_left _ hmo_15
  have hFo_19 : F18 o = .inr (8, [.int 0, .ref q1, .ref q5, .ref q9, .ref q13, .null, .null, .null, .null, .int 0, .null, .null, .null, .null, .null, .null, .null, .int 0, .null, .long 0]) := by rw [eF18, va_up_ne _ _ (fun z => hnq17 (by rw [← z]; exact hmo_15))]; exact hFo_16
  have hmq1_19 : q1 ∈ L19 := by rw [eL19]; exact List.mem_append_left _ hmq1_15
  have hFq1_19 : F18 q1 = cI (cy 1) 10 (fun _ => 0) := by rw [eF18, va_up_ne _ _ (fun z => hnq17 (by rw [← z]; exact hmq1_15))]; exact hFq1_16
  have hmq5_19 : q5 ∈ L19 := by rw [eL19]; exact List.mem_append_left _ hmq5_15
  have hFq5_19 : F18 q5 = cJ (cy 2) 10 (fun _ => 0) := by rw [eF18, va_up_ne _ _ (fun z => hnq17 (by rw [← z]; exact hmq5_15))]; exact hFq5_16
  have hmq9_19 : q9 ∈ L19 := by rw [eL19]; exact List.mem_append_left _ hmq9_15
  have hFq9_19 : F18 q9 = cD (cy 0) 6 (fun _ => 0) := by rw [eF18, va_up_ne _ _ (fun z => hnq17 (by rw [← z]; exact hmq9_15))]; exact hFq9_16
  have hmq13_19 : q13 ∈ L19 := by rw [eL19]; exact List.mem_append_left _ hmq13
  have hFq13_19 : F18 q13 = cD (cy 0) 6 (fun _ => 0) := by rw [eF18, va_up_ne _ _ (fun z => hnq17 (by rw [← z]; exact hmq13))]; exact hFq13_16
  have hmq17 : q17 ∈ L19 := by rw [eL19]; exact List.mem_append_right _ (List.mem_singleton.mpr rfl)
  have hFq17 : F18 q17 = cD (cy 0) 6 (fun _ => 0) := by rw [eF18]; exact va_up_self _ _ _
  refine pg_putF (ci := 8) (v := .ref q17) (ty := (.array .double)) (C := RX9) (T := TX9) (N := 20) hx hb hts hinX9 tyX9 tyX9_ok nmX9 hown hK hP hD hS hmo_19 hFo_19 rfl 5 (by decide) (hts (.fieldLink RX9 24 "RopeDrumsModel" "rope" "[D") (by decide +kernel)) (fun _ h9 => h9) rfl hin2 rfl (by decide +kernel) (rfl) (rfl) (Nat.le_of_ble_eq_true rfl) dX9_init_41 (fun H locs F20 eF20 hP hS => ?_)
  have eF20 : F20 = va_up F18 o (.inr (8, [.int 0, .ref q1, .ref q5, .ref q9, .ref q13, .ref q17, .null, .null, .null, .int 0, .null, .null, .null, .null, .null, .null, .null, .int 0, .null, .long 0])) := eF20
  have hFo_20 : F20 o = .inr (8, [.int 0, .ref q1, .ref q5, .ref q9, .ref q13, .ref q17, .null, .null, .null, .int 0, .null, .null, .null, .null, .null, .null, .null, .int 0, .null, .long 0]) := by rw [eF20]; exact va_up_self _ _ _
  have hFq1_20 : F20 q1 = cI (cy 1) 10 (fun _ => 0) := by rw [eF20, va_up_ne _ _ (pl_ne hFq1_19 hFo_19 rfl)]; exact hFq1_19
  have hFq5_20 : F20 q5 = cJ (cy 2) 10 (fun _ => 0) := by rw [eF20, va_up_ne _ _ (pl_ne hFq5_19 hFo_19 rfl)]; exact hFq5_19
  have hFq9_20 : F20 q9 = cD (cy 0) 6 (fun _ => 0) := by rw [eF20, va_up_ne _ _ (pl_ne hFq9_19 hFo_19 rfl)]; exact hFq9_19
  have hFq13_20 : F20 q13 = cD (cy 0) 6 (fun _ => 0) := by rw [eF20, va_up_ne _ _ (pl_ne hFq13_19 hFo_19 rfl)]; exact hFq13_19
  have hFq17_20 : F20 q17 = cD (cy 0) 6 (fun _ => 0) := by rw [eF20, va_up_ne _ _ (pl_ne hFq17 hFo_19 rfl)]; exact hFq17
  refine lv_aload_n hx hb dX9_init_44 rfl (lv_at hl 0 rfl) ?_
  refine lv_bipush (v := 6) hx hb dX9_init_45 (by decide) ?_
  refine pg_newa (N' := 6) (atype := .long) (ty := .long) hx hb (hts (.arrayClass .long) (by decide +kernel)) rfl hK 2 rfl hP hD hS hA (6, .inr (.inl (fun _ => 0))) (fun cA => by rw [vp_cell_l] <;> rfl) (by decide) rfl (by decide) (Nat.le_of_ble_eq_true rfl) (Nat.le_of_ble_eq_true rfl) dX9_init_47 (fun q21 H F22 L23 hnq21 eF22 eL23 hP hD hS => ?_)
  have hmo_23 : o ∈ L23 := by rw [eL23]; exact List.mem_append_left _ hmo_19
  have hFo_23 : F22 o = .inr (8, [.int 0, .ref q1, .ref q5, .ref q9, .ref q13, .ref q17, .null, .null, .null, .int 0, .null, .null, .null, .null, .null, .null, .null, .int 0, .null, .long 0]) := by rw [eF22, va_up_ne _ _ (fun z => hnq21 (by rw [← z]; exact hmo_19))]; exact hFo_20
  have hmq1_23 : q1 ∈ L23 := by rw [eL23]; exact List.mem_append_left _ hmq1_19
  have hFq1_23 : F22 q1 = cI (cy 1) 10 (fun _ => 0) := by rw [eF22, va_up_ne _ _ (fun z => hnq21 (by rw [← z]; exact hmq1_19))]; exact hFq1_20
  have hmq5_23 : q5 ∈ L23 := by rw [eL23]; exact List.mem_append_left _ hmq5_19
  have hFq5_23 : F22 q5 = cJ (cy 2) 10 (fun _ => 0) := by rw [eF22, va_up_ne _ _ (fun z => hnq21 (by rw [← z]; exact hmq5_19))]; exact hFq5_20
  have hmq9_23 : q9 ∈ L23 := by rw [eL23]; exact List.mem_append_left _ hmq9_19
  have hFq9_23 : F22 q9 = cD (cy 0) 6 (fun _ => 0) := by rw [eF22, va_up_ne _ _ (fun z => hnq21 (by rw [← z]; exact hmq9_19))]; exact hFq9_20
  have hmq13_23 : q13 ∈ L23 := by rw [eL23]; exact List.mem_append_left _ hmq13_19
  have hFq13_23 : F22 q13 = cD (cy 0) 6 (fun _ => 0) := by rw [eF22, va_up_ne _ _ (fun z => hnq21 (by rw [← z]; exact hmq13_19))]; exact hFq13_20
  have hmq17_23 : q17 ∈ L23 := by rw [eL23]; exact List.mem_append_left _ hmq17
  have hFq17_23 : F22 q17 = cD (cy 0) 6 (fun _ => 0) := by rw [eF22, va_up_ne _ _ (fun z => hnq21 (by rw [← z]; exact hmq17))]; exact hFq17_20
  have hmq21 : q21 ∈ L23 := by rw [eL23]; exact List.mem_append_right _ (List.mem_singleton.mpr rfl)
  have hFq21 : F22 q21 = cJ (cy 2) 6 (fun _ => 0) := by rw [eF22]; exact va_up_self _ _ _
  refine pg_putF (ci := 8) (v := .ref q21) (ty := (.array .long)) (C := RX9) (T := TX9) (N := 20) hx hb hts hinX9 tyX9 tyX9_ok nmX9 hown hK hP hD hS hmo_23 hFo_23 rfl 6 (by decide) (hts (.fieldLink RX9 27 "RopeDrumsModel" "turns" "[J") (by decide +kernel)) (fun _ h9 => h9) rfl hin2 rfl (by decide +kernel) (rfl) (rfl) (Nat.le_of_ble_eq_true rfl) dX9_init_49 (fun H locs F24 eF24 hP hS => ?_)
  have eF24 : F24 = va_up F22 o (.inr (8, [.int 0, .ref q1, .ref q5, .ref q9, .ref q13, .ref q17, .ref q21, .null, .null, .int 0, .null, .null, .null, .null, .null, .null, .null, .int 0, .null, .long 0])) := eF24
  have hFo_24 : F24 o = .inr (8, [.int 0, .ref q1, .ref q5, .ref q9, .ref q13, .ref q17, .ref q21, .null, .null, .int 0, .null, .null, .null, .null, .null, .null, .null, .int 0, .null, .long 0]) := by rw [eF24]; exact va_up_self _ _ _
  have hFq1_24 : F24 q1 = cI (cy 1) 10 (fun _ => 0) := by rw [eF24, va_up_ne _ _ (pl_ne hFq1_23 hFo_23 rfl)]; exact hFq1_23
  have hFq5_24 : F24 q5 = cJ (cy 2) 10 (fun _ => 0) := by rw [eF24, va_up_ne _ _ (pl_ne hFq5_23 hFo_23 rfl)]; exact hFq5_23
  have hFq9_24 : F24 q9 = cD (cy 0) 6 (fun _ => 0) := by rw [eF24, va_up_ne _ _ (pl_ne hFq9_23 hFo_23 rfl)]; exact hFq9_23
  have hFq13_24 : F24 q13 = cD (cy 0) 6 (fun _ => 0) := by rw [eF24, va_up_ne _ _ (pl_ne hFq13_23 hFo_23 rfl)]; exact hFq13_23
  have hFq17_24 : F24 q17 = cD (cy 0) 6 (fun _ => 0) := by rw [eF24, va_up_ne _ _ (pl_ne hFq17_23 hFo_23 rfl)]; exact hFq17_23
  have hFq21_24 : F24 q21 = cJ (cy 2) 6 (fun _ => 0) := by rw [eF24, va_up_ne _ _ (pl_ne hFq21 hFo_23 rfl)]; exact hFq21
  refine lv_aload_n hx hb dX9_init_52 rfl (lv_at hl 0 rfl) ?_
  refine lv_bipush (v := 8) hx hb dX9_init_53 (by decide) ?_
  refine pg_newa (N' := 8) (atype := .int) (ty := .int) hx hb (hts (.arrayClass .int) (by decide +kernel)) rfl hK 1 rfl hP hD hS hA (8, .inl (fun _ => 0)) (fun cA => by rw [vp_cell_i] <;> rfl) (by decide) rfl (by decide) (Nat.le_of_ble_eq_true rfl) (Nat.le_of_ble_eq_true rfl) dX9_init_55 (fun q25 H F26 L27 hnq25 eF26 eL27 hP hD hS => ?_)
  have hmo_27 : o ∈ L27 := by rw [eL27]; exact List.mem_append_left _ hmo_23
  have hFo_27 : F26 o = .inr (8, [.int 0, .ref q1, .ref q5, .ref q9, .ref q13, .ref q17, .ref q21, .null, .null, .int 0, .null, .null, .null, .null, .null, .null, .null, .int 0, .null, .long 0]) := by rw [eF26, va_up_ne _ _ (fun z => hnq25 (by rw [← z]; exact hmo_23))]; exact hFo_24
  have hmq1_27 : q1 ∈ L27 := by rw [eL27]; exact List.mem_append_left _ hmq1_23
  have hFq1_27 : F26 q1 = cI (cy 1) 10 (fun _ => 0) := by rw [eF26, va_up_ne _ _ (fun z => hnq25 (by rw [← z]; exact hmq1_23))]; exact hFq1_24
  have hmq5_27 : q5 ∈ L27 := by rw [eL27]; exact List.mem_append_left _ hmq5_23
  have hFq5_27 : F26 q5 = cJ (cy 2) 10 (fun _ => 0) := by rw [eF26, va_up_ne _ _ (fun z => hnq25 (by rw [← z]; exact hmq5_23))]; exact hFq5_24
  have hmq9_27 : q9 ∈ L27 := by rw [eL27]; exact List.mem_append_left _ hmq9_23
  have hFq9_27 : F26 q9 = cD (cy 0) 6 (fun _ => 0) := by rw [eF26, va_up_ne _ _ (fun z => hnq25 (by rw [← z]; exact hmq9_23))]; exact hFq9_24
  have hmq13_27 : q13 ∈ L27 := by rw [eL27]; exact List.mem_append_left _ hmq13_23
  have hFq13_27 : F26 q13 = cD (cy 0) 6 (fun _ => 0) := by rw [eF26, va_up_ne _ _ (fun z => hnq25 (by rw [← z]; exact hmq13_23))]; exact hFq13_24
  have hmq17_27 : q17 ∈ L27 := by rw [eL27]; exact List.mem_append_left _ hmq17_23
  have hFq17_27 : F26 q17 = cD (cy 0) 6 (fun _ => 0) := by rw [eF26, va_up_ne _ _ (fun z => hnq25 (by rw [← z]; exact hmq17_23))]; exact hFq17_24
  have hmq21_27 : q21 ∈ L27 := by rw [eL27]; exact List.mem_append_left _ hmq21
  have hFq21_27 : F26 q21 = cJ (cy 2) 6 (fun _ => 0) := by rw [eF26, va_up_ne _ _ (fun z => hnq25 (by rw [← z]; exact hmq21))]; exact hFq21_24
  have hmq25 : q25 ∈ L27 := by rw [eL27]; exact List.mem_append_right _ (List.mem_singleton.mpr rfl)
  have hFq25 : F26 q25 = cI (cy 1) 8 (fun _ => 0) := by rw [eF26]; exact va_up_self _ _ _
  refine pg_putF (ci := 8) (v := .ref q25) (ty := (.array .int)) (C := RX9) (T := TX9) (N := 20) hx hb hts hinX9 tyX9 tyX9_ok nmX9 hown hK hP hD hS hmo_27 hFo_27 rfl 7 (by decide) (hts (.fieldLink RX9 30 "RopeDrumsModel" "logSize" "[I") (by decide +kernel)) (fun _ h9 => h9) rfl hin2 rfl (by decide +kernel) (rfl) (rfl) (Nat.le_of_ble_eq_true rfl) dX9_init_57 (fun H locs F28 eF28 hP hS => ?_)
  have eF28 : F28 = va_up F26 o (.inr (8, [.int 0, .ref q1, .ref q5, .ref q9, .ref q13, .ref q17, .ref q21, .ref q25, .null, .int 0, .null, .null, .null, .null, .null, .null, .null, .int 0, .null, .long 0])) := eF28
  have hFo_28 : F28 o = .inr (8, [.int 0, .ref q1, .ref q5, .ref q9, .ref q13, .ref q17, .ref q21, .ref q25, .null, .int 0, .null, .null, .null, .null, .null, .null, .null, .int 0, .null, .long 0]) := by rw [eF28]; exact va_up_self _ _ _
  have hFq1_28 : F28 q1 = cI (cy 1) 10 (fun _ => 0) := by rw [eF28, va_up_ne _ _ (pl_ne hFq1_27 hFo_27 rfl)]; exact hFq1_27
  have hFq5_28 : F28 q5 = cJ (cy 2) 10 (fun _ => 0) := by rw [eF28, va_up_ne _ _ (pl_ne hFq5_27 hFo_27 rfl)]; exact hFq5_27
  have hFq9_28 : F28 q9 = cD (cy 0) 6 (fun _ => 0) := by rw [eF28, va_up_ne _ _ (pl_ne hFq9_27 hFo_27 rfl)]; exact hFq9_27
  have hFq13_28 : F28 q13 = cD (cy 0) 6 (fun _ => 0) := by rw [eF28, va_up_ne _ _ (pl_ne hFq13_27 hFo_27 rfl)]; exact hFq13_27
  have hFq17_28 : F28 q17 = cD (cy 0) 6 (fun _ => 0) := by rw [eF28, va_up_ne _ _ (pl_ne hFq17_27 hFo_27 rfl)]; exact hFq17_27
  have hFq21_28 : F28 q21 = cJ (cy 2) 6 (fun _ => 0) := by rw [eF28, va_up_ne _ _ (pl_ne hFq21_27 hFo_27 rfl)]; exact hFq21_27
  have hFq25_28 : F28 q25 = cI (cy 1) 8 (fun _ => 0) := by rw [eF28, va_up_ne _ _ (pl_ne hFq25 hFo_27 rfl)]; exact hFq25
  refine lv_aload_n hx hb dX9_init_60 rfl (lv_at hl 0 rfl) ?_
  refine lv_sipush (v := 128) hx hb dX9_init_61 (by decide) ?_
  refine pg_newa (N' := 128) (atype := .long) (ty := .long) hx hb (hts (.arrayClass .long) (by decide +kernel)) rfl hK 2 rfl hP hD hS hA (128, .inr (.inl (fun _ => 0))) (fun cA => by rw [vp_cell_l] <;> rfl) (by decide) rfl (by decide) (Nat.le_of_ble_eq_true rfl) (Nat.le_of_ble_eq_true rfl) dX9_init_64 (fun q29 H F30 L31 hnq29 eF30 eL31 hP hD hS => ?_)
  have hmo_31 : o ∈ L31 := by rw [eL31]; exact List.mem_append_left _ hmo_27
  have hFo_31 : F30 o = .inr (8, [.int 0, .ref q1, .ref q5, .ref q9, .ref q13, .ref q17, .ref q21, .ref q25, .null, .int 0, .null, .null, .null, .null, .null, .null, .null, .int 0, .null, .long 0]) := by rw [eF30, va_up_ne _ _ (fun z => hnq29 (by rw [← z]; exact hmo_27))]; exact hFo_28
  have hmq1_31 : q1 ∈ L31 := by rw [eL31]; exact List.mem_append_left _ hmq1_27
  have hFq1_31 : F30 q1 = cI (cy 1) 10 (fun _ => 0) := by rw [eF30, va_up_ne _ _ (fun z => hnq29 (by rw [← z]; exact hmq1_27))]; exact hFq1_28
  have hmq5_31 : q5 ∈ L31 := by rw [eL31]; exact List.mem_append_left _ hmq5_27
  have hFq5_31 : F30 q5 = cJ (cy 2) 10 (fun _ => 0) := by rw [eF30, va_up_ne _ _ (fun z => hnq29 (by rw [← z]; exact hmq5_27))]; exact hFq5_28
  have hmq9_31 : q9 ∈ L31 := by rw [eL31]; exact List.mem_append_left _ hmq9_27
  have hFq9_31 : F30 q9 = cD (cy 0) 6 (fun _ => 0) := by rw [eF30, va_up_ne _ _ (fun z => hnq29 (by rw [← z]; exact hmq9_27))]; exact hFq9_28
  have hmq13_31 : q13 ∈ L31 := by rw [eL31]; exact List.mem_append_left _ hmq13_27
  have hFq13_31 : F30 q13 = cD (cy 0) 6 (fun _ => 0) := by rw [eF30, va_up_ne _ _ (fun z => hnq29 (by rw [← z]; exact hmq13_27))]; exact hFq13_28
  have hmq17_31 : q17 ∈ L31 := by rw [eL31]; exact List.mem_append_left _ hmq17_27
  have hFq17_31 : F30 q17 = cD (cy 0) 6 (fun _ => 0) := by rw [eF30, va_up_ne _ _ (fun z => hnq29 (by rw [← z]; exact hmq17_27))]; exact hFq17_28
  have hmq21_31 : q21 ∈ L31 := by rw [eL31]; exact List.mem_append_left _ hmq21_27
  have hFq21_31 : F30 q21 = cJ (cy 2) 6 (fun _ => 0) := by rw [eF30, va_up_ne _ _ (fun z => hnq29 (by rw [← z]; exact hmq21_27))]; exact hFq21_28
  have hmq25_31 : q25 ∈ L31 := by rw [eL31]; exact List.mem_append_left _ hmq25
  have hFq25_31 : F30 q25 = cI (cy 1) 8 (fun _ => 0) := by rw [eF30, va_up_ne _ _ (fun z => hnq29 (by rw [← z]; exact hmq25))]; exact hFq25_28
  have hmq29 : q29 ∈ L31 := by rw [eL31]; exact List.mem_append_right _ (List.mem_singleton.mpr rfl)
  have hFq29 : F30 q29 = cJ (cy 2) 128 (fun _ => 0) := by rw [eF30]; exact va_up_self _ _ _
  refine pg_putF (ci := 8) (v := .ref q29) (ty := (.array .long)) (C := RX9) (T := TX9) (N := 20) hx hb hts hinX9 tyX9 tyX9_ok nmX9 hown hK hP hD hS hmo_31 hFo_31 rfl 8 (by decide) (hts (.fieldLink RX9 33 "RopeDrumsModel" "logBits" "[J") (by decide +kernel)) (fun _ h9 => h9) rfl hin2 rfl (by decide +kernel) (rfl) (rfl) (Nat.le_of_ble_eq_true rfl) dX9_init_66 (fun H locs F32 eF32 hP hS => ?_)
  have eF32 : F32 = va_up F30 o (.inr (8, [.int 0, .ref q1, .ref q5, .ref q9, .ref q13, .ref q17, .ref q21, .ref q25, .ref q29, .int 0, .null, .null, .null, .null, .null, .null, .null, .int 0, .null, .long 0])) := eF32
  have hFo_32 : F32 o = .inr (8, [.int 0, .ref q1, .ref q5, .ref q9, .ref q13, .ref q17, .ref q21, .ref q25, .ref q29, .int 0, .null, .null, .null, .null, .null, .null, .null, .int 0, .null, .long 0]) := by rw [eF32]; exact va_up_self _ _ _
  have hFq1_32 : F32 q1 = cI (cy 1) 10 (fun _ => 0) := by rw [eF32, va_up_ne _ _ (pl_ne hFq1_31 hFo_31 rfl)]; exact hFq1_31
  have hFq5_32 : F32 q5 = cJ (cy 2) 10 (fun _ => 0) := by rw [eF32, va_up_ne _ _ (pl_ne hFq5_31 hFo_31 rfl)]; exact hFq5_31
  have hFq9_32 : F32 q9 = cD (cy 0) 6 (fun _ => 0) := by rw [eF32, va_up_ne _ _ (pl_ne hFq9_31 hFo_31 rfl)]; exact hFq9_31
  have hFq13_32 : F32 q13 = cD (cy 0) 6 (fun _ => 0) := by rw [eF32, va_up_ne _ _ (pl_ne hFq13_31 hFo_31 rfl)]; exact hFq13_31
  have hFq17_32 : F32 q17 = cD (cy 0) 6 (fun _ => 0) := by rw [eF32, va_up_ne _ _ (pl_ne hFq17_31 hFo_31 rfl)]; exact hFq17_31
  have hFq21_32 : F32 q21 = cJ (cy 2) 6 (fun _ => 0) := by rw [eF32, va_up_ne _ _ (pl_ne hFq21_31 hFo_31 rfl)]; exact hFq21_31
  have hFq25_32 : F32 q25 = cI (cy 1) 8 (fun _ => 0) := by rw [eF32, va_up_ne _ _ (pl_ne hFq25_31 hFo_31 rfl)]; exact hFq25_31
  have hFq29_32 : F32 q29 = cJ (cy 2) 128 (fun _ => 0) := by rw [eF32, va_up_ne _ _ (pl_ne hFq29 hFo_31 rfl)]; exact hFq29
  refine lv_aload_n hx hb dX9_init_69 rfl (lv_at hl 0 rfl) ?_
  refine lv_bipush (v := 30) hx hb dX9_init_70 (by decide) ?_
  refine pg_newa (N' := 30) (atype := .int) (ty := .int) hx hb (hts (.arrayClass .int) (by decide +kernel)) rfl hK 1 rfl hP hD hS hA (30, .inl (fun _ => 0)) (fun cA => by rw [vp_cell_i] <;> rfl) (by decide) rfl (by decide) (Nat.le_of_ble_eq_true rfl) (Nat.le_of_ble_eq_true rfl) dX9_init_72 (fun q33 H F34 L35 hnq33 eF34 eL35 hP hD hS => ?_)
  have hmo_35 : o ∈ L35 := by rw [eL35]; exact List.mem_append_left _ hmo_31
  have hFo_35 : F34 o = .inr (8, [.int 0, .ref q1, .ref q5, .ref q9, .ref q13, .ref q17, .ref q21, .ref q25, .ref q29, .int 0, .null, .null, .null, .null, .null, .null, .null, .int 0, .null, .long 0]) := by rw [eF34, va_up_ne _ _ (fun z => hnq33 (by rw [← z]; exact hmo_31))]; exact hFo_32
  have hmq1_35 : q1 ∈ L35 := by rw [eL35]; exact List.mem_append_left _ hmq1_31
  have hFq1_35 : F34 q1 = cI (cy 1) 10 (fun _ => 0) := by rw [eF34, va_up_ne _ _ (fun z => hnq33 (by rw [← z]; exact hmq1_31))]; exact hFq1_32
  have hmq5_35 : q5 ∈ L35 := by rw [eL35]; exact List.mem_append_left _ hmq5_31
  have hFq5_35 : F34 q5 = cJ (cy 2) 10 (fun _ => 0) := by rw [eF34, va_up_ne _ _ (fun z => hnq33 (by rw [← z]; exact hmq5_31))]; exact hFq5_32
  have hmq9_35 : q9 ∈ L35 := by rw [eL35]; exact List.mem_append_left _ hmq9_31
  have hFq9_35 : F34 q9 = cD (cy 0) 6 (fun _ => 0) := by rw [eF34, va_up_ne _ _ (fun z => hnq33 (by rw [← z]; exact hmq9_31))]; exact hFq9_32
  have hmq13_35 : q13 ∈ L35 := by rw [eL35]; exact List.mem_append_left _ hmq13_31
  have hFq13_35 : F34 q13 = cD (cy 0) 6 (fun _ => 0) := by rw [eF34, va_up_ne _ _ (fun z => hnq33 (by rw [← z]; exact hmq13_31))]; exact hFq13_32
  have hmq17_35 : q17 ∈ L35 := by rw [eL35]; exact List.mem_append_left _ hmq17_31
  have hFq17_35 : F34 q17 = cD (cy 0) 6 (fun _ => 0) := by rw [eF34, va_up_ne _ _ (fun z => hnq33 (by rw [← z]; exact hmq17_31))]; exact hFq17_32
  have hmq21_35 : q21 ∈ L35 := by rw [eL35]; exact List.mem_append_left _ hmq21_31
  have hFq21_35 : F34 q21 = cJ (cy 2) 6 (fun _ => 0) := by rw [eF34, va_up_ne _ _ (fun z => hnq33 (by rw [← z]; exact hmq21_31))]; exact hFq21_32
  have hmq25_35 : q25 ∈ L35 := by rw [eL35]; exact List.mem_append_left _ hmq25_31
  have hFq25_35 : F34 q25 = cI (cy 1) 8 (fun _ => 0) := by rw [eF34, va_up_ne _ _ (fun z => hnq33 (by rw [← z]; exact hmq25_31))]; exact hFq25_32
  have hmq29_35 : q29 ∈ L35 := by rw [eL35]; exact List.mem_append_left _ hmq29
  have hFq29_35 : F34 q29 = cJ (cy 2) 128 (fun _ => 0) := by rw [eF34, va_up_ne _ _ (fun z => hnq33 (by rw [← z]; exact hmq29))]; exact hFq29_32
  have hmq33 : q33 ∈ L35 := by rw [eL35]; exact List.mem_append_right _ (List.mem_singleton.mpr rfl)
  have hFq33 : F34 q33 = cI (cy 1) 30 (fun _ => 0) := by rw [eF34]; exact va_up_self _ _ _
  refine pg_putF (ci := 8) (v := .ref q33) (ty := (.array .int)) (C := RX9) (T := TX9) (N := 20) hx hb hts hinX9 tyX9 tyX9_ok nmX9 hown hK hP hD hS hmo_35 hFo_35 rfl 10 (by decide) (hts (.fieldLink RX9 36 "RopeDrumsModel" "weightOf" "[I") (by decide +kernel)) (fun _ h9 => h9) rfl hin2 rfl (by decide +kernel) (rfl) (rfl) (Nat.le_of_ble_eq_true rfl) dX9_init_74 (fun H locs F36 eF36 hP hS => ?_)
  have eF36 : F36 = va_up F34 o (.inr (8, [.int 0, .ref q1, .ref q5, .ref q9, .ref q13, .ref q17, .ref q21, .ref q25, .ref q29, .int 0, .ref q33, .null, .null, .null, .null, .null, .null, .int 0, .null, .long 0])) := eF36
  have hFo_36 : F36 o = .inr (8, [.int 0, .ref q1, .ref q5, .ref q9, .ref q13, .ref q17, .ref q21, .ref q25, .ref q29, .int 0, .ref q33, .null, .null, .null, .null, .null, .null, .int 0, .null, .long 0]) := by rw [eF36]; exact va_up_self _ _ _
  have hFq1_36 : F36 q1 = cI (cy 1) 10 (fun _ => 0) := by rw [eF36, va_up_ne _ _ (pl_ne hFq1_35 hFo_35 rfl)]; exact hFq1_35
  have hFq5_36 : F36 q5 = cJ (cy 2) 10 (fun _ => 0) := by rw [eF36, va_up_ne _ _ (pl_ne hFq5_35 hFo_35 rfl)]; exact hFq5_35
  have hFq9_36 : F36 q9 = cD (cy 0) 6 (fun _ => 0) := by rw [eF36, va_up_ne _ _ (pl_ne hFq9_35 hFo_35 rfl)]; exact hFq9_35
  have hFq13_36 : F36 q13 = cD (cy 0) 6 (fun _ => 0) := by rw [eF36, va_up_ne _ _ (pl_ne hFq13_35 hFo_35 rfl)]; exact hFq13_35
  have hFq17_36 : F36 q17 = cD (cy 0) 6 (fun _ => 0) := by rw [eF36, va_up_ne _ _ (pl_ne hFq17_35 hFo_35 rfl)]; exact hFq17_35
  have hFq21_36 : F36 q21 = cJ (cy 2) 6 (fun _ => 0) := by rw [eF36, va_up_ne _ _ (pl_ne hFq21_35 hFo_35 rfl)]; exact hFq21_35
  have hFq25_36 : F36 q25 = cI (cy 1) 8 (fun _ => 0) := by rw [eF36, va_up_ne _ _ (pl_ne hFq25_35 hFo_35 rfl)]; exact hFq25_35
  have hFq29_36 : F36 q29 = cJ (cy 2) 128 (fun _ => 0) := by rw [eF36, va_up_ne _ _ (pl_ne hFq29_35 hFo_35 rfl)]; exact hFq29_35
  have hFq33_36 : F36 q33 = cI (cy 1) 30 (fun _ => 0) := by rw [eF36, va_up_ne _ _ (pl_ne hFq33 hFo_35 rfl)]; exact hFq33
  refine lv_aload_n hx hb dX9_init_77 rfl (lv_at hl 0 rfl) ?_
  refine lv_bipush (v := 30) hx hb dX9_init_78 (by decide) ?_
  refine pg_newa (N' := 30) (atype := .boolean) (ty := .boolean) hx hb (hts (.arrayClass .boolean) (by decide +kernel)) rfl hK 3 rfl hP hD hS hA (30, .inl (fun _ => 0)) (fun cA => by rw [vp_cell_i] <;> rfl) (by decide) rfl (by decide) (Nat.le_of_ble_eq_true rfl) (Nat.le_of_ble_eq_true rfl) dX9_init_80 (fun q37 H F38 L39 hnq37 eF38 eL39 hP hD hS => ?_)
  have hne_q37_q33 : q37 ≠ q33 := fun z => hnq37 (by rw [z]; exact hmq33)
  have hmo_39 : o ∈ L39 := by rw [eL39]; exact List.mem_append_left _ hmo_35
  have hFo_39 : F38 o = .inr (8, [.int 0, .ref q1, .ref q5, .ref q9, .ref q13, .ref q17, .ref q21, .ref q25, .ref q29, .int 0, .ref q33, .null, .null, .null, .null, .null, .null, .int 0, .null, .long 0]) := by rw [eF38, va_up_ne _ _ (fun z => hnq37 (by rw [← z]; exact hmo_35))]; exact hFo_36
  have hmq1_39 : q1 ∈ L39 := by rw [eL39]; exact List.mem_append_left _ hmq1_35
  have hFq1_39 : F38 q1 = cI (cy 1) 10 (fun _ => 0) := by rw [eF38, va_up_ne _ _ (fun z => hnq37 (by rw [← z]; exact hmq1_35))]; exact hFq1_36
  have hmq5_39 : q5 ∈ L39 := by rw [eL39]; exact List.mem_append_left _ hmq5_35
  have hFq5_39 : F38 q5 = cJ (cy 2) 10 (fun _ => 0) := by rw [eF38, va_up_ne _ _ (fun z => hnq37 (by rw [← z]; exact hmq5_35))]; exact hFq5_36
  have hmq9_39 : q9 ∈ L39 := by rw [eL39]; exact List.mem_append_left _ hmq9_35
  have hFq9_39 : F38 q9 = cD (cy 0) 6 (fun _ => 0) := by rw [eF38, va_up_ne _ _ (fun z => hnq37 (by rw [← z]; exact hmq9_35))]; exact hFq9_36
  have hmq13_39 : q13 ∈ L39 := by rw [eL39]; exact List.mem_append_left _ hmq13_35
  have hFq13_39 : F38 q13 = cD (cy 0) 6 (fun _ => 0) := by rw [eF38, va_up_ne _ _ (fun z => hnq37 (by rw [← z]; exact hmq13_35))]; exact hFq13_36
  have hmq17_39 : q17 ∈ L39 := by rw [eL39]; exact List.mem_append_left _ hmq17_35
  have hFq17_39 : F38 q17 = cD (cy 0) 6 (fun _ => 0) := by rw [eF38, va_up_ne _ _ (fun z => hnq37 (by rw [← z]; exact hmq17_35))]; exact hFq17_36
  have hmq21_39 : q21 ∈ L39 := by rw [eL39]; exact List.mem_append_left _ hmq21_35
  have hFq21_39 : F38 q21 = cJ (cy 2) 6 (fun _ => 0) := by rw [eF38, va_up_ne _ _ (fun z => hnq37 (by rw [← z]; exact hmq21_35))]; exact hFq21_36
  have hmq25_39 : q25 ∈ L39 := by rw [eL39]; exact List.mem_append_left _ hmq25_35
  have hFq25_39 : F38 q25 = cI (cy 1) 8 (fun _ => 0) := by rw [eF38, va_up_ne _ _ (fun z => hnq37 (by rw [← z]; exact hmq25_35))]; exact hFq25_36
  have hmq29_39 : q29 ∈ L39 := by rw [eL39]; exact List.mem_append_left _ hmq29_35
  have hFq29_39 : F38 q29 = cJ (cy 2) 128 (fun _ => 0) := by rw [eF38, va_up_ne _ _ (fun z => hnq37 (by rw [← z]; exact hmq29_35))]; exact hFq29_36
  have hmq33_39 : q33 ∈ L39 := by rw [eL39]; exact List.mem_append_left _ hmq33
  have hFq33_39 : F38 q33 = cI (cy 1) 30 (fun _ => 0) := by rw [eF38, va_up_ne _ _ (fun z => hnq37 (by rw [← z]; exact hmq33))]; exact hFq33_36
  have hmq37 : q37 ∈ L39 := by rw [eL39]; exact List.mem_append_right _ (List.mem_singleton.mpr rfl)
  have hFq37 : F38 q37 = cI (cy 3) 30 (fun _ => 0) := by rw [eF38]; exact va_up_self _ _ _
  refine pg_putF (ci := 8) (v := .ref q37) (ty := (.array .boolean)) (C := RX9) (T := TX9) (N := 20) hx hb hts hinX9 tyX9 tyX9_ok nmX9 hown hK hP hD hS hmo_39 hFo_39 rfl 11 (by decide) (hts (.fieldLink RX9 39 "RopeDrumsModel" "isReel" "[Z") (by decide +kernel)) (fun _ h9 => h9) rfl hin2 rfl (by decide +kernel) (rfl) (rfl) (Nat.le_of_ble_eq_true rfl) dX9_init_82 (fun H locs F40 eF40 hP hS => ?_)
  have eF40 : F40 = va_up F38 o (.inr (8, [.int 0, .ref q1, .ref q5, .ref q9, .ref q13, .ref q17, .ref q21, .ref q25, .ref q29, .int 0, .ref q33, .ref q37, .null, .null, .null, .null, .null, .int 0, .null, .long 0])) := eF40
  have hFo_40 : F40 o = .inr (8, [.int 0, .ref q1, .ref q5, .ref q9, .ref q13, .ref q17, .ref q21, .ref q25, .ref q29, .int 0, .ref q33, .ref q37, .null, .null, .null, .null, .null, .int 0, .null, .long 0]) := by rw [eF40]; exact va_up_self _ _ _
  have hFq1_40 : F40 q1 = cI (cy 1) 10 (fun _ => 0) := by rw [eF40, va_up_ne _ _ (pl_ne hFq1_39 hFo_39 rfl)]; exact hFq1_39
  have hFq5_40 : F40 q5 = cJ (cy 2) 10 (fun _ => 0) := by rw [eF40, va_up_ne _ _ (pl_ne hFq5_39 hFo_39 rfl)]; exact hFq5_39
  have hFq9_40 : F40 q9 = cD (cy 0) 6 (fun _ => 0) := by rw [eF40, va_up_ne _ _ (pl_ne hFq9_39 hFo_39 rfl)]; exact hFq9_39
  have hFq13_40 : F40 q13 = cD (cy 0) 6 (fun _ => 0) := by rw [eF40, va_up_ne _ _ (pl_ne hFq13_39 hFo_39 rfl)]; exact hFq13_39
  have hFq17_40 : F40 q17 = cD (cy 0) 6 (fun _ => 0) := by rw [eF40, va_up_ne _ _ (pl_ne hFq17_39 hFo_39 rfl)]; exact hFq17_39
  have hFq21_40 : F40 q21 = cJ (cy 2) 6 (fun _ => 0) := by rw [eF40, va_up_ne _ _ (pl_ne hFq21_39 hFo_39 rfl)]; exact hFq21_39
  have hFq25_40 : F40 q25 = cI (cy 1) 8 (fun _ => 0) := by rw [eF40, va_up_ne _ _ (pl_ne hFq25_39 hFo_39 rfl)]; exact hFq25_39
  have hFq29_40 : F40 q29 = cJ (cy 2) 128 (fun _ => 0) := by rw [eF40, va_up_ne _ _ (pl_ne hFq29_39 hFo_39 rfl)]; exact hFq29_39
  have hFq33_40 : F40 q33 = cI (cy 1) 30 (fun _ => 0) := by rw [eF40, va_up_ne _ _ (pl_ne hFq33_39 hFo_39 rfl)]; exact hFq33_39
  have hFq37_40 : F40 q37 = cI (cy 3) 30 (fun _ => 0) := by rw [eF40, va_up_ne _ _ (pl_ne hFq37 hFo_39 rfl)]; exact hFq37
  refine lv_aload_n hx hb dX9_init_85 rfl (lv_at hl 0 rfl) ?_
  refine lv_iconst (v := 5) hx hb dX9_init_86 (by decide) ?_
  refine pg_newa (N' := 5) (atype := .int) (ty := .int) hx hb (hts (.arrayClass .int) (by decide +kernel)) rfl hK 1 rfl hP hD hS hA (5, .inl (fun _ => 0)) (fun cA => by rw [vp_cell_i] <;> rfl) (by decide) rfl (by decide) (Nat.le_of_ble_eq_true rfl) (Nat.le_of_ble_eq_true rfl) dX9_init_87 (fun q41 H F42 L43 hnq41 eF42 eL43 hP hD hS => ?_)
  have hmo_43 : o ∈ L43 := by rw [eL43]; exact List.mem_append_left _ hmo_39
  have hFo_43 : F42 o = .inr (8, [.int 0, .ref q1, .ref q5, .ref q9, .ref q13, .ref q17, .ref q21, .ref q25, .ref q29, .int 0, .ref q33, .ref q37, .null, .null, .null, .null, .null, .int 0, .null, .long 0]) := by rw [eF42, va_up_ne _ _ (fun z => hnq41 (by rw [← z]; exact hmo_39))]; exact hFo_40
  have hmq1_43 : q1 ∈ L43 := by rw [eL43]; exact List.mem_append_left _ hmq1_39
  have hFq1_43 : F42 q1 = cI (cy 1) 10 (fun _ => 0) := by rw [eF42, va_up_ne _ _ (fun z => hnq41 (by rw [← z]; exact hmq1_39))]; exact hFq1_40
  have hmq5_43 : q5 ∈ L43 := by rw [eL43]; exact List.mem_append_left _ hmq5_39
  have hFq5_43 : F42 q5 = cJ (cy 2) 10 (fun _ => 0) := by rw [eF42, va_up_ne _ _ (fun z => hnq41 (by rw [← z]; exact hmq5_39))]; exact hFq5_40
  have hmq9_43 : q9 ∈ L43 := by rw [eL43]; exact List.mem_append_left _ hmq9_39
  have hFq9_43 : F42 q9 = cD (cy 0) 6 (fun _ => 0) := by rw [eF42, va_up_ne _ _ (fun z => hnq41 (by rw [← z]; exact hmq9_39))]; exact hFq9_40
  have hmq13_43 : q13 ∈ L43 := by rw [eL43]; exact List.mem_append_left _ hmq13_39
  have hFq13_43 : F42 q13 = cD (cy 0) 6 (fun _ => 0) := by rw [eF42, va_up_ne _ _ (fun z => hnq41 (by rw [← z]; exact hmq13_39))]; exact hFq13_40
  have hmq17_43 : q17 ∈ L43 := by rw [eL43]; exact List.mem_append_left _ hmq17_39
  have hFq17_43 : F42 q17 = cD (cy 0) 6 (fun _ => 0) := by rw [eF42, va_up_ne _ _ (fun z => hnq41 (by rw [← z]; exact hmq17_39))]; exact hFq17_40
  have hmq21_43 : q21 ∈ L43 := by rw [eL43]; exact List.mem_append_left _ hmq21_39
  have hFq21_43 : F42 q21 = cJ (cy 2) 6 (fun _ => 0) := by rw [eF42, va_up_ne _ _ (fun z => hnq41 (by rw [← z]; exact hmq21_39))]; exact hFq21_40
  have hmq25_43 : q25 ∈ L43 := by rw [eL43]; exact List.mem_append_left _ hmq25_39
  have hFq25_43 : F42 q25 = cI (cy 1) 8 (fun _ => 0) := by rw [eF42, va_up_ne _ _ (fun z => hnq41 (by rw [← z]; exact hmq25_39))]; exact hFq25_40
  have hmq29_43 : q29 ∈ L43 := by rw [eL43]; exact List.mem_append_left _ hmq29_39
  have hFq29_43 : F42 q29 = cJ (cy 2) 128 (fun _ => 0) := by rw [eF42, va_up_ne _ _ (fun z => hnq41 (by rw [← z]; exact hmq29_39))]; exact hFq29_40
  have hmq33_43 : q33 ∈ L43 := by rw [eL43]; exact List.mem_append_left _ hmq33_39
  have hFq33_43 : F42 q33 = cI (cy 1) 30 (fun _ => 0) := by rw [eF42, va_up_ne _ _ (fun z => hnq41 (by rw [← z]; exact hmq33_39))]; exact hFq33_40
  have hmq37_43 : q37 ∈ L43 := by rw [eL43]; exact List.mem_append_left _ hmq37
  have hFq37_43 : F42 q37 = cI (cy 3) 30 (fun _ => 0) := by rw [eF42, va_up_ne _ _ (fun z => hnq41 (by rw [← z]; exact hmq37))]; exact hFq37_40
  have hmq41 : q41 ∈ L43 := by rw [eL43]; exact List.mem_append_right _ (List.mem_singleton.mpr rfl)
  have hFq41 : F42 q41 = cI (cy 1) 5 (fun _ => 0) := by rw [eF42]; exact va_up_self _ _ _
  refine pg_putF (ci := 8) (v := .ref q41) (ty := (.array .int)) (C := RX9) (T := TX9) (N := 20) hx hb hts hinX9 tyX9 tyX9_ok nmX9 hown hK hP hD hS hmo_43 hFo_43 rfl 12 (by decide) (hts (.fieldLink RX9 43 "RopeDrumsModel" "rackSize" "[I") (by decide +kernel)) (fun _ h9 => h9) rfl hin2 rfl (by decide +kernel) (rfl) (rfl) (Nat.le_of_ble_eq_true rfl) dX9_init_89 (fun H locs F44 eF44 hP hS => ?_)
  have eF44 : F44 = va_up F42 o (.inr (8, [.int 0, .ref q1, .ref q5, .ref q9, .ref q13, .ref q17, .ref q21, .ref q25, .ref q29, .int 0, .ref q33, .ref q37, .ref q41, .null, .null, .null, .null, .int 0, .null, .long 0])) := eF44
  have hFo_44 : F44 o = .inr (8, [.int 0, .ref q1, .ref q5, .ref q9, .ref q13, .ref q17, .ref q21, .ref q25, .ref q29, .int 0, .ref q33, .ref q37, .ref q41, .null, .null, .null, .null, .int 0, .null, .long 0]) := by rw [eF44]; exact va_up_self _ _ _
  have hFq1_44 : F44 q1 = cI (cy 1) 10 (fun _ => 0) := by rw [eF44, va_up_ne _ _ (pl_ne hFq1_43 hFo_43 rfl)]; exact hFq1_43
  have hFq5_44 : F44 q5 = cJ (cy 2) 10 (fun _ => 0) := by rw [eF44, va_up_ne _ _ (pl_ne hFq5_43 hFo_43 rfl)]; exact hFq5_43
  have hFq9_44 : F44 q9 = cD (cy 0) 6 (fun _ => 0) := by rw [eF44, va_up_ne _ _ (pl_ne hFq9_43 hFo_43 rfl)]; exact hFq9_43
  have hFq13_44 : F44 q13 = cD (cy 0) 6 (fun _ => 0) := by rw [eF44, va_up_ne _ _ (pl_ne hFq13_43 hFo_43 rfl)]; exact hFq13_43
  have hFq17_44 : F44 q17 = cD (cy 0) 6 (fun _ => 0) := by rw [eF44, va_up_ne _ _ (pl_ne hFq17_43 hFo_43 rfl)]; exact hFq17_43
  have hFq21_44 : F44 q21 = cJ (cy 2) 6 (fun _ => 0) := by rw [eF44, va_up_ne _ _ (pl_ne hFq21_43 hFo_43 rfl)]; exact hFq21_43
  have hFq25_44 : F44 q25 = cI (cy 1) 8 (fun _ => 0) := by rw [eF44, va_up_ne _ _ (pl_ne hFq25_43 hFo_43 rfl)]; exact hFq25_43
  have hFq29_44 : F44 q29 = cJ (cy 2) 128 (fun _ => 0) := by rw [eF44, va_up_ne _ _ (pl_ne hFq29_43 hFo_43 rfl)]; exact hFq29_43
  have hFq33_44 : F44 q33 = cI (cy 1) 30 (fun _ => 0) := by rw [eF44, va_up_ne _ _ (pl_ne hFq33_43 hFo_43 rfl)]; exact hFq33_43
  have hFq37_44 : F44 q37 = cI (cy 3) 30 (fun _ => 0) := by rw [eF44, va_up_ne _ _ (pl_ne hFq37_43 hFo_43 rfl)]; exact hFq37_43
  have hFq41_44 : F44 q41 = cI (cy 1) 5 (fun _ => 0) := by rw [eF44, va_up_ne _ _ (pl_ne hFq41 hFo_43 rfl)]; exact hFq41
  refine lv_aload_n hx hb dX9_init_92 rfl (lv_at hl 0 rfl) ?_
  refine lv_iconst (v := 5) hx hb dX9_init_93 (by decide) ?_
  refine pg_newa (N' := 5) (atype := .boolean) (ty := .boolean) hx hb (hts (.arrayClass .boolean) (by decide +kernel)) rfl hK 3 rfl hP hD hS hA (5, .inl (fun _ => 0)) (fun cA => by rw [vp_cell_i] <;> rfl) (by decide) rfl (by decide) (Nat.le_of_ble_eq_true rfl) (Nat.le_of_ble_eq_true rfl) dX9_init_94 (fun q45 H F46 L47 hnq45 eF46 eL47 hP hD hS => ?_)
  have hne_q45_q41 : q45 ≠ q41 := fun z => hnq45 (by rw [z]; exact hmq41)
  have hmo_47 : o ∈ L47 := by rw [eL47]; exact List.mem_append_left _ hmo_43
  have hFo_47 : F46 o = .inr (8, [.int 0, .ref q1, .ref q5, .ref q9, .ref q13, .ref q17, .ref q21, .ref q25, .ref q29, .int 0, .ref q33, .ref q37, .ref q41, .null, .null, .null, .null, .int 0, .null, .long 0]) := by rw [eF46, va_up_ne _ _ (fun z => hnq45 (by rw [← z]; exact hmo_43))]; exact hFo_44
  have hmq1_47 : q1 ∈ L47 := by rw [eL47]; exact List.mem_append_left _ hmq1_43
  have hFq1_47 : F46 q1 = cI (cy 1) 10 (fun _ => 0) := by rw [eF46, va_up_ne _ _ (fun z => hnq45 (by rw [← z]; exact hmq1_43))]; exact hFq1_44
  have hmq5_47 : q5 ∈ L47 := by rw [eL47]; exact List.mem_append_left _ hmq5_43
  have hFq5_47 : F46 q5 = cJ (cy 2) 10 (fun _ => 0) := by rw [eF46, va_up_ne _ _ (fun z => hnq45 (by rw [← z]; exact hmq5_43))]; exact hFq5_44
  have hmq9_47 : q9 ∈ L47 := by rw [eL47]; exact List.mem_append_left _ hmq9_43
  have hFq9_47 : F46 q9 = cD (cy 0) 6 (fun _ => 0) := by rw [eF46, va_up_ne _ _ (fun z => hnq45 (by rw [← z]; exact hmq9_43))]; exact hFq9_44
  have hmq13_47 : q13 ∈ L47 := by rw [eL47]; exact List.mem_append_left _ hmq13_43
  have hFq13_47 : F46 q13 = cD (cy 0) 6 (fun _ => 0) := by rw [eF46, va_up_ne _ _ (fun z => hnq45 (by rw [← z]; exact hmq13_43))]; exact hFq13_44
  have hmq17_47 : q17 ∈ L47 := by rw [eL47]; exact List.mem_append_left _ hmq17_43
  have hFq17_47 : F46 q17 = cD (cy 0) 6 (fun _ => 0) := by rw [eF46, va_up_ne _ _ (fun z => hnq45 (by rw [← z]; exact hmq17_43))]; exact hFq17_44
  have hmq21_47 : q21 ∈ L47 := by rw [eL47]; exact List.mem_append_left _ hmq21_43
  have hFq21_47 : F46 q21 = cJ (cy 2) 6 (fun _ => 0) := by rw [eF46, va_up_ne _ _ (fun z => hnq45 (by rw [← z]; exact hmq21_43))]; exact hFq21_44
  have hmq25_47 : q25 ∈ L47 := by rw [eL47]; exact List.mem_append_left _ hmq25_43
  have hFq25_47 : F46 q25 = cI (cy 1) 8 (fun _ => 0) := by rw [eF46, va_up_ne _ _ (fun z => hnq45 (by rw [← z]; exact hmq25_43))]; exact hFq25_44
  have hmq29_47 : q29 ∈ L47 := by rw [eL47]; exact List.mem_append_left _ hmq29_43
  have hFq29_47 : F46 q29 = cJ (cy 2) 128 (fun _ => 0) := by rw [eF46, va_up_ne _ _ (fun z => hnq45 (by rw [← z]; exact hmq29_43))]; exact hFq29_44
  have hmq33_47 : q33 ∈ L47 := by rw [eL47]; exact List.mem_append_left _ hmq33_43
  have hFq33_47 : F46 q33 = cI (cy 1) 30 (fun _ => 0) := by rw [eF46, va_up_ne _ _ (fun z => hnq45 (by rw [← z]; exact hmq33_43))]; exact hFq33_44
  have hmq37_47 : q37 ∈ L47 := by rw [eL47]; exact List.mem_append_left _ hmq37_43
  have hFq37_47 : F46 q37 = cI (cy 3) 30 (fun _ => 0) := by rw [eF46, va_up_ne _ _ (fun z => hnq45 (by rw [← z]; exact hmq37_43))]; exact hFq37_44
  have hmq41_47 : q41 ∈ L47 := by rw [eL47]; exact List.mem_append_left _ hmq41
  have hFq41_47 : F46 q41 = cI (cy 1) 5 (fun _ => 0) := by rw [eF46, va_up_ne _ _ (fun z => hnq45 (by rw [← z]; exact hmq41))]; exact hFq41_44
  have hmq45 : q45 ∈ L47 := by rw [eL47]; exact List.mem_append_right _ (List.mem_singleton.mpr rfl)
  have hFq45 : F46 q45 = cI (cy 3) 5 (fun _ => 0) := by rw [eF46]; exact va_up_self _ _ _
  refine pg_putF (ci := 8) (v := .ref q45) (ty := (.array .boolean)) (C := RX9) (T := TX9) (N := 20) hx hb hts hinX9 tyX9 tyX9_ok nmX9 hown hK hP hD hS hmo_47 hFo_47 rfl 13 (by decide) (hts (.fieldLink RX9 46 "RopeDrumsModel" "isForReels" "[Z") (by decide +kernel)) (fun _ h9 => h9) rfl hin2 rfl (by decide +kernel) (rfl) (rfl) (Nat.le_of_ble_eq_true rfl) dX9_init_96 (fun H locs F48 eF48 hP hS => ?_)
  have eF48 : F48 = va_up F46 o (.inr (8, [.int 0, .ref q1, .ref q5, .ref q9, .ref q13, .ref q17, .ref q21, .ref q25, .ref q29, .int 0, .ref q33, .ref q37, .ref q41, .ref q45, .null, .null, .null, .int 0, .null, .long 0])) := eF48
  have hFo_48 : F48 o = .inr (8, [.int 0, .ref q1, .ref q5, .ref q9, .ref q13, .ref q17, .ref q21, .ref q25, .ref q29, .int 0, .ref q33, .ref q37, .ref q41, .ref q45, .null, .null, .null, .int 0, .null, .long 0]) := by rw [eF48]; exact va_up_self _ _ _
  have hFq1_48 : F48 q1 = cI (cy 1) 10 (fun _ => 0) := by rw [eF48, va_up_ne _ _ (pl_ne hFq1_47 hFo_47 rfl)]; exact hFq1_47
  have hFq5_48 : F48 q5 = cJ (cy 2) 10 (fun _ => 0) := by rw [eF48, va_up_ne _ _ (pl_ne hFq5_47 hFo_47 rfl)]; exact hFq5_47
  have hFq9_48 : F48 q9 = cD (cy 0) 6 (fun _ => 0) := by rw [eF48, va_up_ne _ _ (pl_ne hFq9_47 hFo_47 rfl)]; exact hFq9_47
  have hFq13_48 : F48 q13 = cD (cy 0) 6 (fun _ => 0) := by rw [eF48, va_up_ne _ _ (pl_ne hFq13_47 hFo_47 rfl)]; exact hFq13_47
  have hFq17_48 : F48 q17 = cD (cy 0) 6 (fun _ => 0) := by rw [eF48, va_up_ne _ _ (pl_ne hFq17_47 hFo_47 rfl)]; exact hFq17_47
  have hFq21_48 : F48 q21 = cJ (cy 2) 6 (fun _ => 0) := by rw [eF48, va_up_ne _ _ (pl_ne hFq21_47 hFo_47 rfl)]; exact hFq21_47
  have hFq25_48 : F48 q25 = cI (cy 1) 8 (fun _ => 0) := by rw [eF48, va_up_ne _ _ (pl_ne hFq25_47 hFo_47 rfl)]; exact hFq25_47
  have hFq29_48 : F48 q29 = cJ (cy 2) 128 (fun _ => 0) := by rw [eF48, va_up_ne _ _ (pl_ne hFq29_47 hFo_47 rfl)]; exact hFq29_47
  have hFq33_48 : F48 q33 = cI (cy 1) 30 (fun _ => 0) := by rw [eF48, va_up_ne _ _ (pl_ne hFq33_47 hFo_47 rfl)]; exact hFq33_47
  have hFq37_48 : F48 q37 = cI (cy 3) 30 (fun _ => 0) := by rw [eF48, va_up_ne _ _ (pl_ne hFq37_47 hFo_47 rfl)]; exact hFq37_47
  have hFq41_48 : F48 q41 = cI (cy 1) 5 (fun _ => 0) := by rw [eF48, va_up_ne _ _ (pl_ne hFq41_47 hFo_47 rfl)]; exact hFq41_47
  have hFq45_48 : F48 q45 = cI (cy 3) 5 (fun _ => 0) := by rw [eF48, va_up_ne _ _ (pl_ne hFq45 hFo_47 rfl)]; exact hFq45
  refine lv_aload_n hx hb dX9_init_99 rfl (lv_at hl 0 rfl) ?_
  refine lv_bipush (v := 60) hx hb dX9_init_100 (by decide) ?_
  refine pg_newa (N' := 60) (atype := .int) (ty := .int) hx hb (hts (.arrayClass .int) (by decide +kernel)) rfl hK 1 rfl hP hD hS hA (60, .inl (fun _ => 0)) (fun cA => by rw [vp_cell_i] <;> rfl) (by decide) rfl (by decide) (Nat.le_of_ble_eq_true rfl) (Nat.le_of_ble_eq_true rfl) dX9_init_102 (fun q49 H F50 L51 hnq49 eF50 eL51 hP hD hS => ?_)
  have hmo_51 : o ∈ L51 := by rw [eL51]; exact List.mem_append_left _ hmo_47
  have hFo_51 : F50 o = .inr (8, [.int 0, .ref q1, .ref q5, .ref q9, .ref q13, .ref q17, .ref q21, .ref q25, .ref q29, .int 0, .ref q33, .ref q37, .ref q41, .ref q45, .null, .null, .null, .int 0, .null, .long 0]) := by rw [eF50, va_up_ne _ _ (fun z => hnq49 (by rw [← z]; exact hmo_47))]; exact hFo_48
  have hmq1_51 : q1 ∈ L51 := by rw [eL51]; exact List.mem_append_left _ hmq1_47
  have hFq1_51 : F50 q1 = cI (cy 1) 10 (fun _ => 0) := by rw [eF50, va_up_ne _ _ (fun z => hnq49 (by rw [← z]; exact hmq1_47))]; exact hFq1_48
  have hmq5_51 : q5 ∈ L51 := by rw [eL51]; exact List.mem_append_left _ hmq5_47
  have hFq5_51 : F50 q5 = cJ (cy 2) 10 (fun _ => 0) := by rw [eF50, va_up_ne _ _ (fun z => hnq49 (by rw [← z]; exact hmq5_47))]; exact hFq5_48
  have hmq9_51 : q9 ∈ L51 := by rw [eL51]; exact List.mem_append_left _ hmq9_47
  have hFq9_51 : F50 q9 = cD (cy 0) 6 (fun _ => 0) := by rw [eF50, va_up_ne _ _ (fun z => hnq49 (by rw [← z]; exact hmq9_47))]; exact hFq9_48
  have hmq13_51 : q13 ∈ L51 := by rw [eL51]; exact List.mem_append_left _ hmq13_47
  have hFq13_51 : F50 q13 = cD (cy 0) 6 (fun _ => 0) := by rw [eF50, va_up_ne _ _ (fun z => hnq49 (by rw [← z]; exact hmq13_47))]; exact hFq13_48
  have hmq17_51 : q17 ∈ L51 := by rw [eL51]; exact List.mem_append_left _ hmq17_47
  have hFq17_51 : F50 q17 = cD (cy 0) 6 (fun _ => 0) := by rw [eF50, va_up_ne _ _ (fun z => hnq49 (by rw [← z]; exact hmq17_47))]; exact hFq17_48
  have hmq21_51 : q21 ∈ L51 := by rw [eL51]; exact List.mem_append_left _ hmq21_47
  have hFq21_51 : F50 q21 = cJ (cy 2) 6 (fun _ => 0) := by rw [eF50, va_up_ne _ _ (fun z => hnq49 (by rw [← z]; exact hmq21_47))]; exact hFq21_48
  have hmq25_51 : q25 ∈ L51 := by rw [eL51]; exact List.mem_append_left _ hmq25_47
  have hFq25_51 : F50 q25 = cI (cy 1) 8 (fun _ => 0) := by rw [eF50, va_up_ne _ _ (fun z => hnq49 (by rw [← z]; exact hmq25_47))]; exact hFq25_48
  have hmq29_51 : q29 ∈ L51 := by rw [eL51]; exact List.mem_append_left _ hmq29_47
  have hFq29_51 : F50 q29 = cJ (cy 2) 128 (fun _ => 0) := by rw [eF50, va_up_ne _ _ (fun z => hnq49 (by rw [← z]; exact hmq29_47))]; exact hFq29_48
  have hmq33_51 : q33 ∈ L51 := by rw [eL51]; exact List.mem_append_left _ hmq33_47
  have hFq33_51 : F50 q33 = cI (cy 1) 30 (fun _ => 0) := by rw [eF50, va_up_ne _ _ (fun z => hnq49 (by rw [← z]; exact hmq33_47))]; exact hFq33_48
  have hmq37_51 : q37 ∈ L51 := by rw [eL51]; exact List.mem_append_left _ hmq37_47
  have hFq37_51 : F50 q37 = cI (cy 3) 30 (fun _ => 0) := by rw [eF50, va_up_ne _ _ (fun z => hnq49 (by rw [← z]; exact hmq37_47))]; exact hFq37_48
  have hmq41_51 : q41 ∈ L51 := by rw [eL51]; exact List.mem_append_left _ hmq41_47
  have hFq41_51 : F50 q41 = cI (cy 1) 5 (fun _ => 0) := by rw [eF50, va_up_ne _ _ (fun z => hnq49 (by rw [← z]; exact hmq41_47))]; exact hFq41_48
  have hmq45_51 : q45 ∈ L51 := by rw [eL51]; exact List.mem_append_left _ hmq45
  have hFq45_51 : F50 q45 = cI (cy 3) 5 (fun _ => 0) := by rw [eF50, va_up_ne _ _ (fun z => hnq49 (by rw [← z]; exact hmq45))]; exact hFq45_48
  have hmq49 : q49 ∈ L51 := by rw [eL51]; exact List.mem_append_right _ (List.mem_singleton.mpr rfl)
  have hFq49 : F50 q49 = cI (cy 1) 60 (fun _ => 0) := by rw [eF50]; exact va_up_self _ _ _
  refine pg_putF (ci := 8) (v := .ref q49) (ty := (.array .int)) (C := RX9) (T := TX9) (N := 20) hx hb hts hinX9 tyX9 tyX9_ok nmX9 hown hK hP hD hS hmo_51 hFo_51 rfl 14 (by decide) (hts (.fieldLink RX9 49 "RopeDrumsModel" "standing" "[I") (by decide +kernel)) (fun _ h9 => h9) rfl hin2 rfl (by decide +kernel) (rfl) (rfl) (Nat.le_of_ble_eq_true rfl) dX9_init_104 (fun H locs F52 eF52 hP hS => ?_)
  have eF52 : F52 = va_up F50 o (.inr (8, [.int 0, .ref q1, .ref q5, .ref q9, .ref q13, .ref q17, .ref q21, .ref q25, .ref q29, .int 0, .ref q33, .ref q37, .ref q41, .ref q45, .ref q49, .null, .null, .int 0, .null, .long 0])) := eF52
  have hFo_52 : F52 o = .inr (8, [.int 0, .ref q1, .ref q5, .ref q9, .ref q13, .ref q17, .ref q21, .ref q25, .ref q29, .int 0, .ref q33, .ref q37, .ref q41, .ref q45, .ref q49, .null, .null, .int 0, .null, .long 0]) := by rw [eF52]; exact va_up_self _ _ _
  have hFq1_52 : F52 q1 = cI (cy 1) 10 (fun _ => 0) := by rw [eF52, va_up_ne _ _ (pl_ne hFq1_51 hFo_51 rfl)]; exact hFq1_51
  have hFq5_52 : F52 q5 = cJ (cy 2) 10 (fun _ => 0) := by rw [eF52, va_up_ne _ _ (pl_ne hFq5_51 hFo_51 rfl)]; exact hFq5_51
  have hFq9_52 : F52 q9 = cD (cy 0) 6 (fun _ => 0) := by rw [eF52, va_up_ne _ _ (pl_ne hFq9_51 hFo_51 rfl)]; exact hFq9_51
  have hFq13_52 : F52 q13 = cD (cy 0) 6 (fun _ => 0) := by rw [eF52, va_up_ne _ _ (pl_ne hFq13_51 hFo_51 rfl)]; exact hFq13_51
  have hFq17_52 : F52 q17 = cD (cy 0) 6 (fun _ => 0) := by rw [eF52, va_up_ne _ _ (pl_ne hFq17_51 hFo_51 rfl)]; exact hFq17_51
  have hFq21_52 : F52 q21 = cJ (cy 2) 6 (fun _ => 0) := by rw [eF52, va_up_ne _ _ (pl_ne hFq21_51 hFo_51 rfl)]; exact hFq21_51
  have hFq25_52 : F52 q25 = cI (cy 1) 8 (fun _ => 0) := by rw [eF52, va_up_ne _ _ (pl_ne hFq25_51 hFo_51 rfl)]; exact hFq25_51
  have hFq29_52 : F52 q29 = cJ (cy 2) 128 (fun _ => 0) := by rw [eF52, va_up_ne _ _ (pl_ne hFq29_51 hFo_51 rfl)]; exact hFq29_51
  have hFq33_52 : F52 q33 = cI (cy 1) 30 (fun _ => 0) := by rw [eF52, va_up_ne _ _ (pl_ne hFq33_51 hFo_51 rfl)]; exact hFq33_51
  have hFq37_52 : F52 q37 = cI (cy 3) 30 (fun _ => 0) := by rw [eF52, va_up_ne _ _ (pl_ne hFq37_51 hFo_51 rfl)]; exact hFq37_51
  have hFq41_52 : F52 q41 = cI (cy 1) 5 (fun _ => 0) := by rw [eF52, va_up_ne _ _ (pl_ne hFq41_51 hFo_51 rfl)]; exact hFq41_51
  have hFq45_52 : F52 q45 = cI (cy 3) 5 (fun _ => 0) := by rw [eF52, va_up_ne _ _ (pl_ne hFq45_51 hFo_51 rfl)]; exact hFq45_51
  have hFq49_52 : F52 q49 = cI (cy 1) 60 (fun _ => 0) := by rw [eF52, va_up_ne _ _ (pl_ne hFq49 hFo_51 rfl)]; exact hFq49
  refine lv_aload_n hx hb dX9_init_107 rfl (lv_at hl 0 rfl) ?_
  refine lv_iconst (v := 4) hx hb dX9_init_108 (by decide) ?_
  refine pg_newa (N' := 4) (atype := .int) (ty := .int) hx hb (hts (.arrayClass .int) (by decide +kernel)) rfl hK 1 rfl hP hD hS hA (4, .inl (fun _ => 0)) (fun cA => by rw [vp_cell_i] <;> rfl) (by decide) rfl (by decide) (Nat.le_of_ble_eq_true rfl) (Nat.le_of_ble_eq_true rfl) dX9_init_109 (fun q53 H F54 L55 hnq53 eF54 eL55 hP hD hS => ?_)
  have hmo_55 : o ∈ L55 := by rw [eL55]; exact List.mem_append_left _ hmo_51
  have hFo_55 : F54 o = .inr (8, [.int 0, .ref q1, .ref q5, .ref q9, .ref q13, .ref q17, .ref q21, .ref q25, .ref q29, .int 0, .ref q33, .ref q37, .ref q41, .ref q45, .ref q49, .null, .null, .int 0, .null, .long 0]) := by rw [eF54, va_up_ne _ _ (fun z => hnq53 (by rw [← z]; exact hmo_51))]; exact hFo_52
  have hmq1_55 : q1 ∈ L55 := by rw [eL55]; exact List.mem_append_left _ hmq1_51
  have hFq1_55 : F54 q1 = cI (cy 1) 10 (fun _ => 0) := by rw [eF54, va_up_ne _ _ (fun z => hnq53 (by rw [← z]; exact hmq1_51))]; exact hFq1_52
  have hmq5_55 : q5 ∈ L55 := by rw [eL55]; exact List.mem_append_left _ hmq5_51
  have hFq5_55 : F54 q5 = cJ (cy 2) 10 (fun _ => 0) := by rw [eF54, va_up_ne _ _ (fun z => hnq53 (by rw [← z]; exact hmq5_51))]; exact hFq5_52
  have hmq9_55 : q9 ∈ L55 := by rw [eL55]; exact List.mem_append_left _ hmq9_51
  have hFq9_55 : F54 q9 = cD (cy 0) 6 (fun _ => 0) := by rw [eF54, va_up_ne _ _ (fun z => hnq53 (by rw [← z]; exact hmq9_51))]; exact hFq9_52
  have hmq13_55 : q13 ∈ L55 := by rw [eL55]; exact List.mem_append_left _ hmq13_51
  have hFq13_55 : F54 q13 = cD (cy 0) 6 (fun _ => 0) := by rw [eF54, va_up_ne _ _ (fun z => hnq53 (by rw [← z]; exact hmq13_51))]; exact hFq13_52
  have hmq17_55 : q17 ∈ L55 := by rw [eL55]; exact List.mem_append_left _ hmq17_51
  have hFq17_55 : F54 q17 = cD (cy 0) 6 (fun _ => 0) := by rw [eF54, va_up_ne _ _ (fun z => hnq53 (by rw [← z]; exact hmq17_51))]; exact hFq17_52
  have hmq21_55 : q21 ∈ L55 := by rw [eL55]; exact List.mem_append_left _ hmq21_51
  have hFq21_55 : F54 q21 = cJ (cy 2) 6 (fun _ => 0) := by rw [eF54, va_up_ne _ _ (fun z => hnq53 (by rw [← z]; exact hmq21_51))]; exact hFq21_52
  have hmq25_55 : q25 ∈ L55 := by rw [eL55]; exact List.mem_append_left _ hmq25_51
  have hFq25_55 : F54 q25 = cI (cy 1) 8 (fun _ => 0) := by rw [eF54, va_up_ne _ _ (fun z => hnq53 (by rw [← z]; exact hmq25_51))]; exact hFq25_52
  have hmq29_55 : q29 ∈ L55 := by rw [eL55]; exact List.mem_append_left _ hmq29_51
  have hFq29_55 : F54 q29 = cJ (cy 2) 128 (fun _ => 0) := by rw [eF54, va_up_ne _ _ (fun z => hnq53 (by rw [← z]; exact hmq29_51))]; exact hFq29_52
  have hmq33_55 : q33 ∈ L55 := by rw [eL55]; exact List.mem_append_left _ hmq33_51
  have hFq33_55 : F54 q33 = cI (cy 1) 30 (fun _ => 0) := by rw [eF54, va_up_ne _ _ (fun z => hnq53 (by rw [← z]; exact hmq33_51))]; exact hFq33_52
  have hmq37_55 : q37 ∈ L55 := by rw [eL55]; exact List.mem_append_left _ hmq37_51
  have hFq37_55 : F54 q37 = cI (cy 3) 30 (fun _ => 0) := by rw [eF54, va_up_ne _ _ (fun z => hnq53 (by rw [← z]; exact hmq37_51))]; exact hFq37_52
  have hmq41_55 : q41 ∈ L55 := by rw [eL55]; exact List.mem_append_left _ hmq41_51
  have hFq41_55 : F54 q41 = cI (cy 1) 5 (fun _ => 0) := by rw [eF54, va_up_ne _ _ (fun z => hnq53 (by rw [← z]; exact hmq41_51))]; exact hFq41_52
  have hmq45_55 : q45 ∈ L55 := by rw [eL55]; exact List.mem_append_left _ hmq45_51
  have hFq45_55 : F54 q45 = cI (cy 3) 5 (fun _ => 0) := by rw [eF54, va_up_ne _ _ (fun z => hnq53 (by rw [← z]; exact hmq45_51))]; exact hFq45_52
  have hmq49_55 : q49 ∈ L55 := by rw [eL55]; exact List.mem_append_left _ hmq49
  have hFq49_55 : F54 q49 = cI (cy 1) 60 (fun _ => 0) := by rw [eF54, va_up_ne _ _ (fun z => hnq53 (by rw [← z]; exact hmq49))]; exact hFq49_52
  have hmq53 : q53 ∈ L55 := by rw [eL55]; exact List.mem_append_right _ (List.mem_singleton.mpr rfl)
  have hFq53 : F54 q53 = cI (cy 1) 4 (fun _ => 0) := by rw [eF54]; exact va_up_self _ _ _
  refine pg_putF (ci := 8) (v := .ref q53) (ty := (.array .int)) (C := RX9) (T := TX9) (N := 20) hx hb hts hinX9 tyX9 tyX9_ok nmX9 hown hK hP hD hS hmo_55 hFo_55 rfl 15 (by decide) (hts (.fieldLink RX9 52 "RopeDrumsModel" "brakeSort" "[I") (by decide +kernel)) (fun _ h9 => h9) rfl hin2 rfl (by decide +kernel) (rfl) (rfl) (Nat.le_of_ble_eq_true rfl) dX9_init_111 (fun H locs F56 eF56 hP hS => ?_)
  have eF56 : F56 = va_up F54 o (.inr (8, [.int 0, .ref q1, .ref q5, .ref q9, .ref q13, .ref q17, .ref q21, .ref q25, .ref q29, .int 0, .ref q33, .ref q37, .ref q41, .ref q45, .ref q49, .ref q53, .null, .int 0, .null, .long 0])) := eF56
  have hFo_56 : F56 o = .inr (8, [.int 0, .ref q1, .ref q5, .ref q9, .ref q13, .ref q17, .ref q21, .ref q25, .ref q29, .int 0, .ref q33, .ref q37, .ref q41, .ref q45, .ref q49, .ref q53, .null, .int 0, .null, .long 0]) := by rw [eF56]; exact va_up_self _ _ _
  have hFq1_56 : F56 q1 = cI (cy 1) 10 (fun _ => 0) := by rw [eF56, va_up_ne _ _ (pl_ne hFq1_55 hFo_55 rfl)]; exact hFq1_55
  have hFq5_56 : F56 q5 = cJ (cy 2) 10 (fun _ => 0) := by rw [eF56, va_up_ne _ _ (pl_ne hFq5_55 hFo_55 rfl)]; exact hFq5_55
  have hFq9_56 : F56 q9 = cD (cy 0) 6 (fun _ => 0) := by rw [eF56, va_up_ne _ _ (pl_ne hFq9_55 hFo_55 rfl)]; exact hFq9_55
  have hFq13_56 : F56 q13 = cD (cy 0) 6 (fun _ => 0) := by rw [eF56, va_up_ne _ _ (pl_ne hFq13_55 hFo_55 rfl)]; exact hFq13_55
  have hFq17_56 : F56 q17 = cD (cy 0) 6 (fun _ => 0) := by rw [eF56, va_up_ne _ _ (pl_ne hFq17_55 hFo_55 rfl)]; exact hFq17_55
  have hFq21_56 : F56 q21 = cJ (cy 2) 6 (fun _ => 0) := by rw [eF56, va_up_ne _ _ (pl_ne hFq21_55 hFo_55 rfl)]; exact hFq21_55
  have hFq25_56 : F56 q25 = cI (cy 1) 8 (fun _ => 0) := by rw [eF56, va_up_ne _ _ (pl_ne hFq25_55 hFo_55 rfl)]; exact hFq25_55
  have hFq29_56 : F56 q29 = cJ (cy 2) 128 (fun _ => 0) := by rw [eF56, va_up_ne _ _ (pl_ne hFq29_55 hFo_55 rfl)]; exact hFq29_55
  have hFq33_56 : F56 q33 = cI (cy 1) 30 (fun _ => 0) := by rw [eF56, va_up_ne _ _ (pl_ne hFq33_55 hFo_55 rfl)]; exact hFq33_55
  have hFq37_56 : F56 q37 = cI (cy 3) 30 (fun _ => 0) := by rw [eF56, va_up_ne _ _ (pl_ne hFq37_55 hFo_55 rfl)]; exact hFq37_55
  have hFq41_56 : F56 q41 = cI (cy 1) 5 (fun _ => 0) := by rw [eF56, va_up_ne _ _ (pl_ne hFq41_55 hFo_55 rfl)]; exact hFq41_55
  have hFq45_56 : F56 q45 = cI (cy 3) 5 (fun _ => 0) := by rw [eF56, va_up_ne _ _ (pl_ne hFq45_55 hFo_55 rfl)]; exact hFq45_55
  have hFq49_56 : F56 q49 = cI (cy 1) 60 (fun _ => 0) := by rw [eF56, va_up_ne _ _ (pl_ne hFq49_55 hFo_55 rfl)]; exact hFq49_55
  have hFq53_56 : F56 q53 = cI (cy 1) 4 (fun _ => 0) := by rw [eF56, va_up_ne _ _ (pl_ne hFq53 hFo_55 rfl)]; exact hFq53
  refine lv_aload_n hx hb dX9_init_114 rfl (lv_at hl 0 rfl) ?_
  refine lv_iconst (v := 4) hx hb dX9_init_115 (by decide) ?_
  refine pg_newa (N' := 4) (atype := .double) (ty := .double) hx hb (hts (.arrayClass .double) (by decide +kernel)) rfl hK 0 rfl hP hD hS hA (4, .inr (.inr (.inr (.inl (fun _ => 0))))) (fun cA => by rw [vp_cell_d] <;> rfl) (by decide) rfl (by decide) (Nat.le_of_ble_eq_true rfl) (Nat.le_of_ble_eq_true rfl) dX9_init_116 (fun q57 H F58 L59 hnq57 eF58 eL59 hP hD hS => ?_)
  have hmo_59 : o ∈ L59 := by rw [eL59]; exact List.mem_append_left _ hmo_55
  have hFo_59 : F58 o = .inr (8, [.int 0, .ref q1, .ref q5, .ref q9, .ref q13, .ref q17, .ref q21, .ref q25, .ref q29, .int 0, .ref q33, .ref q37, .ref q41, .ref q45, .ref q49, .ref q53, .null, .int 0, .null, .long 0]) := by rw [eF58, va_up_ne _ _ (fun z => hnq57 (by rw [← z]; exact hmo_55))]; exact hFo_56
  have hmq1_59 : q1 ∈ L59 := by rw [eL59]; exact List.mem_append_left _ hmq1_55
  have hFq1_59 : F58 q1 = cI (cy 1) 10 (fun _ => 0) := by rw [eF58, va_up_ne _ _ (fun z => hnq57 (by rw [← z]; exact hmq1_55))]; exact hFq1_56
  have hmq5_59 : q5 ∈ L59 := by rw [eL59]; exact List.mem_append_left _ hmq5_55
  have hFq5_59 : F58 q5 = cJ (cy 2) 10 (fun _ => 0) := by rw [eF58, va_up_ne _ _ (fun z => hnq57 (by rw [← z]; exact hmq5_55))]; exact hFq5_56
  have hmq9_59 : q9 ∈ L59 := by rw [eL59]; exact List.mem_append_left _ hmq9_55
  have hFq9_59 : F58 q9 = cD (cy 0) 6 (fun _ => 0) := by rw [eF58, va_up_ne _ _ (fun z => hnq57 (by rw [← z]; exact hmq9_55))]; exact hFq9_56
  have hmq13_59 : q13 ∈ L59 := by rw [eL59]; exact List.mem_append_left _ hmq13_55
  have hFq13_59 : F58 q13 = cD (cy 0) 6 (fun _ => 0) := by rw [eF58, va_up_ne _ _ (fun z => hnq57 (by rw [← z]; exact hmq13_55))]; exact hFq13_56
  have hmq17_59 : q17 ∈ L59 := by rw [eL59]; exact List.mem_append_left _ hmq17_55
  have hFq17_59 : F58 q17 = cD (cy 0) 6 (fun _ => 0) := by rw [eF58, va_up_ne _ _ (fun z => hnq57 (by rw [← z]; exact hmq17_55))]; exact hFq17_56
  have hmq21_59 : q21 ∈ L59 := by rw [eL59]; exact List.mem_append_left _ hmq21_55
  have hFq21_59 : F58 q21 = cJ (cy 2) 6 (fun _ => 0) := by rw [eF58, va_up_ne _ _ (fun z => hnq57 (by rw [← z]; exact hmq21_55))]; exact hFq21_56
  have hmq25_59 : q25 ∈ L59 := by rw [eL59]; exact List.mem_append_left _ hmq25_55
  have hFq25_59 : F58 q25 = cI (cy 1) 8 (fun _ => 0) := by rw [eF58, va_up_ne _ _ (fun z => hnq57 (by rw [← z]; exact hmq25_55))]; exact hFq25_56
  have hmq29_59 : q29 ∈ L59 := by rw [eL59]; exact List.mem_append_left _ hmq29_55
  have hFq29_59 : F58 q29 = cJ (cy 2) 128 (fun _ => 0) := by rw [eF58, va_up_ne _ _ (fun z => hnq57 (by rw [← z]; exact hmq29_55))]; exact hFq29_56
  have hmq33_59 : q33 ∈ L59 := by rw [eL59]; exact List.mem_append_left _ hmq33_55
  have hFq33_59 : F58 q33 = cI (cy 1) 30 (fun _ => 0) := by rw [eF58, va_up_ne _ _ (fun z => hnq57 (by rw [← z]; exact hmq33_55))]; exact hFq33_56
  have hmq37_59 : q37 ∈ L59 := by rw [eL59]; exact List.mem_append_left _ hmq37_55
  have hFq37_59 : F58 q37 = cI (cy 3) 30 (fun _ => 0) := by rw [eF58, va_up_ne _ _ (fun z => hnq57 (by rw [← z]; exact hmq37_55))]; exact hFq37_56
  have hmq41_59 : q41 ∈ L59 := by rw [eL59]; exact List.mem_append_left _ hmq41_55
  have hFq41_59 : F58 q41 = cI (cy 1) 5 (fun _ => 0) := by rw [eF58, va_up_ne _ _ (fun z => hnq57 (by rw [← z]; exact hmq41_55))]; exact hFq41_56
  have hmq45_59 : q45 ∈ L59 := by rw [eL59]; exact List.mem_append_left _ hmq45_55
  have hFq45_59 : F58 q45 = cI (cy 3) 5 (fun _ => 0) := by rw [eF58, va_up_ne _ _ (fun z => hnq57 (by rw [← z]; exact hmq45_55))]; exact hFq45_56
  have hmq49_59 : q49 ∈ L59 := by rw [eL59]; exact List.mem_append_left _ hmq49_55
  have hFq49_59 : F58 q49 = cI (cy 1) 60 (fun _ => 0) := by rw [eF58, va_up_ne _ _ (fun z => hnq57 (by rw [← z]; exact hmq49_55))]; exact hFq49_56
  have hmq53_59 : q53 ∈ L59 := by rw [eL59]; exact List.mem_append_left _ hmq53
  have hFq53_59 : F58 q53 = cI (cy 1) 4 (fun _ => 0) := by rw [eF58, va_up_ne _ _ (fun z => hnq57 (by rw [← z]; exact hmq53))]; exact hFq53_56
  have hmq57 : q57 ∈ L59 := by rw [eL59]; exact List.mem_append_right _ (List.mem_singleton.mpr rfl)
  have hFq57 : F58 q57 = cD (cy 0) 4 (fun _ => 0) := by rw [eF58]; exact va_up_self _ _ _
  refine pg_putF (ci := 8) (v := .ref q57) (ty := (.array .double)) (C := RX9) (T := TX9) (N := 20) hx hb hts hinX9 tyX9 tyX9_ok nmX9 hown hK hP hD hS hmo_59 hFo_59 rfl 16 (by decide) (hts (.fieldLink RX9 55 "RopeDrumsModel" "grip" "[D") (by decide +kernel)) (fun _ h9 => h9) rfl hin2 rfl (by decide +kernel) (rfl) (rfl) (Nat.le_of_ble_eq_true rfl) dX9_init_118 (fun H locs F60 eF60 hP hS => ?_)
  have eF60 : F60 = va_up F58 o (.inr (8, [.int 0, .ref q1, .ref q5, .ref q9, .ref q13, .ref q17, .ref q21, .ref q25, .ref q29, .int 0, .ref q33, .ref q37, .ref q41, .ref q45, .ref q49, .ref q53, .ref q57, .int 0, .null, .long 0])) := eF60
  have hFo_60 : F60 o = .inr (8, [.int 0, .ref q1, .ref q5, .ref q9, .ref q13, .ref q17, .ref q21, .ref q25, .ref q29, .int 0, .ref q33, .ref q37, .ref q41, .ref q45, .ref q49, .ref q53, .ref q57, .int 0, .null, .long 0]) := by rw [eF60]; exact va_up_self _ _ _
  have hFq1_60 : F60 q1 = cI (cy 1) 10 (fun _ => 0) := by rw [eF60, va_up_ne _ _ (pl_ne hFq1_59 hFo_59 rfl)]; exact hFq1_59
  have hFq5_60 : F60 q5 = cJ (cy 2) 10 (fun _ => 0) := by rw [eF60, va_up_ne _ _ (pl_ne hFq5_59 hFo_59 rfl)]; exact hFq5_59
  have hFq9_60 : F60 q9 = cD (cy 0) 6 (fun _ => 0) := by rw [eF60, va_up_ne _ _ (pl_ne hFq9_59 hFo_59 rfl)]; exact hFq9_59
  have hFq13_60 : F60 q13 = cD (cy 0) 6 (fun _ => 0) := by rw [eF60, va_up_ne _ _ (pl_ne hFq13_59 hFo_59 rfl)]; exact hFq13_59
  have hFq17_60 : F60 q17 = cD (cy 0) 6 (fun _ => 0) := by rw [eF60, va_up_ne _ _ (pl_ne hFq17_59 hFo_59 rfl)]; exact hFq17_59
  have hFq21_60 : F60 q21 = cJ (cy 2) 6 (fun _ => 0) := by rw [eF60, va_up_ne _ _ (pl_ne hFq21_59 hFo_59 rfl)]; exact hFq21_59
  have hFq25_60 : F60 q25 = cI (cy 1) 8 (fun _ => 0) := by rw [eF60, va_up_ne _ _ (pl_ne hFq25_59 hFo_59 rfl)]; exact hFq25_59
  have hFq29_60 : F60 q29 = cJ (cy 2) 128 (fun _ => 0) := by rw [eF60, va_up_ne _ _ (pl_ne hFq29_59 hFo_59 rfl)]; exact hFq29_59
  have hFq33_60 : F60 q33 = cI (cy 1) 30 (fun _ => 0) := by rw [eF60, va_up_ne _ _ (pl_ne hFq33_59 hFo_59 rfl)]; exact hFq33_59
  have hFq37_60 : F60 q37 = cI (cy 3) 30 (fun _ => 0) := by rw [eF60, va_up_ne _ _ (pl_ne hFq37_59 hFo_59 rfl)]; exact hFq37_59
  have hFq41_60 : F60 q41 = cI (cy 1) 5 (fun _ => 0) := by rw [eF60, va_up_ne _ _ (pl_ne hFq41_59 hFo_59 rfl)]; exact hFq41_59
  have hFq45_60 : F60 q45 = cI (cy 3) 5 (fun _ => 0) := by rw [eF60, va_up_ne _ _ (pl_ne hFq45_59 hFo_59 rfl)]; exact hFq45_59
  have hFq49_60 : F60 q49 = cI (cy 1) 60 (fun _ => 0) := by rw [eF60, va_up_ne _ _ (pl_ne hFq49_59 hFo_59 rfl)]; exact hFq49_59
  have hFq53_60 : F60 q53 = cI (cy 1) 4 (fun _ => 0) := by rw [eF60, va_up_ne _ _ (pl_ne hFq53_59 hFo_59 rfl)]; exact hFq53_59
  have hFq57_60 : F60 q57 = cD (cy 0) 4 (fun _ => 0) := by rw [eF60, va_up_ne _ _ (pl_ne hFq57 hFo_59 rfl)]; exact hFq57
  refine lv_aload_n hx hb dX9_init_121 rfl (lv_at hl 0 rfl) ?_
  refine lv_bipush (v := 6) hx hb dX9_init_122 (by decide) ?_
  refine pg_newa (N' := 6) (atype := .int) (ty := .int) hx hb (hts (.arrayClass .int) (by decide +kernel)) rfl hK 1 rfl hP hD hS hA (6, .inl (fun _ => 0)) (fun cA => by rw [vp_cell_i] <;> rfl) (by decide) rfl (by decide) (Nat.le_of_ble_eq_true rfl) (Nat.le_of_ble_eq_true rfl) dX9_init_124 (fun q61 H F62 L63 hnq61 eF62 eL63 hP hD hS => ?_)
  have hmo_63 : o ∈ L63 := by rw [eL63]; exact List.mem_append_left _ hmo_59
  have hFo_63 : F62 o = .inr (8, [.int 0, .ref q1, .ref q5, .ref q9, .ref q13, .ref q17, .ref q21, .ref q25, .ref q29, .int 0, .ref q33, .ref q37, .ref q41, .ref q45, .ref q49, .ref q53, .ref q57, .int 0, .null, .long 0]) := by rw [eF62, va_up_ne _ _ (fun z => hnq61 (by rw [← z]; exact hmo_59))]; exact hFo_60
  have hmq1_63 : q1 ∈ L63 := by rw [eL63]; exact List.mem_append_left _ hmq1_59
  have hFq1_63 : F62 q1 = cI (cy 1) 10 (fun _ => 0) := by rw [eF62, va_up_ne _ _ (fun z => hnq61 (by rw [← z]; exact hmq1_59))]; exact hFq1_60
  have hmq5_63 : q5 ∈ L63 := by rw [eL63]; exact List.mem_append_left _ hmq5_59
  have hFq5_63 : F62 q5 = cJ (cy 2) 10 (fun _ => 0) := by rw [eF62, va_up_ne _ _ (fun z => hnq61 (by rw [← z]; exact hmq5_59))]; exact hFq5_60
  have hmq9_63 : q9 ∈ L63 := by rw [eL63]; exact List.mem_append_left _ hmq9_59
  have hFq9_63 : F62 q9 = cD (cy 0) 6 (fun _ => 0) := by rw [eF62, va_up_ne _ _ (fun z => hnq61 (by rw [← z]; exact hmq9_59))]; exact hFq9_60
  have hmq13_63 : q13 ∈ L63 := by rw [eL63]; exact List.mem_append_left _ hmq13_59
  have hFq13_63 : F62 q13 = cD (cy 0) 6 (fun _ => 0) := by rw [eF62, va_up_ne _ _ (fun z => hnq61 (by rw [← z]; exact hmq13_59))]; exact hFq13_60
  have hmq17_63 : q17 ∈ L63 := by rw [eL63]; exact List.mem_append_left _ hmq17_59
  have hFq17_63 : F62 q17 = cD (cy 0) 6 (fun _ => 0) := by rw [eF62, va_up_ne _ _ (fun z => hnq61 (by rw [← z]; exact hmq17_59))]; exact hFq17_60
  have hmq21_63 : q21 ∈ L63 := by rw [eL63]; exact List.mem_append_left _ hmq21_59
  have hFq21_63 : F62 q21 = cJ (cy 2) 6 (fun _ => 0) := by rw [eF62, va_up_ne _ _ (fun z => hnq61 (by rw [← z]; exact hmq21_59))]; exact hFq21_60
  have hmq25_63 : q25 ∈ L63 := by rw [eL63]; exact List.mem_append_left _ hmq25_59
  have hFq25_63 : F62 q25 = cI (cy 1) 8 (fun _ => 0) := by rw [eF62, va_up_ne _ _ (fun z => hnq61 (by rw [← z]; exact hmq25_59))]; exact hFq25_60
  have hmq29_63 : q29 ∈ L63 := by rw [eL63]; exact List.mem_append_left _ hmq29_59
  have hFq29_63 : F62 q29 = cJ (cy 2) 128 (fun _ => 0) := by rw [eF62, va_up_ne _ _ (fun z => hnq61 (by rw [← z]; exact hmq29_59))]; exact hFq29_60
  have hmq33_63 : q33 ∈ L63 := by rw [eL63]; exact List.mem_append_left _ hmq33_59
  have hFq33_63 : F62 q33 = cI (cy 1) 30 (fun _ => 0) := by rw [eF62, va_up_ne _ _ (fun z => hnq61 (by rw [← z]; exact hmq33_59))]; exact hFq33_60
  have hmq37_63 : q37 ∈ L63 := by rw [eL63]; exact List.mem_append_left _ hmq37_59
  have hFq37_63 : F62 q37 = cI (cy 3) 30 (fun _ => 0) := by rw [eF62, va_up_ne _ _ (fun z => hnq61 (by rw [← z]; exact hmq37_59))]; exact hFq37_60
  have hmq41_63 : q41 ∈ L63 := by rw [eL63]; exact List.mem_append_left _ hmq41_59
  have hFq41_63 : F62 q41 = cI (cy 1) 5 (fun _ => 0) := by rw [eF62, va_up_ne _ _ (fun z => hnq61 (by rw [← z]; exact hmq41_59))]; exact hFq41_60
  have hmq45_63 : q45 ∈ L63 := by rw [eL63]; exact List.mem_append_left _ hmq45_59
  have hFq45_63 : F62 q45 = cI (cy 3) 5 (fun _ => 0) := by rw [eF62, va_up_ne _ _ (fun z => hnq61 (by rw [← z]; exact hmq45_59))]; exact hFq45_60
  have hmq49_63 : q49 ∈ L63 := by rw [eL63]; exact List.mem_append_left _ hmq49_59
  have hFq49_63 : F62 q49 = cI (cy 1) 60 (fun _ => 0) := by rw [eF62, va_up_ne _ _ (fun z => hnq61 (by rw [← z]; exact hmq49_59))]; exact hFq49_60
  have hmq53_63 : q53 ∈ L63 := by rw [eL63]; exact List.mem_append_left _ hmq53_59
  have hFq53_63 : F62 q53 = cI (cy 1) 4 (fun _ => 0) := by rw [eF62, va_up_ne _ _ (fun z => hnq61 (by rw [← z]; exact hmq53_59))]; exact hFq53_60
  have hmq57_63 : q57 ∈ L63 := by rw [eL63]; exact List.mem_append_left _ hmq57
  have hFq57_63 : F62 q57 = cD (cy 0) 4 (fun _ => 0) := by rw [eF62, va_up_ne _ _ (fun z => hnq61 (by rw [← z]; exact hmq57))]; exact hFq57_60
  have hmq61 : q61 ∈ L63 := by rw [eL63]; exact List.mem_append_right _ (List.mem_singleton.mpr rfl)
  have hFq61 : F62 q61 = cI (cy 1) 6 (fun _ => 0) := by rw [eF62]; exact va_up_self _ _ _
  refine pg_putF (ci := 8) (v := .ref q61) (ty := (.array .int)) (C := RX9) (T := TX9) (N := 20) hx hb hts hinX9 tyX9 tyX9_ok nmX9 hown hK hP hD hS hmo_63 hFo_63 rfl 18 (by decide) (hts (.fieldLink RX9 58 "RopeDrumsModel" "counted" "[I") (by decide +kernel)) (fun _ h9 => h9) rfl hin2 rfl (by decide +kernel) (rfl) (rfl) (Nat.le_of_ble_eq_true rfl) dX9_init_126 (fun H locs F64 eF64 hP hS => ?_)
  have eF64 : F64 = va_up F62 o (.inr (8, [.int 0, .ref q1, .ref q5, .ref q9, .ref q13, .ref q17, .ref q21, .ref q25, .ref q29, .int 0, .ref q33, .ref q37, .ref q41, .ref q45, .ref q49, .ref q53, .ref q57, .int 0, .ref q61, .long 0])) := eF64
  have hFo_64 : F64 o = .inr (8, [.int 0, .ref q1, .ref q5, .ref q9, .ref q13, .ref q17, .ref q21, .ref q25, .ref q29, .int 0, .ref q33, .ref q37, .ref q41, .ref q45, .ref q49, .ref q53, .ref q57, .int 0, .ref q61, .long 0]) := by rw [eF64]; exact va_up_self _ _ _
  have hFq1_64 : F64 q1 = cI (cy 1) 10 (fun _ => 0) := by rw [eF64, va_up_ne _ _ (pl_ne hFq1_63 hFo_63 rfl)]; exact hFq1_63
  have hFq5_64 : F64 q5 = cJ (cy 2) 10 (fun _ => 0) := by rw [eF64, va_up_ne _ _ (pl_ne hFq5_63 hFo_63 rfl)]; exact hFq5_63
  have hFq9_64 : F64 q9 = cD (cy 0) 6 (fun _ => 0) := by rw [eF64, va_up_ne _ _ (pl_ne hFq9_63 hFo_63 rfl)]; exact hFq9_63
  have hFq13_64 : F64 q13 = cD (cy 0) 6 (fun _ => 0) := by rw [eF64, va_up_ne _ _ (pl_ne hFq13_63 hFo_63 rfl)]; exact hFq13_63
  have hFq17_64 : F64 q17 = cD (cy 0) 6 (fun _ => 0) := by rw [eF64, va_up_ne _ _ (pl_ne hFq17_63 hFo_63 rfl)]; exact hFq17_63
  have hFq21_64 : F64 q21 = cJ (cy 2) 6 (fun _ => 0) := by rw [eF64, va_up_ne _ _ (pl_ne hFq21_63 hFo_63 rfl)]; exact hFq21_63
  have hFq25_64 : F64 q25 = cI (cy 1) 8 (fun _ => 0) := by rw [eF64, va_up_ne _ _ (pl_ne hFq25_63 hFo_63 rfl)]; exact hFq25_63
  have hFq29_64 : F64 q29 = cJ (cy 2) 128 (fun _ => 0) := by rw [eF64, va_up_ne _ _ (pl_ne hFq29_63 hFo_63 rfl)]; exact hFq29_63
  have hFq33_64 : F64 q33 = cI (cy 1) 30 (fun _ => 0) := by rw [eF64, va_up_ne _ _ (pl_ne hFq33_63 hFo_63 rfl)]; exact hFq33_63
  have hFq37_64 : F64 q37 = cI (cy 3) 30 (fun _ => 0) := by rw [eF64, va_up_ne _ _ (pl_ne hFq37_63 hFo_63 rfl)]; exact hFq37_63
  have hFq41_64 : F64 q41 = cI (cy 1) 5 (fun _ => 0) := by rw [eF64, va_up_ne _ _ (pl_ne hFq41_63 hFo_63 rfl)]; exact hFq41_63
  have hFq45_64 : F64 q45 = cI (cy 3) 5 (fun _ => 0) := by rw [eF64, va_up_ne _ _ (pl_ne hFq45_63 hFo_63 rfl)]; exact hFq45_63
  have hFq49_64 : F64 q49 = cI (cy 1) 60 (fun _ => 0) := by rw [eF64, va_up_ne _ _ (pl_ne hFq49_63 hFo_63 rfl)]; exact hFq49_63
  have hFq53_64 : F64 q53 = cI (cy 1) 4 (fun _ => 0) := by rw [eF64, va_up_ne _ _ (pl_ne hFq53_63 hFo_63 rfl)]; exact hFq53_63
  have hFq57_64 : F64 q57 = cD (cy 0) 4 (fun _ => 0) := by rw [eF64, va_up_ne _ _ (pl_ne hFq57_63 hFo_63 rfl)]; exact hFq57_63
  have hFq61_64 : F64 q61 = cI (cy 1) 6 (fun _ => 0) := by rw [eF64, va_up_ne _ _ (pl_ne hFq61 hFo_63 rfl)]; exact hFq61
  refine lv_iconst (v := 0) hx hb dX9_init_129 (by decide) ?_
  refine lv_istore_n (lv' := [(1, .int 0), (0, .ref o)]) hx hb dX9_init_130 rfl hl (by decide) rfl (fun ls hl => ?_)
  refine lp_w (pc := 131) (nL := 2) (α := Nat) (fun xx => xx ≤ 6) (fun xx => [(1, .int (nI xx)), (0, .ref o)]) (fun xx => va_pl L63 (va_up F64 q9 (cD (cy 0) 6 (fz 6 FP.dconst1 (fun _ => 0) xx)))) (fun xx => 6 - xx) (fun kk ls H locs hI hP hS hl K => ?_) 0 ls (Nat.zero_le _) (by rw [show va_up F64 q9 (cD (cy 0) 6 (fz 6 FP.dconst1 (fun _ => 0) 0)) = F64 from (by rw [fz0]; exact upid hFq9_64)]; exact hP) hS (lv_sub hl [0, 1] rfl)
  obtain ⟨F65, eF65⟩ : ∃ y : Nat → va_E, y = va_up F64 q9 (cD (cy 0) 6 (fz 6 FP.dconst1 (fun _ => 0) kk)) := ⟨_, rfl⟩
  rw [← eF65] at hP
  have hFo_65 : F65 o = .inr (8, [.int 0, .ref q1, .ref q5, .ref q9, .ref q13, .ref q17, .ref q21, .ref q25, .ref q29, .int 0, .ref q33, .ref q37, .ref q41, .ref q45, .ref q49, .ref q53, .ref q57, .int 0, .ref q61, .long 0]) := by rw [eF65, va_up_ne _ _ (pl_ne hFo_64 hFq9_64 rfl)]; exact hFo_64
  have hFq1_65 : F65 q1 = cI (cy 1) 10 (fun _ => 0) := by rw [eF65, va_up_ne _ _ (pl_ne hFq1_64 hFq9_64 rfl)]; exact hFq1_64
  have hFq5_65 : F65 q5 = cJ (cy 2) 10 (fun _ => 0) := by rw [eF65, va_up_ne _ _ (pl_ne hFq5_64 hFq9_64 rfl)]; exact hFq5_64
  have hFq9_65 : F65 q9 = cD (cy 0) 6 (fz 6 FP.dconst1 (fun _ => 0) kk) := by rw [eF65]; exact va_up_self _ _ _
  have hFq13_65 : F65 q13 = cD (cy 0) 6 (fun _ => 0) := by rw [eF65, va_up_ne _ _ (hne_q13_q9)]; exact hFq13_64
  have hFq17_65 : F65 q17 = cD (cy 0) 6 (fun _ => 0) := by rw [eF65, va_up_ne _ _ (hne_q17_q9)]; exact hFq17_64
  have hFq21_65 : F65 q21 = cJ (cy 2) 6 (fun _ => 0) := by rw [eF65, va_up_ne _ _ (pl_ne hFq21_64 hFq9_64 rfl)]; exact hFq21_64
  have hFq25_65 : F65 q25 = cI (cy 1) 8 (fun _ => 0) := by rw [eF65, va_up_ne _ _ (pl_ne hFq25_64 hFq9_64 rfl)]; exact hFq25_64
  have hFq29_65 : F65 q29 = cJ (cy 2) 128 (fun _ => 0) := by rw [eF65, va_up_ne _ _ (pl_ne hFq29_64 hFq9_64 rfl)]; exact hFq29_64
  have hFq33_65 : F65 q33 = cI (cy 1) 30 (fun _ => 0) := by rw [eF65, va_up_ne _ _ (pl_ne hFq33_64 hFq9_64 rfl)]; exact hFq33_64
  have hFq37_65 : F65 q37 = cI (cy 3) 30 (fun _ => 0) := by rw [eF65, va_up_ne _ _ (pl_ne hFq37_64 hFq9_64 rfl)]; exact hFq37_64
  have hFq41_65 : F65 q41 = cI (cy 1) 5 (fun _ => 0) := by rw [eF65, va_up_ne _ _ (pl_ne hFq41_64 hFq9_64 rfl)]; exact hFq41_64
  have hFq45_65 : F65 q45 = cI (cy 3) 5 (fun _ => 0) := by rw [eF65, va_up_ne _ _ (pl_ne hFq45_64 hFq9_64 rfl)]; exact hFq45_64
  have hFq49_65 : F65 q49 = cI (cy 1) 60 (fun _ => 0) := by rw [eF65, va_up_ne _ _ (pl_ne hFq49_64 hFq9_64 rfl)]; exact hFq49_64
  have hFq53_65 : F65 q53 = cI (cy 1) 4 (fun _ => 0) := by rw [eF65, va_up_ne _ _ (pl_ne hFq53_64 hFq9_64 rfl)]; exact hFq53_64
  have hFq57_65 : F65 q57 = cD (cy 0) 4 (fun _ => 0) := by rw [eF65, va_up_ne _ _ (pl_ne hFq57_64 hFq9_64 rfl)]; exact hFq57_64
  have hFq61_65 : F65 q61 = cI (cy 1) 6 (fun _ => 0) := by rw [eF65, va_up_ne _ _ (pl_ne hFq61_64 hFq9_64 rfl)]; exact hFq61_64
  have hl : lv_has ls 2 [(1, .int (nI kk)), (0, .ref o)] := hl
  refine lv_iload_n hx hb dX9_init_131 rfl (lv_at hl 0 rfl) ?_
  refine lv_bipush (v := 6) hx hb dX9_init_132 (by decide) ?_
  refine lv_icmp_ge (tgt := 150) hx hb dX9_init_134 (by decide) (fun c66 => ?_) (fun c66 => ?_)
  · have hge : kk = 6 := by have hc := c66; rw [fa_le, nI_toInt (by omega)] at hc; have h7 : (6 : Int32).toInt = 6 := (by decide); omega
    rw [hge] at hFq9_65
    refine lv_iconst (v := 0) hx hb dX9_init_150 (by decide) ?_
    refine lv_istore_n (lv' := [(1, .int 0), (0, .ref o)]) hx hb dX9_init_151 rfl hl (by decide) rfl (fun ls hl => ?_)
    refine lp_w (pc := 152) (nL := 2) (α := Nat) (fun xx => xx ≤ 8) (fun xx => [(1, .int (nI xx)), (0, .ref o)]) (fun xx => va_pl L63 (va_up F65 q25 (cI (cy 1) 8 (gz (-1) xx)))) (fun xx => 8 - xx) (fun kk ls H locs hI hP hS hl K => ?_) 0 ls (Nat.zero_le _) (by rw [show va_up F65 q25 (cI (cy 1) 8 (gz (-1) 0)) = F65 from (by rw [gz0]; exact upid hFq25_65)]; exact hP) hS (lv_sub hl [0, 1] rfl)
    obtain ⟨F67, eF67⟩ : ∃ y : Nat → va_E, y = va_up F65 q25 (cI (cy 1) 8 (gz (-1) kk)) := ⟨_, rfl⟩
    rw [← eF67] at hP
    have hFo_67 : F67 o = .inr (8, [.int 0, .ref q1, .ref q5, .ref q9, .ref q13, .ref q17, .ref q21, .ref q25, .ref q29, .int 0, .ref q33, .ref q37, .ref q41, .ref q45, .ref q49, .ref q53, .ref q57, .int 0, .ref q61, .long 0]) := by rw [eF67, va_up_ne _ _ (pl_ne hFo_65 hFq25_65 rfl)]; exact hFo_65
    have hFq1_67 : F67 q1 = cI (cy 1) 10 (fun _ => 0) := by rw [eF67, va_up_ne _ _ (pl_ne hFq1_65 hFq25_65 rfl)]; exact hFq1_65
    have hFq5_67 : F67 q5 = cJ (cy 2) 10 (fun _ => 0) := by rw [eF67, va_up_ne _ _ (pl_ne hFq5_65 hFq25_65 rfl)]; exact hFq5_65
    have hFq9_67 : F67 q9 = cD (cy 0) 6 (fz 6 FP.dconst1 (fun _ => 0) 6) := by rw [eF67, va_up_ne _ _ (pl_ne hFq9_65 hFq25_65 rfl)]; exact hFq9_65
    have hFq13_67 : F67 q13 = cD (cy 0) 6 (fun _ => 0) := by rw [eF67, va_up_ne _ _ (pl_ne hFq13_65 hFq25_65 rfl)]; exact hFq13_65
    have hFq17_67 : F67 q17 = cD (cy 0) 6 (fun _ => 0) := by rw [eF67, va_up_ne _ _ (pl_ne hFq17_65 hFq25_65 rfl)]; exact hFq17_65
    have hFq21_67 : F67 q21 = cJ (cy 2) 6 (fun _ => 0) := by rw [eF67, va_up_ne _ _ (pl_ne hFq21_65 hFq25_65 rfl)]; exact hFq21_65
    have hFq25_67 : F67 q25 = cI (cy 1) 8 (gz (-1) kk) := by rw [eF67]; exact va_up_self _ _ _
    have hFq29_67 : F67 q29 = cJ (cy 2) 128 (fun _ => 0) := by rw [eF67, va_up_ne _ _ (pl_ne hFq29_65 hFq25_65 rfl)]; exact hFq29_65
    have hFq33_67 : F67 q33 = cI (cy 1) 30 (fun _ => 0) := by rw [eF67, va_up_ne _ _ (pl_ne hFq33_65 hFq25_65 rfl)]; exact hFq33_65
    have hFq37_67 : F67 q37 = cI (cy 3) 30 (fun _ => 0) := by rw [eF67, va_up_ne _ _ (pl_ne hFq37_65 hFq25_65 rfl)]; exact hFq37_65
    have hFq41_67 : F67 q41 = cI (cy 1) 5 (fun _ => 0) := by rw [eF67, va_up_ne _ _ (pl_ne hFq41_65 hFq25_65 rfl)]; exact hFq41_65
    have hFq45_67 : F67 q45 = cI (cy 3) 5 (fun _ => 0) := by rw [eF67, va_up_ne _ _ (pl_ne hFq45_65 hFq25_65 rfl)]; exact hFq45_65
    have hFq49_67 : F67 q49 = cI (cy 1) 60 (fun _ => 0) := by rw [eF67, va_up_ne _ _ (pl_ne hFq49_65 hFq25_65 rfl)]; exact hFq49_65
    have hFq53_67 : F67 q53 = cI (cy 1) 4 (fun _ => 0) := by rw [eF67, va_up_ne _ _ (pl_ne hFq53_65 hFq25_65 rfl)]; exact hFq53_65
    have hFq57_67 : F67 q57 = cD (cy 0) 4 (fun _ => 0) := by rw [eF67, va_up_ne _ _ (pl_ne hFq57_65 hFq25_65 rfl)]; exact hFq57_65
    have hFq61_67 : F67 q61 = cI (cy 1) 6 (fun _ => 0) := by rw [eF67, va_up_ne _ _ (pl_ne hFq61_65 hFq25_65 rfl)]; exact hFq61_65
    have hl : lv_has ls 2 [(1, .int (nI kk)), (0, .ref o)] := hl
    refine lv_iload_n hx hb dX9_init_152 rfl (lv_at hl 0 rfl) ?_
    refine lv_bipush (v := 8) hx hb dX9_init_153 (by decide) ?_
    refine lv_icmp_ge (tgt := 171) hx hb dX9_init_155 (by decide) (fun c68 => ?_) (fun c68 => ?_)
    · have hge : kk = 8 := by have hc := c68; rw [fa_le, nI_toInt (by omega)] at hc; have h7 : (8 : Int32).toInt = 8 := (by decide); omega
      rw [hge] at hFq25_67
      refine lv_iconst (v := 0) hx hb dX9_init_171 (by decide) ?_
      refine lv_istore_n (lv' := [(1, .int 0), (0, .ref o)]) hx hb dX9_init_172 rfl hl (by decide) rfl (fun ls hl => ?_)
      refine lp_w (pc := 173) (nL := 2) (α := Nat) (fun xx => xx ≤ 5) (fun xx => [(1, .int (nI xx)), (0, .ref o)]) (fun xx => va_pl L63 (va_up F67 q41 (cI (cy 1) 5 (gz (-1) xx)))) (fun xx => 5 - xx) (fun kk ls H locs hI hP hS hl K => ?_) 0 ls (Nat.zero_le _) (by rw [show va_up F67 q41 (cI (cy 1) 5 (gz (-1) 0)) = F67 from (by rw [gz0]; exact upid hFq41_67)]; exact hP) hS (lv_sub hl [0, 1] rfl)
      obtain ⟨F69, eF69⟩ : ∃ y : Nat → va_E, y = va_up F67 q41 (cI (cy 1) 5 (gz (-1) kk)) := ⟨_, rfl⟩
      rw [← eF69] at hP
      have hFo_69 : F69 o = .inr (8, [.int 0, .ref q1, .ref q5, .ref q9, .ref q13, .ref q17, .ref q21, .ref q25, .ref q29, .int 0, .ref q33, .ref q37, .ref q41, .ref q45, .ref q49, .ref q53, .ref q57, .int 0, .ref q61, .long 0]) := by rw [eF69, va_up_ne _ _ (pl_ne hFo_67 hFq41_67 rfl)]; exact hFo_67
      have hFq1_69 : F69 q1 = cI (cy 1) 10 (fun _ => 0) := by rw [eF69, va_up_ne _ _ (pl_ne hFq1_67 hFq41_67 rfl)]; exact hFq1_67
      have hFq5_69 : F69 q5 = cJ (cy 2) 10 (fun _ => 0) := by rw [eF69, va_up_ne _ _ (pl_ne hFq5_67 hFq41_67 rfl)]; exact hFq5_67
      have hFq9_69 : F69 q9 = cD (cy 0) 6 (fz 6 FP.dconst1 (fun _ => 0) 6) := by rw [eF69, va_up_ne _ _ (pl_ne hFq9_67 hFq41_67 rfl)]; exact hFq9_67
      have hFq13_69 : F69 q13 = cD (cy 0) 6 (fun _ => 0) := by rw [eF69, va_up_ne _ _ (pl_ne hFq13_67 hFq41_67 rfl)]; exact hFq13_67
      have hFq17_69 : F69 q17 = cD (cy 0) 6 (fun _ => 0) := by rw [eF69, va_up_ne _ _ (pl_ne hFq17_67 hFq41_67 rfl)]; exact hFq17_67
      have hFq21_69 : F69 q21 = cJ (cy 2) 6 (fun _ => 0) := by rw [eF69, va_up_ne _ _ (pl_ne hFq21_67 hFq41_67 rfl)]; exact hFq21_67
      have hFq25_69 : F69 q25 = cI (cy 1) 8 (gz (-1) 8) := by rw [eF69, va_up_ne _ _ (pl_ne hFq25_67 hFq41_67 rfl)]; exact hFq25_67
      have hFq29_69 : F69 q29 = cJ (cy 2) 128 (fun _ => 0) := by rw [eF69, va_up_ne _ _ (pl_ne hFq29_67 hFq41_67 rfl)]; exact hFq29_67
      have hFq33_69 : F69 q33 = cI (cy 1) 30 (fun _ => 0) := by rw [eF69, va_up_ne _ _ (pl_ne hFq33_67 hFq41_67 rfl)]; exact hFq33_67
      have hFq37_69 : F69 q37 = cI (cy 3) 30 (fun _ => 0) := by rw [eF69, va_up_ne _ _ (pl_ne hFq37_67 hFq41_67 rfl)]; exact hFq37_67
      have hFq41_69 : F69 q41 = cI (cy 1) 5 (gz (-1) kk) := by rw [eF69]; exact va_up_self _ _ _
      have hFq45_69 : F69 q45 = cI (cy 3) 5 (fun _ => 0) := by rw [eF69, va_up_ne _ _ (hne_q45_q41)]; exact hFq45_67
      have hFq49_69 : F69 q49 = cI (cy 1) 60 (fun _ => 0) := by rw [eF69, va_up_ne _ _ (pl_ne hFq49_67 hFq41_67 rfl)]; exact hFq49_67
      have hFq53_69 : F69 q53 = cI (cy 1) 4 (fun _ => 0) := by rw [eF69, va_up_ne _ _ (pl_ne hFq53_67 hFq41_67 rfl)]; exact hFq53_67
      have hFq57_69 : F69 q57 = cD (cy 0) 4 (fun _ => 0) := by rw [eF69, va_up_ne _ _ (pl_ne hFq57_67 hFq41_67 rfl)]; exact hFq57_67
      have hFq61_69 : F69 q61 = cI (cy 1) 6 (fun _ => 0) := by rw [eF69, va_up_ne _ _ (pl_ne hFq61_67 hFq41_67 rfl)]; exact hFq61_67
      have hl : lv_has ls 2 [(1, .int (nI kk)), (0, .ref o)] := hl
      refine lv_iload_n hx hb dX9_init_173 rfl (lv_at hl 0 rfl) ?_
      refine lv_iconst (v := 5) hx hb dX9_init_174 (by decide) ?_
      refine lv_icmp_ge (tgt := 191) hx hb dX9_init_175 (by decide) (fun c70 => ?_) (fun c70 => ?_)
      · have hge : kk = 5 := by have hc := c70; rw [fa_le, nI_toInt (by omega)] at hc; have h7 : (5 : Int32).toInt = 5 := (by decide); omega
        rw [hge] at hFq41_69
        refine lv_iconst (v := 0) hx hb dX9_init_191 (by decide) ?_
        refine lv_istore_n (lv' := [(1, .int 0), (0, .ref o)]) hx hb dX9_init_192 rfl hl (by decide) rfl (fun ls hl => ?_)
        refine lp_w (pc := 193) (nL := 2) (α := Nat) (fun xx => xx ≤ 4) (fun xx => [(1, .int (nI xx)), (0, .ref o)]) (fun xx => va_pl L63 (va_up F69 q53 (cI (cy 1) 4 (gz 2 xx)))) (fun xx => 4 - xx) (fun kk ls H locs hI hP hS hl K => ?_) 0 ls (Nat.zero_le _) (by rw [show va_up F69 q53 (cI (cy 1) 4 (gz 2 0)) = F69 from (by rw [gz0]; exact upid hFq53_69)]; exact hP) hS (lv_sub hl [0, 1] rfl)
        obtain ⟨F71, eF71⟩ : ∃ y : Nat → va_E, y = va_up F69 q53 (cI (cy 1) 4 (gz 2 kk)) := ⟨_, rfl⟩
        rw [← eF71] at hP
        have hFo_71 : F71 o = .inr (8, [.int 0, .ref q1, .ref q5, .ref q9, .ref q13, .ref q17, .ref q21, .ref q25, .ref q29, .int 0, .ref q33, .ref q37, .ref q41, .ref q45, .ref q49, .ref q53, .ref q57, .int 0, .ref q61, .long 0]) := by rw [eF71, va_up_ne _ _ (pl_ne hFo_69 hFq53_69 rfl)]; exact hFo_69
        have hFq1_71 : F71 q1 = cI (cy 1) 10 (fun _ => 0) := by rw [eF71, va_up_ne _ _ (pl_ne hFq1_69 hFq53_69 rfl)]; exact hFq1_69
        have hFq5_71 : F71 q5 = cJ (cy 2) 10 (fun _ => 0) := by rw [eF71, va_up_ne _ _ (pl_ne hFq5_69 hFq53_69 rfl)]; exact hFq5_69
        have hFq9_71 : F71 q9 = cD (cy 0) 6 (fz 6 FP.dconst1 (fun _ => 0) 6) := by rw [eF71, va_up_ne _ _ (pl_ne hFq9_69 hFq53_69 rfl)]; exact hFq9_69
        have hFq13_71 : F71 q13 = cD (cy 0) 6 (fun _ => 0) := by rw [eF71, va_up_ne _ _ (pl_ne hFq13_69 hFq53_69 rfl)]; exact hFq13_69
        have hFq17_71 : F71 q17 = cD (cy 0) 6 (fun _ => 0) := by rw [eF71, va_up_ne _ _ (pl_ne hFq17_69 hFq53_69 rfl)]; exact hFq17_69
        have hFq21_71 : F71 q21 = cJ (cy 2) 6 (fun _ => 0) := by rw [eF71, va_up_ne _ _ (pl_ne hFq21_69 hFq53_69 rfl)]; exact hFq21_69
        have hFq25_71 : F71 q25 = cI (cy 1) 8 (gz (-1) 8) := by rw [eF71, va_up_ne _ _ (pl_ne hFq25_69 hFq53_69 rfl)]; exact hFq25_69
        have hFq29_71 : F71 q29 = cJ (cy 2) 128 (fun _ => 0) := by rw [eF71, va_up_ne _ _ (pl_ne hFq29_69 hFq53_69 rfl)]; exact hFq29_69
        have hFq33_71 : F71 q33 = cI (cy 1) 30 (fun _ => 0) := by rw [eF71, va_up_ne _ _ (pl_ne hFq33_69 hFq53_69 rfl)]; exact hFq33_69
        have hFq37_71 : F71 q37 = cI (cy 3) 30 (fun _ => 0) := by rw [eF71, va_up_ne _ _ (pl_ne hFq37_69 hFq53_69 rfl)]; exact hFq37_69
        have hFq41_71 : F71 q41 = cI (cy 1) 5 (gz (-1) 5) := by rw [eF71, va_up_ne _ _ (pl_ne hFq41_69 hFq53_69 rfl)]; exact hFq41_69
        have hFq45_71 : F71 q45 = cI (cy 3) 5 (fun _ => 0) := by rw [eF71, va_up_ne _ _ (pl_ne hFq45_69 hFq53_69 rfl)]; exact hFq45_69
        have hFq49_71 : F71 q49 = cI (cy 1) 60 (fun _ => 0) := by rw [eF71, va_up_ne _ _ (pl_ne hFq49_69 hFq53_69 rfl)]; exact hFq49_69
        have hFq53_71 : F71 q53 = cI (cy 1) 4 (gz 2 kk) := by rw [eF71]; exact va_up_self _ _ _
        have hFq57_71 : F71 q57 = cD (cy 0) 4 (fun _ => 0) := by rw [eF71, va_up_ne _ _ (pl_ne hFq57_69 hFq53_69 rfl)]; exact hFq57_69
        have hFq61_71 : F71 q61 = cI (cy 1) 6 (fun _ => 0) := by rw [eF71, va_up_ne _ _ (pl_ne hFq61_69 hFq53_69 rfl)]; exact hFq61_69
        have hl : lv_has ls 2 [(1, .int (nI kk)), (0, .ref o)] := hl
        refine lv_iload_n hx hb dX9_init_193 rfl (lv_at hl 0 rfl) ?_
        refine lv_iconst (v := 4) hx hb dX9_init_194 (by decide) ?_
        refine lv_icmp_ge (tgt := 211) hx hb dX9_init_195 (by decide) (fun c72 => ?_) (fun c72 => ?_)
        · have hge : kk = 4 := by have hc := c72; rw [fa_le, nI_toInt (by omega)] at hc; have h7 : (4 : Int32).toInt = 4 := (by decide); omega
          rw [hge] at hFq53_71
          refine W.widen (k := 16) (n := 324) (Nat.le_of_ble_eq_true rfl) (Nat.le_of_ble_eq_true rfl) ?_
          exact W.vret hx hb hr (fun t ht hW => ⟨⟨(L63, F71), rfl, ⟨(fun i => match i with | 0 => q1 | 1 => q5 | 2 => q9 | 3 => q13 | 4 => q17 | 5 => q21 | 6 => q25 | 7 => q29 | 8 => q33 | 9 => q37 | 10 => q41 | 11 => q45 | 12 => q49 | 13 => q53 | 14 => q57 | _ => q61), ⟨⟨_, _, hmo_63, hFo_71⟩, ⟨hmq1_63, hFq1_71⟩, ⟨hmq5_63, hFq5_71⟩, ⟨hmq9_63, hFq9_71⟩, ⟨hmq13_63, hFq13_71⟩, ⟨hmq17_63, hFq17_71⟩, ⟨hmq21_63, hFq21_71⟩, ⟨hmq25_63, hFq25_71⟩, ⟨hmq29_63, hFq29_71⟩, ⟨hmq33_63, hFq33_71⟩, ⟨hmq37_63, hFq37_71⟩, ⟨hmq41_63, hFq41_71⟩, ⟨hmq45_63, hFq45_71⟩, ⟨hmq49_63, hFq49_71⟩, ⟨hmq53_63, hFq53_71⟩, ⟨hmq57_63, hFq57_71⟩, ⟨hmq61, hFq61_71⟩, ⟨(Ne.symm hne_q13_q9), (Ne.symm hne_q17_q9), (Ne.symm hne_q17_q13), (Ne.symm hne_q37_q33), (Ne.symm hne_q45_q41)⟩⟩, hD⟩, (by show va_P _ _ _ t.heap; rw [ht]; exact hP)⟩, hS.F ht⟩) hS.2.2 dX9_init_211
        · have hlt : kk < 4 := by have hc := c72; rw [fa_le, nI_toInt (by omega)] at hc; have h7 : (4 : Int32).toInt = 4 := (by decide); omega
          refine lv_aload_n hx hb dX9_init_198 rfl (lv_at hl 1 rfl) ?_
          refine pg_get (ci := 8) (C := RX9) (T := TX9) (N := 20) hx hb hts hinX9 hown hK hP hmo_63 hFo_71 rfl 15 (by decide) (hts (.fieldLink RX9 52 "RopeDrumsModel" "brakeSort" "[I") (by decide +kernel)) (fun _ h9 => h9) rfl dX9_init_199 ?_
          refine lv_iload_n hx hb dX9_init_202 rfl (lv_at hl 0 rfl) ?_
          refine lv_iconst (v := 2) hx hb dX9_init_203 (by decide) ?_
          refine pg_iast hx hb hK hP hD hS 1 hmq53_63 hFq53_71 rfl (vp_in_nI hlt (by decide)) dX9_init_204 (fun H locs F73 eF73 hP hS => ?_)
          have hFo_73 : F73 o = .inr (8, [.int 0, .ref q1, .ref q5, .ref q9, .ref q13, .ref q17, .ref q21, .ref q25, .ref q29, .int 0, .ref q33, .ref q37, .ref q41, .ref q45, .ref q49, .ref q53, .ref q57, .int 0, .ref q61, .long 0]) := by rw [eF73, va_up_ne _ _ (pl_ne hFo_71 hFq53_71 rfl)]; exact hFo_71
          have hFq1_73 : F73 q1 = cI (cy 1) 10 (fun _ => 0) := by rw [eF73, va_up_ne _ _ (pl_ne hFq1_71 hFq53_71 rfl)]; exact hFq1_71
          have hFq5_73 : F73 q5 = cJ (cy 2) 10 (fun _ => 0) := by rw [eF73, va_up_ne _ _ (pl_ne hFq5_71 hFq53_71 rfl)]; exact hFq5_71
          have hFq9_73 : F73 q9 = cD (cy 0) 6 (fz 6 FP.dconst1 (fun _ => 0) 6) := by rw [eF73, va_up_ne _ _ (pl_ne hFq9_71 hFq53_71 rfl)]; exact hFq9_71
          have hFq13_73 : F73 q13 = cD (cy 0) 6 (fun _ => 0) := by rw [eF73, va_up_ne _ _ (pl_ne hFq13_71 hFq53_71 rfl)]; exact hFq13_71
          have hFq17_73 : F73 q17 = cD (cy 0) 6 (fun _ => 0) := by rw [eF73, va_up_ne _ _ (pl_ne hFq17_71 hFq53_71 rfl)]; exact hFq17_71
          have hFq21_73 : F73 q21 = cJ (cy 2) 6 (fun _ => 0) := by rw [eF73, va_up_ne _ _ (pl_ne hFq21_71 hFq53_71 rfl)]; exact hFq21_71
          have hFq25_73 : F73 q25 = cI (cy 1) 8 (gz (-1) 8) := by rw [eF73, va_up_ne _ _ (pl_ne hFq25_71 hFq53_71 rfl)]; exact hFq25_71
          have hFq29_73 : F73 q29 = cJ (cy 2) 128 (fun _ => 0) := by rw [eF73, va_up_ne _ _ (pl_ne hFq29_71 hFq53_71 rfl)]; exact hFq29_71
          have hFq33_73 : F73 q33 = cI (cy 1) 30 (fun _ => 0) := by rw [eF73, va_up_ne _ _ (pl_ne hFq33_71 hFq53_71 rfl)]; exact hFq33_71
          have hFq37_73 : F73 q37 = cI (cy 3) 30 (fun _ => 0) := by rw [eF73, va_up_ne _ _ (pl_ne hFq37_71 hFq53_71 rfl)]; exact hFq37_71
          have hFq41_73 : F73 q41 = cI (cy 1) 5 (gz (-1) 5) := by rw [eF73, va_up_ne _ _ (pl_ne hFq41_71 hFq53_71 rfl)]; exact hFq41_71
          have hFq45_73 : F73 q45 = cI (cy 3) 5 (fun _ => 0) := by rw [eF73, va_up_ne _ _ (pl_ne hFq45_71 hFq53_71 rfl)]; exact hFq45_71
          have hFq49_73 : F73 q49 = cI (cy 1) 60 (fun _ => 0) := by rw [eF73, va_up_ne _ _ (pl_ne hFq49_71 hFq53_71 rfl)]; exact hFq49_71
          have hFq53_73 : F73 q53 = cI (cy 1) 4 (upd (gz 2 kk) (nI kk : Int32).toNatClampNeg 2) := by rw [eF73]; exact va_up_self _ _ _
          have hFq57_73 : F73 q57 = cD (cy 0) 4 (fun _ => 0) := by rw [eF73, va_up_ne _ _ (pl_ne hFq57_71 hFq53_71 rfl)]; exact hFq57_71
          have hFq61_73 : F73 q61 = cI (cy 1) 6 (fun _ => 0) := by rw [eF73, va_up_ne _ _ (pl_ne hFq61_71 hFq53_71 rfl)]; exact hFq61_71
          obtain ⟨v74, ev74⟩ : ∃ y : Int32, y = (nI kk) + (1) := ⟨_, rfl⟩
          refine lv_iinc (v := v74) (lv' := [(1, .int v74), (0, .ref o)]) hx hb dX9_init_205 hl (k := 0) rfl (by rw [ev74]; rfl) (by decide) rfl (fun ls hl => ?_)
          refine lv_goto (tgt := 193) hx hb dX9_init_208 (by decide) ?_
          have hv : v74 = nI (kk + 1) := by rw [ev74, nI_succ]
          rw [hv] at hl
          exact K (kk + 1) ls H locs (by omega) (by omega) (by rw [← show F73 = va_up F69 q53 (cI (cy 1) 4 (gz 2 (kk + 1))) from (by rw [eF73, eF71, upup]; exact congrArg (fun x => va_up F69 q53 (cI (cy 1) 4 x)) (gzs 2 kk (by omega)))]; exact hP) hS (lv_sub hl [0, 1] rfl)
      · have hlt : kk < 5 := by have hc := c70; rw [fa_le, nI_toInt (by omega)] at hc; have h7 : (5 : Int32).toInt = 5 := (by decide); omega
        refine lv_aload_n hx hb dX9_init_178 rfl (lv_at hl 1 rfl) ?_
        refine pg_get (ci := 8) (C := RX9) (T := TX9) (N := 20) hx hb hts hinX9 hown hK hP hmo_63 hFo_69 rfl 12 (by decide) (hts (.fieldLink RX9 43 "RopeDrumsModel" "rackSize" "[I") (by decide +kernel)) (fun _ h9 => h9) rfl dX9_init_179 ?_
        refine lv_iload_n hx hb dX9_init_182 rfl (lv_at hl 0 rfl) ?_
        refine lv_iconst (v := -1) hx hb dX9_init_183 (by decide) ?_
        refine pg_iast hx hb hK hP hD hS 1 hmq41_63 hFq41_69 rfl (vp_in_nI hlt (by decide)) dX9_init_184 (fun H locs F75 eF75 hP hS => ?_)
        have hFo_75 : F75 o = .inr (8, [.int 0, .ref q1, .ref q5, .ref q9, .ref q13, .ref q17, .ref q21, .ref q25, .ref q29, .int 0, .ref q33, .ref q37, .ref q41, .ref q45, .ref q49, .ref q53, .ref q57, .int 0, .ref q61, .long 0]) := by rw [eF75, va_up_ne _ _ (pl_ne hFo_69 hFq41_69 rfl)]; exact hFo_69
        have hFq1_75 : F75 q1 = cI (cy 1) 10 (fun _ => 0) := by rw [eF75, va_up_ne _ _ (pl_ne hFq1_69 hFq41_69 rfl)]; exact hFq1_69
        have hFq5_75 : F75 q5 = cJ (cy 2) 10 (fun _ => 0) := by rw [eF75, va_up_ne _ _ (pl_ne hFq5_69 hFq41_69 rfl)]; exact hFq5_69
        have hFq9_75 : F75 q9 = cD (cy 0) 6 (fz 6 FP.dconst1 (fun _ => 0) 6) := by rw [eF75, va_up_ne _ _ (pl_ne hFq9_69 hFq41_69 rfl)]; exact hFq9_69
        have hFq13_75 : F75 q13 = cD (cy 0) 6 (fun _ => 0) := by rw [eF75, va_up_ne _ _ (pl_ne hFq13_69 hFq41_69 rfl)]; exact hFq13_69
        have hFq17_75 : F75 q17 = cD (cy 0) 6 (fun _ => 0) := by rw [eF75, va_up_ne _ _ (pl_ne hFq17_69 hFq41_69 rfl)]; exact hFq17_69
        have hFq21_75 : F75 q21 = cJ (cy 2) 6 (fun _ => 0) := by rw [eF75, va_up_ne _ _ (pl_ne hFq21_69 hFq41_69 rfl)]; exact hFq21_69
        have hFq25_75 : F75 q25 = cI (cy 1) 8 (gz (-1) 8) := by rw [eF75, va_up_ne _ _ (pl_ne hFq25_69 hFq41_69 rfl)]; exact hFq25_69
        have hFq29_75 : F75 q29 = cJ (cy 2) 128 (fun _ => 0) := by rw [eF75, va_up_ne _ _ (pl_ne hFq29_69 hFq41_69 rfl)]; exact hFq29_69
        have hFq33_75 : F75 q33 = cI (cy 1) 30 (fun _ => 0) := by rw [eF75, va_up_ne _ _ (pl_ne hFq33_69 hFq41_69 rfl)]; exact hFq33_69
        have hFq37_75 : F75 q37 = cI (cy 3) 30 (fun _ => 0) := by rw [eF75, va_up_ne _ _ (pl_ne hFq37_69 hFq41_69 rfl)]; exact hFq37_69
        have hFq41_75 : F75 q41 = cI (cy 1) 5 (upd (gz (-1) kk) (nI kk : Int32).toNatClampNeg (-1)) := by rw [eF75]; exact va_up_self _ _ _
        have hFq45_75 : F75 q45 = cI (cy 3) 5 (fun _ => 0) := by rw [eF75, va_up_ne _ _ (hne_q45_q41)]; exact hFq45_69
        have hFq49_75 : F75 q49 = cI (cy 1) 60 (fun _ => 0) := by rw [eF75, va_up_ne _ _ (pl_ne hFq49_69 hFq41_69 rfl)]; exact hFq49_69
        have hFq53_75 : F75 q53 = cI (cy 1) 4 (fun _ => 0) := by rw [eF75, va_up_ne _ _ (pl_ne hFq53_69 hFq41_69 rfl)]; exact hFq53_69
        have hFq57_75 : F75 q57 = cD (cy 0) 4 (fun _ => 0) := by rw [eF75, va_up_ne _ _ (pl_ne hFq57_69 hFq41_69 rfl)]; exact hFq57_69
        have hFq61_75 : F75 q61 = cI (cy 1) 6 (fun _ => 0) := by rw [eF75, va_up_ne _ _ (pl_ne hFq61_69 hFq41_69 rfl)]; exact hFq61_69
        obtain ⟨v76, ev76⟩ : ∃ y : Int32, y = (nI kk) + (1) := ⟨_, rfl⟩
        refine lv_iinc (v := v76) (lv' := [(1, .int v76), (0, .ref o)]) hx hb dX9_init_185 hl (k := 0) rfl (by rw [ev76]; rfl) (by decide) rfl (fun ls hl => ?_)
        refine lv_goto (tgt := 173) hx hb dX9_init_188 (by decide) ?_
        have hv : v76 = nI (kk + 1) := by rw [ev76, nI_succ]
        rw [hv] at hl
        exact K (kk + 1) ls H locs (by omega) (by omega) (by rw [← show F75 = va_up F67 q41 (cI (cy 1) 5 (gz (-1) (kk + 1))) from (by rw [eF75, eF69, upup]; exact congrArg (fun x => va_up F67 q41 (cI (cy 1) 5 x)) (gzs (-1) kk (by omega)))]; exact hP) hS (lv_sub hl [0, 1] rfl)
    · have hlt : kk < 8 := by have hc := c68; rw [fa_le, nI_toInt (by omega)] at hc; have h7 : (8 : Int32).toInt = 8 := (by decide); omega
      refine lv_aload_n hx hb dX9_init_158 rfl (lv_at hl 1 rfl) ?_
      refine pg_get (ci := 8) (C := RX9) (T := TX9) (N := 20) hx hb hts hinX9 hown hK hP hmo_63 hFo_67 rfl 7 (by decide) (hts (.fieldLink RX9 30 "RopeDrumsModel" "logSize" "[I") (by decide +kernel)) (fun _ h9 => h9) rfl dX9_init_159 ?_
      refine lv_iload_n hx hb dX9_init_162 rfl (lv_at hl 0 rfl) ?_
      refine lv_iconst (v := -1) hx hb dX9_init_163 (by decide) ?_
      refine pg_iast hx hb hK hP hD hS 1 hmq25_63 hFq25_67 rfl (vp_in_nI hlt (by decide)) dX9_init_164 (fun H locs F77 eF77 hP hS => ?_)
      have hFo_77 : F77 o = .inr (8, [.int 0, .ref q1, .ref q5, .ref q9, .ref q13, .ref q17, .ref q21, .ref q25, .ref q29, .int 0, .ref q33, .ref q37, .ref q41, .ref q45, .ref q49, .ref q53, .ref q57, .int 0, .ref q61, .long 0]) := by rw [eF77, va_up_ne _ _ (pl_ne hFo_67 hFq25_67 rfl)]; exact hFo_67
      have hFq1_77 : F77 q1 = cI (cy 1) 10 (fun _ => 0) := by rw [eF77, va_up_ne _ _ (pl_ne hFq1_67 hFq25_67 rfl)]; exact hFq1_67
      have hFq5_77 : F77 q5 = cJ (cy 2) 10 (fun _ => 0) := by rw [eF77, va_up_ne _ _ (pl_ne hFq5_67 hFq25_67 rfl)]; exact hFq5_67
      have hFq9_77 : F77 q9 = cD (cy 0) 6 (fz 6 FP.dconst1 (fun _ => 0) 6) := by rw [eF77, va_up_ne _ _ (pl_ne hFq9_67 hFq25_67 rfl)]; exact hFq9_67
      have hFq13_77 : F77 q13 = cD (cy 0) 6 (fun _ => 0) := by rw [eF77, va_up_ne _ _ (pl_ne hFq13_67 hFq25_67 rfl)]; exact hFq13_67
      have hFq17_77 : F77 q17 = cD (cy 0) 6 (fun _ => 0) := by rw [eF77, va_up_ne _ _ (pl_ne hFq17_67 hFq25_67 rfl)]; exact hFq17_67
      have hFq21_77 : F77 q21 = cJ (cy 2) 6 (fun _ => 0) := by rw [eF77, va_up_ne _ _ (pl_ne hFq21_67 hFq25_67 rfl)]; exact hFq21_67
      have hFq25_77 : F77 q25 = cI (cy 1) 8 (upd (gz (-1) kk) (nI kk : Int32).toNatClampNeg (-1)) := by rw [eF77]; exact va_up_self _ _ _
      have hFq29_77 : F77 q29 = cJ (cy 2) 128 (fun _ => 0) := by rw [eF77, va_up_ne _ _ (pl_ne hFq29_67 hFq25_67 rfl)]; exact hFq29_67
      have hFq33_77 : F77 q33 = cI (cy 1) 30 (fun _ => 0) := by rw [eF77, va_up_ne _ _ (pl_ne hFq33_67 hFq25_67 rfl)]; exact hFq33_67
      have hFq37_77 : F77 q37 = cI (cy 3) 30 (fun _ => 0) := by rw [eF77, va_up_ne _ _ (pl_ne hFq37_67 hFq25_67 rfl)]; exact hFq37_67
      have hFq41_77 : F77 q41 = cI (cy 1) 5 (fun _ => 0) := by rw [eF77, va_up_ne _ _ (pl_ne hFq41_67 hFq25_67 rfl)]; exact hFq41_67
      have hFq45_77 : F77 q45 = cI (cy 3) 5 (fun _ => 0) := by rw [eF77, va_up_ne _ _ (pl_ne hFq45_67 hFq25_67 rfl)]; exact hFq45_67
      have hFq49_77 : F77 q49 = cI (cy 1) 60 (fun _ => 0) := by rw [eF77, va_up_ne _ _ (pl_ne hFq49_67 hFq25_67 rfl)]; exact hFq49_67
      have hFq53_77 : F77 q53 = cI (cy 1) 4 (fun _ => 0) := by rw [eF77, va_up_ne _ _ (pl_ne hFq53_67 hFq25_67 rfl)]; exact hFq53_67
      have hFq57_77 : F77 q57 = cD (cy 0) 4 (fun _ => 0) := by rw [eF77, va_up_ne _ _ (pl_ne hFq57_67 hFq25_67 rfl)]; exact hFq57_67
      have hFq61_77 : F77 q61 = cI (cy 1) 6 (fun _ => 0) := by rw [eF77, va_up_ne _ _ (pl_ne hFq61_67 hFq25_67 rfl)]; exact hFq61_67
      obtain ⟨v78, ev78⟩ : ∃ y : Int32, y = (nI kk) + (1) := ⟨_, rfl⟩
      refine lv_iinc (v := v78) (lv' := [(1, .int v78), (0, .ref o)]) hx hb dX9_init_165 hl (k := 0) rfl (by rw [ev78]; rfl) (by decide) rfl (fun ls hl => ?_)
      refine lv_goto (tgt := 152) hx hb dX9_init_168 (by decide) ?_
      have hv : v78 = nI (kk + 1) := by rw [ev78, nI_succ]
      rw [hv] at hl
      exact K (kk + 1) ls H locs (by omega) (by omega) (by rw [← show F77 = va_up F65 q25 (cI (cy 1) 8 (gz (-1) (kk + 1))) from (by rw [eF77, eF67, upup]; exact congrArg (fun x => va_up F65 q25 (cI (cy 1) 8 x)) (gzs (-1) kk (by omega)))]; exact hP) hS (lv_sub hl [0, 1] rfl)
  · have hlt : kk < 6 := by have hc := c66; rw [fa_le, nI_toInt (by omega)] at hc; have h7 : (6 : Int32).toInt = 6 := (by decide); omega
    refine lv_aload_n hx hb dX9_init_137 rfl (lv_at hl 1 rfl) ?_
    refine pg_get (ci := 8) (C := RX9) (T := TX9) (N := 20) hx hb hts hinX9 hown hK hP hmo_63 hFo_65 rfl 3 (by decide) (hts (.fieldLink RX9 17 "RopeDrumsModel" "around" "[D") (by decide +kernel)) (fun _ h9 => h9) rfl dX9_init_138 ?_
    refine lv_iload_n hx hb dX9_init_141 rfl (lv_at hl 0 rfl) ?_
    refine lv_dconst1 hx hb dX9_init_142 ?_
    refine pg_dast hx hb hK hP hD hS 0 hmq9_63 hFq9_65 rfl (vp_in_nI hlt (by decide)) dX9_init_143 (fun H locs F79 eF79 hP hS => ?_)
    have hFo_79 : F79 o = .inr (8, [.int 0, .ref q1, .ref q5, .ref q9, .ref q13, .ref q17, .ref q21, .ref q25, .ref q29, .int 0, .ref q33, .ref q37, .ref q41, .ref q45, .ref q49, .ref q53, .ref q57, .int 0, .ref q61, .long 0]) := by rw [eF79, va_up_ne _ _ (pl_ne hFo_65 hFq9_65 rfl)]; exact hFo_65
    have hFq1_79 : F79 q1 = cI (cy 1) 10 (fun _ => 0) := by rw [eF79, va_up_ne _ _ (pl_ne hFq1_65 hFq9_65 rfl)]; exact hFq1_65
    have hFq5_79 : F79 q5 = cJ (cy 2) 10 (fun _ => 0) := by rw [eF79, va_up_ne _ _ (pl_ne hFq5_65 hFq9_65 rfl)]; exact hFq5_65
    have hFq9_79 : F79 q9 = cD (cy 0) 6 (vf_upd (fz 6 FP.dconst1 (fun _ => 0) kk) (nI kk : Int32).toNatClampNeg FP.dconst1) := by rw [eF79]; exact va_up_self _ _ _
    have hFq13_79 : F79 q13 = cD (cy 0) 6 (fun _ => 0) := by rw [eF79, va_up_ne _ _ (hne_q13_q9)]; exact hFq13_65
    have hFq17_79 : F79 q17 = cD (cy 0) 6 (fun _ => 0) := by rw [eF79, va_up_ne _ _ (hne_q17_q9)]; exact hFq17_65
    have hFq21_79 : F79 q21 = cJ (cy 2) 6 (fun _ => 0) := by rw [eF79, va_up_ne _ _ (pl_ne hFq21_65 hFq9_65 rfl)]; exact hFq21_65
    have hFq25_79 : F79 q25 = cI (cy 1) 8 (fun _ => 0) := by rw [eF79, va_up_ne _ _ (pl_ne hFq25_65 hFq9_65 rfl)]; exact hFq25_65
    have hFq29_79 : F79 q29 = cJ (cy 2) 128 (fun _ => 0) := by rw [eF79, va_up_ne _ _ (pl_ne hFq29_65 hFq9_65 rfl)]; exact hFq29_65
    have hFq33_79 : F79 q33 = cI (cy 1) 30 (fun _ => 0) := by rw [eF79, va_up_ne _ _ (pl_ne hFq33_65 hFq9_65 rfl)]; exact hFq33_65
    have hFq37_79 : F79 q37 = cI (cy 3) 30 (fun _ => 0) := by rw [eF79, va_up_ne _ _ (pl_ne hFq37_65 hFq9_65 rfl)]; exact hFq37_65
    have hFq41_79 : F79 q41 = cI (cy 1) 5 (fun _ => 0) := by rw [eF79, va_up_ne _ _ (pl_ne hFq41_65 hFq9_65 rfl)]; exact hFq41_65
    have hFq45_79 : F79 q45 = cI (cy 3) 5 (fun _ => 0) := by rw [eF79, va_up_ne _ _ (pl_ne hFq45_65 hFq9_65 rfl)]; exact hFq45_65
    have hFq49_79 : F79 q49 = cI (cy 1) 60 (fun _ => 0) := by rw [eF79, va_up_ne _ _ (pl_ne hFq49_65 hFq9_65 rfl)]; exact hFq49_65
    have hFq53_79 : F79 q53 = cI (cy 1) 4 (fun _ => 0) := by rw [eF79, va_up_ne _ _ (pl_ne hFq53_65 hFq9_65 rfl)]; exact hFq53_65
    have hFq57_79 : F79 q57 = cD (cy 0) 4 (fun _ => 0) := by rw [eF79, va_up_ne _ _ (pl_ne hFq57_65 hFq9_65 rfl)]; exact hFq57_65
    have hFq61_79 : F79 q61 = cI (cy 1) 6 (fun _ => 0) := by rw [eF79, va_up_ne _ _ (pl_ne hFq61_65 hFq9_65 rfl)]; exact hFq61_65
    obtain ⟨v80, ev80⟩ : ∃ y : Int32, y = (nI kk) + (1) := ⟨_, rfl⟩
    refine lv_iinc (v := v80) (lv' := [(1, .int v80), (0, .ref o)]) hx hb dX9_init_144 hl (k := 0) rfl (by rw [ev80]; rfl) (by decide) rfl (fun ls hl => ?_)
    refine lv_goto (tgt := 131) hx hb dX9_init_147 (by decide) ?_
    have hv : v80 = nI (kk + 1) := by rw [ev80, nI_succ]
    rw [hv] at hl
    exact K (kk + 1) ls H locs (by omega) (by omega) (by rw [← show F79 = va_up F64 q9 (cD (cy 0) 6 (fz 6 FP.dconst1 (fun _ => 0) (kk + 1))) from (by rw [eF79, eF65, upup]; exact congrArg (fun x => va_up F64 q9 (cD (cy 0) 6 x)) (fzs 6 FP.dconst1 (fun _ => 0) kk (by omega)))]; exact hP) hS (lv_sub hl [0, 1] rfl)
