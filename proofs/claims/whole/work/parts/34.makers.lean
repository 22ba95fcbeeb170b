/-- links among nest mates, and arrays of references: what the makers need of the tables -/
def pZ (U : State) : Prop := (va_Nw (.methodLinkNest RX8 56 yX4_init "RopeDrums") U ∧ va_Nw (.methodLinkNest RX8 57 yX1_init "RopeDrums") U ∧ va_Nw (.methodLinkNest RX8 61 yX6_init "RopeDrums") U ∧ va_Nw (.methodLinkNest RX8 62 yX0_init "RopeDrums") U ∧ va_Nw (.methodLinkNest RX3 3 yX5_init "RopeDrums") U ∧ va_Nw (.methodLinkNest RX6 3 yX5_init "RopeDrums") U) ∧ va_AO RX0 U ∧ va_AO RX1 U ∧ va_AO RX3 U ∧ va_AO RX4 U ∧ va_AO RX6 U ∧ va_AO RX7 U
theorem pZ.same {U V : State} (h : U.vm = V.vm) (q : pZ U) : pZ V := ⟨⟨va_Nw.same rfl h q.1.1, va_Nw.same rfl h q.1.2.1, va_Nw.same rfl h q.1.2.2.1, va_Nw.same rfl h q.1.2.2.2.1, va_Nw.same rfl h q.1.2.2.2.2.1, va_Nw.same rfl h q.1.2.2.2.2.2⟩, va_AO.moved (alike_eq h) q.2.1, va_AO.moved (alike_eq h) q.2.2.1, va_AO.moved (alike_eq h) q.2.2.2.1, va_AO.moved (alike_eq h) q.2.2.2.2.1, va_AO.moved (alike_eq h) q.2.2.2.2.2.1, va_AO.moved (alike_eq h) q.2.2.2.2.2.2⟩
theorem pZ.warm {U V : State} (h : U.WarmedH V.vm) (q : pZ U) : pZ V := ⟨⟨va_Nw.warmM h q.1.1, va_Nw.warmM h q.1.2.1, va_Nw.warmM h q.1.2.2.1, va_Nw.warmM h q.1.2.2.2.1, va_Nw.warmM h q.1.2.2.2.2.1, va_Nw.warmM h q.1.2.2.2.2.2⟩, va_AO.moved h.alike q.2.1, va_AO.moved h.alike q.2.2.1, va_AO.moved h.alike q.2.2.2.1, va_AO.moved h.alike q.2.2.2.2.1, va_AO.moved h.alike q.2.2.2.2.2.1, va_AO.moved h.alike q.2.2.2.2.2.2⟩
abbrev bQZ (G : va_G) (cy : Nat → ClassId) (L : List Nat) (F : Nat → va_E) (sz : Nat) : State → Heap → Prop := fun U H => bQ G cy L F sz U H ∧ pZ U
theorem okQZ {G : va_G} {cy : Nat → ClassId} {L : List Nat} {F : Nat → va_E} {sz : Nat} : pOK (bQZ G cy L F sz) := ⟨fun U V H h q => ⟨okQ.1 U V H h q.1, q.2.same h⟩, fun U V H h q => ⟨okQ.2 U V H h q.1, q.2.warm h⟩⟩
theorem pD.mono {A B : Nat → Prop} {L : List Nat} (h : pD A L) (hab : ∀ q, A q → B q) : pD B L := ⟨h.1, fun a ha => hab a (h.2 a ha)⟩
theorem narz0 : narrow .boolean (.int 0) = .int 0 := rfl

set_option maxHeartbeats 8000000 in
set_option maxRecDepth 100000 in
theorem c_X4_init (l : Launch) (G : va_G) (cy : Nat → ClassId) (L : List Nat) (F : Nat → va_E) (sz : Nat) (h0 : Nat) (hm : h0 ∈ L) (hF : F h0 = .inr (4, [.int 0, .long 0, .double 0]))  : Met l yX4_init wsX4_init ({ frames := 1, cells := 0, slots := 0, locals := 20 }) (va_Pc [.ref h0] (fun U => bQ G cy L F sz U U.heap)) (va_Qv (fun F' : Nat → va_E => F' = va_up F h0 (.inr (4, [.int 0, .long 0, .double FP.dconst0]))) (fun F' t => va_P G vwCl (va_pl L F') t.heap) (va_A (va_pl L F) sz)) 0 0 (va_A (va_pl L F) sz) := by
  refine Met.ofW (cc := cX4_init) (maxL := 1) (ret := none) (by decide) rfl ?_
  intro p e s m args below meth c s₁ B hml hv
  obtain ⟨rfl, hsz, hP, hK, hD0⟩ := hv
  have hx := B.exec
  have hb := B.bytes
  have hr := B.returns
  have hts := atoms_spec (ws := wsX4_init) B.pre
  have hown : s.vm.findClass RX4 = some m.cls := findClass_of_methodNamed B.named
  have hlocks := B.notSynchronized
  have hinX4 : ∀ w ∈ wsX40, w ∈ wsX4_init := by decide +kernel
  subst hsz
  have hD := hD0.self F s.heap.size
  generalize hAe : va_A (va_pl L F) s.heap.size = A at hD ⊢
  have hA : ∀ q : Nat, s.heap.size ≤ q → A q := fun q h => by rw [← hAe]; exact Or.inr h
  have hS : va_S A s.heap s.heap [] := va_S.rf
  have hin2 : meth.name = "<init>" := (name_of_methodNamed B.named B.method).1
  have hl := lv_entry ([.ref h0]) (n := 1) (Nat.le_of_ble_eq_true rfl)
  rw [lg_entry_eq]
  generalize (lg_sl ([.ref h0]) ++ List.replicate (1 - (lg_sl ([.ref h0])).length) Slot.unset).toArray = ls at hl ⊢
  have hl : lv_has ls 1 [(0, .ref h0)] := hl
  refine lv_aload_n hx hb dX4_init_0 rfl (lv_at hl 0 rfl) ?_
  refine W.objInit hx hb hown (hts (.methodLink RX4 3 objectInit) (by decide +kernel)) (hts (.instanceMethod objectInit) (by decide +kernel)) (hts (.code objectInit ⟨#[0xb1]⟩ 1 none) (by decide +kernel)) rfl (by rw [hml]; exact hl.1) rfl dX4_init_1 (Nat.le_of_ble_eq_true rfl) (Nat.le_of_ble_eq_true rfl) ?_
  refine W.eq (g2 := F0 m 4 ls []) rfl ?_
  refine lv_aload_n hx hb dX4_init_4 rfl (lv_at hl 0 rfl) ?_
  refine lv_iconst (v := 0) hx hb dX4_init_5 (by decide) ?_
  refine pg_put (ci := 4) (v := .int 0) (ty := .int) (C := RX4) (T := TX4) (N := 3) hx hb hts hinX4 tyX4 tyX4_ok nmX4 hown hK hP hD hS hm hF rfl 0 (by decide) (hts (.fieldLink RX4 9 "RopeDrums$Meter" "lane" "I") (by decide +kernel)) (fun _ h9 => h9) rfl (by decide +kernel) (rfl) (rfl) (Nat.le_of_ble_eq_true rfl) dX4_init_6 (fun H locs F1 eF1 hP hS => ?_)
  have eF1 : F1 = va_up F h0 (.inr (4, [.int 0, .long 0, .double 0])) := eF1
  have hFh0_1 : F1 h0 = .inr (4, [.int 0, .long 0, .double 0]) := by rw [eF1]; exact va_up_self _ _ _
  refine lv_aload_n hx hb dX4_init_9 rfl (lv_at hl 0 rfl) ?_
  refine lv_lconst (v := 0) hx hb dX4_init_10 (by decide) ?_
  refine pg_put (ci := 4) (v := .long 0) (ty := .long) (C := RX4) (T := TX4) (N := 3) hx hb hts hinX4 tyX4 tyX4_ok nmX4 hown hK hP hD hS hm hFh0_1 rfl 1 (by decide) (hts (.fieldLink RX4 15 "RopeDrums$Meter" "number" "J") (by decide +kernel)) (fun _ h9 => h9) rfl (by decide +kernel) (rfl) (rfl) (Nat.le_of_ble_eq_true rfl) dX4_init_11 (fun H locs F2 eF2 hP hS => ?_)
  have eF2 : F2 = va_up F1 h0 (.inr (4, [.int 0, .long 0, .double 0])) := eF2
  have hFh0_2 : F2 h0 = .inr (4, [.int 0, .long 0, .double 0]) := by rw [eF2]; exact va_up_self _ _ _
  refine lv_aload_n hx hb dX4_init_14 rfl (lv_at hl 0 rfl) ?_
  refine lv_dconst0 hx hb dX4_init_15 ?_
  refine pg_put (ci := 4) (v := .double FP.dconst0) (ty := .double) (C := RX4) (T := TX4) (N := 3) hx hb hts hinX4 tyX4 tyX4_ok nmX4 hown hK hP hD hS hm hFh0_2 rfl 2 (by decide) (hts (.fieldLink RX4 19 "RopeDrums$Meter" "real" "D") (by decide +kernel)) (fun _ h9 => h9) rfl (by decide +kernel) (rfl) (rfl) (Nat.le_of_ble_eq_true rfl) dX4_init_16 (fun H locs F3 eF3 hP hS => ?_)
  have eF3 : F3 = va_up F2 h0 (.inr (4, [.int 0, .long 0, .double FP.dconst0])) := eF3
  have hFh0_3 : F3 h0 = .inr (4, [.int 0, .long 0, .double FP.dconst0]) := by rw [eF3]; exact va_up_self _ _ _
  exact W.vret hx hb hr (fun t ht hW => ⟨⟨F3, rfl, (by rw [eF3, eF2, eF1, upup, upup]), (by show va_P _ _ _ t.heap; rw [ht]; exact hP)⟩, hS.F ht⟩) hS.2.2 dX4_init_19

set_option maxHeartbeats 8000000 in
set_option maxRecDepth 100000 in
theorem c_X1_init (l : Launch) (G : va_G) (cy : Nat → ClassId) (L : List Nat) (F : Nat → va_E) (sz : Nat) (h0 : Nat) (hm : h0 ∈ L) (hF : F h0 = .inr (1, [.double 0, .double 0, .double 0, .long 0]))  : Met l yX1_init wsX1_init ({ frames := 1, cells := 0, slots := 0, locals := 20 }) (va_Pc [.ref h0] (fun U => bQ G cy L F sz U U.heap)) (va_Qv (fun F' : Nat → va_E => F' = va_up F h0 (.inr (1, [.double FP.dconst1, .double FP.dconst0, .double FP.dconst0, .long 0]))) (fun F' t => va_P G vwCl (va_pl L F') t.heap) (va_A (va_pl L F) sz)) 0 0 (va_A (va_pl L F) sz) := by
  refine Met.ofW (cc := cX1_init) (maxL := 1) (ret := none) (by decide) rfl ?_
  intro p e s m args below meth c s₁ B hml hv
  obtain ⟨rfl, hsz, hP, hK, hD0⟩ := hv
  have hx := B.exec
  have hb := B.bytes
  have hr := B.returns
  have hts := atoms_spec (ws := wsX1_init) B.pre
  have hown : s.vm.findClass RX1 = some m.cls := findClass_of_methodNamed B.named
  have hlocks := B.notSynchronized
  have hinX1 : ∀ w ∈ wsX10, w ∈ wsX1_init := by decide +kernel
  subst hsz
  have hD := hD0.self F s.heap.size
  generalize hAe : va_A (va_pl L F) s.heap.size = A at hD ⊢
  have hA : ∀ q : Nat, s.heap.size ≤ q → A q := fun q h => by rw [← hAe]; exact Or.inr h
  have hS : va_S A s.heap s.heap [] := va_S.rf
  have hin2 : meth.name = "<init>" := (name_of_methodNamed B.named B.method).1
  have hl := lv_entry ([.ref h0]) (n := 1) (Nat.le_of_ble_eq_true rfl)
  rw [lg_entry_eq]
  generalize (lg_sl ([.ref h0]) ++ List.replicate (1 - (lg_sl ([.ref h0])).length) Slot.unset).toArray = ls at hl ⊢
  have hl : lv_has ls 1 [(0, .ref h0)] := hl
  refine lv_aload_n hx hb dX1_init_0 rfl (lv_at hl 0 rfl) ?_
  refine W.objInit hx hb hown (hts (.methodLink RX1 1 objectInit) (by decide +kernel)) (hts (.instanceMethod objectInit) (by decide +kernel)) (hts (.code objectInit ⟨#[0xb1]⟩ 1 none) (by decide +kernel)) rfl (by rw [hml]; exact hl.1) rfl dX1_init_1 (Nat.le_of_ble_eq_true rfl) (Nat.le_of_ble_eq_true rfl) ?_
  refine W.eq (g2 := F0 m 4 ls []) rfl ?_
  refine lv_aload_n hx hb dX1_init_4 rfl (lv_at hl 0 rfl) ?_
  refine lv_dconst1 hx hb dX1_init_5 ?_
  refine pg_put (ci := 1) (v := .double FP.dconst1) (ty := .double) (C := RX1) (T := TX1) (N := 4) hx hb hts hinX1 tyX1 tyX1_ok nmX1 hown hK hP hD hS hm hF rfl 0 (by decide) (hts (.fieldLink RX1 7 "RopeDrums$Drum" "around" "D") (by decide +kernel)) (fun _ h9 => h9) rfl (by decide +kernel) (rfl) (rfl) (Nat.le_of_ble_eq_true rfl) dX1_init_6 (fun H locs F1 eF1 hP hS => ?_)
  have eF1 : F1 = va_up F h0 (.inr (1, [.double FP.dconst1, .double 0, .double 0, .long 0])) := eF1
  have hFh0_1 : F1 h0 = .inr (1, [.double FP.dconst1, .double 0, .double 0, .long 0]) := by rw [eF1]; exact va_up_self _ _ _
  refine lv_aload_n hx hb dX1_init_9 rfl (lv_at hl 0 rfl) ?_
  refine lv_dconst0 hx hb dX1_init_10 ?_
  refine pg_put (ci := 1) (v := .double FP.dconst0) (ty := .double) (C := RX1) (T := TX1) (N := 4) hx hb hts hinX1 tyX1 tyX1_ok nmX1 hown hK hP hD hS hm hFh0_1 rfl 1 (by decide) (hts (.fieldLink RX1 13 "RopeDrums$Drum" "at" "D") (by decide +kernel)) (fun _ h9 => h9) rfl (by decide +kernel) (rfl) (rfl) (Nat.le_of_ble_eq_true rfl) dX1_init_11 (fun H locs F2 eF2 hP hS => ?_)
  have eF2 : F2 = va_up F1 h0 (.inr (1, [.double FP.dconst1, .double FP.dconst0, .double 0, .long 0])) := eF2
  have hFh0_2 : F2 h0 = .inr (1, [.double FP.dconst1, .double FP.dconst0, .double 0, .long 0]) := by rw [eF2]; exact va_up_self _ _ _
  refine lv_aload_n hx hb dX1_init_14 rfl (lv_at hl 0 rfl) ?_
  refine lv_dconst0 hx hb dX1_init_15 ?_
  refine pg_put (ci := 1) (v := .double FP.dconst0) (ty := .double) (C := RX1) (T := TX1) (N := 4) hx hb hts hinX1 tyX1 tyX1_ok nmX1 hown hK hP hD hS hm hFh0_2 rfl 2 (by decide) (hts (.fieldLink RX1 16 "RopeDrums$Drum" "rope" "D") (by decide +kernel)) (fun _ h9 => h9) rfl (by decide +kernel) (rfl) (rfl) (Nat.le_of_ble_eq_true rfl) dX1_init_16 (fun H locs F3 eF3 hP hS => ?_)
  have eF3 : F3 = va_up F2 h0 (.inr (1, [.double FP.dconst1, .double FP.dconst0, .double FP.dconst0, .long 0])) := eF3
  have hFh0_3 : F3 h0 = .inr (1, [.double FP.dconst1, .double FP.dconst0, .double FP.dconst0, .long 0]) := by rw [eF3]; exact va_up_self _ _ _
  refine lv_aload_n hx hb dX1_init_19 rfl (lv_at hl 0 rfl) ?_
  refine lv_lconst (v := 0) hx hb dX1_init_20 (by decide) ?_
  refine pg_put (ci := 1) (v := .long 0) (ty := .long) (C := RX1) (T := TX1) (N := 4) hx hb hts hinX1 tyX1 tyX1_ok nmX1 hown hK hP hD hS hm hFh0_3 rfl 3 (by decide) (hts (.fieldLink RX1 19 "RopeDrums$Drum" "turns" "J") (by decide +kernel)) (fun _ h9 => h9) rfl (by decide +kernel) (rfl) (rfl) (Nat.le_of_ble_eq_true rfl) dX1_init_21 (fun H locs F4 eF4 hP hS => ?_)
  have eF4 : F4 = va_up F3 h0 (.inr (1, [.double FP.dconst1, .double FP.dconst0, .double FP.dconst0, .long 0])) := eF4
  have hFh0_4 : F4 h0 = .inr (1, [.double FP.dconst1, .double FP.dconst0, .double FP.dconst0, .long 0]) := by rw [eF4]; exact va_up_self _ _ _
  exact W.vret hx hb hr (fun t ht hW => ⟨⟨F4, rfl, (by rw [eF4, eF3, eF2, eF1, upup, upup, upup]), (by show va_P _ _ _ t.heap; rw [ht]; exact hP)⟩, hS.F ht⟩) hS.2.2 dX1_init_24

set_option maxHeartbeats 8000000 in
set_option maxRecDepth 100000 in
theorem c_X0_init (l : Launch) (G : va_G) (cy : Nat → ClassId) (L : List Nat) (F : Nat → va_E) (sz : Nat) (h0 : Nat) (hm : h0 ∈ L) (hF : F h0 = .inr (0, [.int 0, .double 0]))  : Met l yX0_init wsX0_init ({ frames := 1, cells := 0, slots := 0, locals := 20 }) (va_Pc [.ref h0] (fun U => bQ G cy L F sz U U.heap)) (va_Qv (fun F' : Nat → va_E => F' = va_up F h0 (.inr (0, [.int 2, .double FP.dconst0]))) (fun F' t => va_P G vwCl (va_pl L F') t.heap) (va_A (va_pl L F) sz)) 0 0 (va_A (va_pl L F) sz) := by
  refine Met.ofW (cc := cX0_init) (maxL := 1) (ret := none) (by decide) rfl ?_
  intro p e s m args below meth c s₁ B hml hv
  obtain ⟨rfl, hsz, hP, hK, hD0⟩ := hv
  have hx := B.exec
  have hb := B.bytes
  have hr := B.returns
  have hts := atoms_spec (ws := wsX0_init) B.pre
  have hown : s.vm.findClass RX0 = some m.cls := findClass_of_methodNamed B.named
  have hlocks := B.notSynchronized
  have hinX0 : ∀ w ∈ wsX00, w ∈ wsX0_init := by decide +kernel
  subst hsz
  have hD := hD0.self F s.heap.size
  generalize hAe : va_A (va_pl L F) s.heap.size = A at hD ⊢
  have hA : ∀ q : Nat, s.heap.size ≤ q → A q := fun q h => by rw [← hAe]; exact Or.inr h
  have hS : va_S A s.heap s.heap [] := va_S.rf
  have hin2 : meth.name = "<init>" := (name_of_methodNamed B.named B.method).1
  have hl := lv_entry ([.ref h0]) (n := 1) (Nat.le_of_ble_eq_true rfl)
  rw [lg_entry_eq]
  generalize (lg_sl ([.ref h0]) ++ List.replicate (1 - (lg_sl ([.ref h0])).length) Slot.unset).toArray = ls at hl ⊢
  have hl : lv_has ls 1 [(0, .ref h0)] := hl
  refine lv_aload_n hx hb dX0_init_0 rfl (lv_at hl 0 rfl) ?_
  refine W.objInit hx hb hown (hts (.methodLink RX0 3 objectInit) (by decide +kernel)) (hts (.instanceMethod objectInit) (by decide +kernel)) (hts (.code objectInit ⟨#[0xb1]⟩ 1 none) (by decide +kernel)) rfl (by rw [hml]; exact hl.1) rfl dX0_init_1 (Nat.le_of_ble_eq_true rfl) (Nat.le_of_ble_eq_true rfl) ?_
  refine W.eq (g2 := F0 m 4 ls []) rfl ?_
  refine lv_aload_n hx hb dX0_init_4 rfl (lv_at hl 0 rfl) ?_
  refine lv_iconst (v := 2) hx hb dX0_init_5 (by decide) ?_
  refine pg_put (ci := 0) (v := .int 2) (ty := .int) (C := RX0) (T := TX0) (N := 2) hx hb hts hinX0 tyX0 tyX0_ok nmX0 hown hK hP hD hS hm hF rfl 0 (by decide) (hts (.fieldLink RX0 9 "RopeDrums$Brake" "sort" "I") (by decide +kernel)) (fun _ h9 => h9) rfl (by decide +kernel) (rfl) (rfl) (Nat.le_of_ble_eq_true rfl) dX0_init_6 (fun H locs F1 eF1 hP hS => ?_)
  have eF1 : F1 = va_up F h0 (.inr (0, [.int 2, .double 0])) := eF1
  have hFh0_1 : F1 h0 = .inr (0, [.int 2, .double 0]) := by rw [eF1]; exact va_up_self _ _ _
  refine lv_aload_n hx hb dX0_init_9 rfl (lv_at hl 0 rfl) ?_
  refine lv_dconst0 hx hb dX0_init_10 ?_
  refine pg_put (ci := 0) (v := .double FP.dconst0) (ty := .double) (C := RX0) (T := TX0) (N := 2) hx hb hts hinX0 tyX0 tyX0_ok nmX0 hown hK hP hD hS hm hFh0_1 rfl 1 (by decide) (hts (.fieldLink RX0 15 "RopeDrums$Brake" "grip" "D") (by decide +kernel)) (fun _ h9 => h9) rfl (by decide +kernel) (rfl) (rfl) (Nat.le_of_ble_eq_true rfl) dX0_init_11 (fun H locs F2 eF2 hP hS => ?_)
  have eF2 : F2 = va_up F1 h0 (.inr (0, [.int 2, .double FP.dconst0])) := eF2
  have hFh0_2 : F2 h0 = .inr (0, [.int 2, .double FP.dconst0]) := by rw [eF2]; exact va_up_self _ _ _
  exact W.vret hx hb hr (fun t ht hW => ⟨⟨F2, rfl, (by rw [eF2, eF1, upup]), (by show va_P _ _ _ t.heap; rw [ht]; exact hP)⟩, hS.F ht⟩) hS.2.2 dX0_init_14

set_option maxHeartbeats 8000000 in
set_option maxRecDepth 100000 in
theorem c_X7_init (l : Launch) (G : va_G) (cy : Nat → ClassId) (L : List Nat) (F : Nat → va_E) (sz : Nat) (h0 : Nat) (n w re : Int32) (hre : re = 0 ∨ re = 1) (hm : h0 ∈ L) (hF : F h0 = .inr (6, [.int 0, .int 0, .int 0]))  : Met l yX7_init wsX7_init ({ frames := 1, cells := 0, slots := 0, locals := 20 }) (va_Pc [.ref h0, .int n, .int w, .int re] (fun U => bQ G cy L F sz U U.heap)) (va_Qv (fun F' : Nat → va_E => F' = va_up F h0 (.inr (6, [.int n, .int w, .int re]))) (fun F' t => va_P G vwCl (va_pl L F') t.heap) (va_A (va_pl L F) sz)) 0 0 (va_A (va_pl L F) sz) := by
  refine Met.ofW (cc := cX7_init) (maxL := 4) (ret := none) (by decide) rfl ?_
  intro p e s m args below meth c s₁ B hml hv
  obtain ⟨rfl, hsz, hP, hK, hD0⟩ := hv
  have hx := B.exec
  have hb := B.bytes
  have hr := B.returns
  have hts := atoms_spec (ws := wsX7_init) B.pre
  have hown : s.vm.findClass RX7 = some m.cls := findClass_of_methodNamed B.named
  have hlocks := B.notSynchronized
  have hinX7 : ∀ w ∈ wsX70, w ∈ wsX7_init := by decide +kernel
  subst hsz
  have hD := hD0.self F s.heap.size
  generalize hAe : va_A (va_pl L F) s.heap.size = A at hD ⊢
  have hA : ∀ q : Nat, s.heap.size ≤ q → A q := fun q h => by rw [← hAe]; exact Or.inr h
  have hS : va_S A s.heap s.heap [] := va_S.rf
  have hin2 : meth.name = "<init>" := (name_of_methodNamed B.named B.method).1
  have hl := lv_entry ([.ref h0, .int n, .int w, .int re]) (n := 4) (Nat.le_of_ble_eq_true rfl)
  rw [lg_entry_eq]
  generalize (lg_sl ([.ref h0, .int n, .int w, .int re]) ++ List.replicate (4 - (lg_sl ([.ref h0, .int n, .int w, .int re])).length) Slot.unset).toArray = ls at hl ⊢
  have hl : lv_has ls 4 [(0, .ref h0), (1, .int n), (2, .int w), (3, .int re)] := hl
  refine lv_aload_n hx hb dX7_init_0 rfl (lv_at hl 0 rfl) ?_
  refine W.objInit hx hb hown (hts (.methodLink RX7 1 objectInit) (by decide +kernel)) (hts (.instanceMethod objectInit) (by decide +kernel)) (hts (.code objectInit ⟨#[0xb1]⟩ 1 none) (by decide +kernel)) rfl (by rw [hml]; exact hl.1) rfl dX7_init_1 (Nat.le_of_ble_eq_true rfl) (Nat.le_of_ble_eq_true rfl) ?_
  refine W.eq (g2 := F0 m 4 ls []) rfl ?_
  refine lv_aload_n hx hb dX7_init_4 rfl (lv_at hl 0 rfl) ?_
  refine lv_iload_n hx hb dX7_init_5 rfl (lv_at hl 1 rfl) ?_
  refine pg_putF (ci := 6) (v := .int n) (ty := .int) (C := RX7) (T := TX7) (N := 3) hx hb hts hinX7 tyX7 tyX7_ok nmX7 hown hK hP hD hS hm hF rfl 0 (by decide) (hts (.fieldLink RX7 7 "RopeDrums$Spool" "number" "I") (by decide +kernel)) (fun _ h9 => h9) rfl hin2 rfl (by decide +kernel) (rfl) (rfl) (Nat.le_of_ble_eq_true rfl) dX7_init_6 (fun H locs F1 eF1 hP hS => ?_)
  have eF1 : F1 = va_up F h0 (.inr (6, [.int n, .int 0, .int 0])) := eF1
  have hFh0_1 : F1 h0 = .inr (6, [.int n, .int 0, .int 0]) := by rw [eF1]; exact va_up_self _ _ _
  refine lv_aload_n hx hb dX7_init_9 rfl (lv_at hl 0 rfl) ?_
  refine lv_iload_n hx hb dX7_init_10 rfl (lv_at hl 2 rfl) ?_
  refine pg_putF (ci := 6) (v := .int w) (ty := .int) (C := RX7) (T := TX7) (N := 3) hx hb hts hinX7 tyX7 tyX7_ok nmX7 hown hK hP hD hS hm hFh0_1 rfl 1 (by decide) (hts (.fieldLink RX7 13 "RopeDrums$Spool" "weight" "I") (by decide +kernel)) (fun _ h9 => h9) rfl hin2 rfl (by decide +kernel) (rfl) (rfl) (Nat.le_of_ble_eq_true rfl) dX7_init_11 (fun H locs F2 eF2 hP hS => ?_)
  have eF2 : F2 = va_up F1 h0 (.inr (6, [.int n, .int w, .int 0])) := eF2
  have hFh0_2 : F2 h0 = .inr (6, [.int n, .int w, .int 0]) := by rw [eF2]; exact va_up_self _ _ _
  refine lv_aload_n hx hb dX7_init_14 rfl (lv_at hl 0 rfl) ?_
  refine lv_iload_n hx hb dX7_init_15 rfl (lv_at hl 3 rfl) ?_
  refine pg_putF (ci := 6) (v := .int re) (ty := .boolean) (C := RX7) (T := TX7) (N := 3) hx hb hts hinX7 tyX7 tyX7_ok nmX7 hown hK hP hD hS hm hFh0_2 rfl 2 (by decide) (hts (.fieldLink RX7 16 "RopeDrums$Spool" "isReel" "Z") (by decide +kernel)) (fun _ h9 => h9) rfl hin2 rfl (by decide +kernel) ((by rcases hre with rfl | rfl <;> rfl)) ((by rcases hre with rfl | rfl <;> rfl)) (Nat.le_of_ble_eq_true rfl) dX7_init_16 (fun H locs F3 eF3 hP hS => ?_)
  have eF3 : F3 = va_up F2 h0 (.inr (6, [.int n, .int w, .int re])) := eF3
  have hFh0_3 : F3 h0 = .inr (6, [.int n, .int w, .int re]) := by rw [eF3]; exact va_up_self _ _ _
  exact W.vret hx hb hr (fun t ht hW => ⟨⟨F3, rfl, (by rw [eF3, eF2, eF1, upup, upup]), (by show va_P _ _ _ t.heap; rw [ht]; exact hP)⟩, hS.F ht⟩) hS.2.2 dX7_init_19

set_option maxHeartbeats 8000000 in
set_option maxRecDepth 100000 in
theorem c_X5_init_log (l : Launch) (G : va_G) (cy : Nat → ClassId) (L : List Nat) (F : Nat → va_E) (sz : Nat) (h0 : Nat) (hm : h0 ∈ L) (hF : F h0 = .inr (3, [.int 0, .int 0, .null]))  : Met l yX5_init wsX5_init ({ frames := 1, cells := 0, slots := 0, locals := 20 }) (va_Pc [.ref h0] (fun U => bQ G cy L F sz U U.heap)) (va_Qv (fun F' : Nat → va_E => F' = va_up F h0 (.inr (3, [.int (-1), .int 0, .null]))) (fun F' t => va_P G vwCl (va_pl L F') t.heap) (va_A (va_pl L F) sz)) 0 0 (va_A (va_pl L F) sz) := by
  refine Met.ofW (cc := cX5_init) (maxL := 1) (ret := none) (by decide) rfl ?_
  intro p e s m args below meth c s₁ B hml hv
  obtain ⟨rfl, hsz, hP, hK, hD0⟩ := hv
  have hx := B.exec
  have hb := B.bytes
  have hr := B.returns
  have hts := atoms_spec (ws := wsX5_init) B.pre
  have hown : s.vm.findClass RX5 = some m.cls := findClass_of_methodNamed B.named
  have hlocks := B.notSynchronized
  have hinX3 : ∀ w ∈ wsX30, w ∈ wsX5_init := by decide +kernel
  have hinX6 : ∀ w ∈ wsX60, w ∈ wsX5_init := by decide +kernel
  subst hsz
  have hD := hD0.self F s.heap.size
  generalize hAe : va_A (va_pl L F) s.heap.size = A at hD ⊢
  have hA : ∀ q : Nat, s.heap.size ≤ q → A q := fun q h => by rw [← hAe]; exact Or.inr h
  have hS : va_S A s.heap s.heap [] := va_S.rf
  have hin2 : meth.name = "<init>" := (name_of_methodNamed B.named B.method).1
  have hl := lv_entry ([.ref h0]) (n := 1) (Nat.le_of_ble_eq_true rfl)
  rw [lg_entry_eq]
  generalize (lg_sl ([.ref h0]) ++ List.replicate (1 - (lg_sl ([.ref h0])).length) Slot.unset).toArray = ls at hl ⊢
  have hl : lv_has ls 1 [(0, .ref h0)] := hl
  refine lv_aload_n hx hb dX5_init_0 rfl (lv_at hl 0 rfl) ?_
  refine W.objInit hx hb hown (hts (.methodLink RX5 3 objectInit) (by decide +kernel)) (hts (.instanceMethod objectInit) (by decide +kernel)) (hts (.code objectInit ⟨#[0xb1]⟩ 1 none) (by decide +kernel)) rfl (by rw [hml]; exact hl.1) rfl dX5_init_1 (Nat.le_of_ble_eq_true rfl) (Nat.le_of_ble_eq_true rfl) ?_
  refine W.eq (g2 := F0 m 4 ls []) rfl ?_
  refine lv_aload_n hx hb dX5_init_4 rfl (lv_at hl 0 rfl) ?_
  refine lv_iconst (v := -1) hx hb dX5_init_5 (by decide) ?_
  refine pg_put (ci := 3) (v := .int (-1)) (ty := .int) (C := RX3) (T := TX3) (N := 3) hx hb hts hinX3 tyX3 tyX3_ok nmX3 hown hK hP hD hS hm hF rfl 0 (by decide) (hts (.fieldLink RX5 9 "RopeDrums$Places" "size" "I") (by decide +kernel)) (fun _ h9 => h9) rfl (by decide +kernel) (rfl) (rfl) (Nat.le_of_ble_eq_true rfl) dX5_init_6 (fun H locs F1 eF1 hP hS => ?_)
  have eF1 : F1 = va_up F h0 (.inr (3, [.int (-1), .int 0, .null])) := eF1
  have hFh0_1 : F1 h0 = .inr (3, [.int (-1), .int 0, .null]) := by rw [eF1]; exact va_up_self _ _ _
  exact W.vret hx hb hr (fun t ht hW => ⟨⟨F1, rfl, (by rw [eF1]), (by show va_P _ _ _ t.heap; rw [ht]; exact hP)⟩, hS.F ht⟩) hS.2.2 dX5_init_9

set_option maxHeartbeats 8000000 in
set_option maxRecDepth 100000 in
theorem c_X5_init_rack (l : Launch) (G : va_G) (cy : Nat → ClassId) (L : List Nat) (F : Nat → va_E) (sz : Nat) (h0 : Nat) (hm : h0 ∈ L) (hF : F h0 = .inr (5, [.int 0, .null, .int 0]))  : Met l yX5_init wsX5_init ({ frames := 1, cells := 0, slots := 0, locals := 20 }) (va_Pc [.ref h0] (fun U => bQ G cy L F sz U U.heap)) (va_Qv (fun F' : Nat → va_E => F' = va_up F h0 (.inr (5, [.int (-1), .null, .int 0]))) (fun F' t => va_P G vwCl (va_pl L F') t.heap) (va_A (va_pl L F) sz)) 0 0 (va_A (va_pl L F) sz) := by
  refine Met.ofW (cc := cX5_init) (maxL := 1) (ret := none) (by decide) rfl ?_
  intro p e s m args below meth c s₁ B hml hv
  obtain ⟨rfl, hsz, hP, hK, hD0⟩ := hv
  have hx := B.exec
  have hb := B.bytes
  have hr := B.returns
  have hts := atoms_spec (ws := wsX5_init) B.pre
  have hown : s.vm.findClass RX5 = some m.cls := findClass_of_methodNamed B.named
  have hlocks := B.notSynchronized
  have hinX3 : ∀ w ∈ wsX30, w ∈ wsX5_init := by decide +kernel
  have hinX6 : ∀ w ∈ wsX60, w ∈ wsX5_init := by decide +kernel
  subst hsz
  have hD := hD0.self F s.heap.size
  generalize hAe : va_A (va_pl L F) s.heap.size = A at hD ⊢
  have hA : ∀ q : Nat, s.heap.size ≤ q → A q := fun q h => by rw [← hAe]; exact Or.inr h
  have hS : va_S A s.heap s.heap [] := va_S.rf
  have hin2 : meth.name = "<init>" := (name_of_methodNamed B.named B.method).1
  have hl := lv_entry ([.ref h0]) (n := 1) (Nat.le_of_ble_eq_true rfl)
  rw [lg_entry_eq]
  generalize (lg_sl ([.ref h0]) ++ List.replicate (1 - (lg_sl ([.ref h0])).length) Slot.unset).toArray = ls at hl ⊢
  have hl : lv_has ls 1 [(0, .ref h0)] := hl
  refine lv_aload_n hx hb dX5_init_0 rfl (lv_at hl 0 rfl) ?_
  refine W.objInit hx hb hown (hts (.methodLink RX5 3 objectInit) (by decide +kernel)) (hts (.instanceMethod objectInit) (by decide +kernel)) (hts (.code objectInit ⟨#[0xb1]⟩ 1 none) (by decide +kernel)) rfl (by rw [hml]; exact hl.1) rfl dX5_init_1 (Nat.le_of_ble_eq_true rfl) (Nat.le_of_ble_eq_true rfl) ?_
  refine W.eq (g2 := F0 m 4 ls []) rfl ?_
  refine lv_aload_n hx hb dX5_init_4 rfl (lv_at hl 0 rfl) ?_
  refine lv_iconst (v := -1) hx hb dX5_init_5 (by decide) ?_
  refine pg_put (ci := 5) (v := .int (-1)) (ty := .int) (C := RX6) (T := TX6) (N := 3) hx hb hts hinX6 tyX6 tyX6_ok nmX6 hown hK hP hD hS hm hF rfl 0 (by decide) (hts (.fieldLink RX5 9 "RopeDrums$Places" "size" "I") (by decide +kernel)) (fun _ h9 => h9) rfl (by decide +kernel) (rfl) (rfl) (Nat.le_of_ble_eq_true rfl) dX5_init_6 (fun H locs F1 eF1 hP hS => ?_)
  have eF1 : F1 = va_up F h0 (.inr (5, [.int (-1), .null, .int 0])) := eF1
  have hFh0_1 : F1 h0 = .inr (5, [.int (-1), .null, .int 0]) := by rw [eF1]; exact va_up_self _ _ _
  exact W.vret hx hb hr (fun t ht hW => ⟨⟨F1, rfl, (by rw [eF1]), (by show va_P _ _ _ t.heap; rw [ht]; exact hP)⟩, hS.F ht⟩) hS.2.2 dX5_init_9

theorem up3 {F : Nat → va_E} {L : List Nat} {h0 r : Nat} {x1 x2 x3 y : va_E} (hr : r ∉ L) (hm : h0 ∈ L) : va_up (va_up (va_up (va_up F h0 x1) r y) h0 x2) h0 x3 = va_up (va_up F r y) h0 x3 := by
  have hne : r ≠ h0 := fun z => hr (by rw [z]; exact hm)
  funext i
  unfold va_up
  by_cases a : i = h0
  · simp [a]
  · simp [a]

set_option maxHeartbeats 8000000 in
set_option maxRecDepth 100000 in
theorem c_X3_init (l : Launch) (G : va_G) (cy : Nat → ClassId) (L : List Nat) (F : Nat → va_E) (sz : Nat) (h0 : Nat) (ln : Int32) (hm : h0 ∈ L) (hF : F h0 = .inr (3, [.int 0, .int 0, .null]))  : Met l yX3_init wsX3_init ({ frames := 2, cells := 1, slots := 16, locals := 40 }) (va_Pc [.ref h0, .int ln] (fun U => bQZ G cy L F sz U U.heap)) (va_Qv (fun u : List Nat × (Nat → va_E) => ∃ r, r ∉ L ∧ u.1 = L ++ [r] ∧ u.2 = va_up (va_up F r (cD (cy 0) 16 (fun _ => 0))) h0 (.inr (3, [.int (-1), .int ln, .ref r])) ∧ pD (va_A (va_pl L F) sz) u.1) (fun u t => va_P G vwCl (va_pl u.1 u.2) t.heap) (va_A (va_pl L F) sz)) 1 16 (va_A (va_pl L F) sz) := by
  refine Met.ofW (cc := cX3_init) (maxL := 2) (ret := none) (by decide) rfl ?_
  intro p e s m args below meth c s₁ B hml hv
  obtain ⟨rfl, ⟨hsz, hP, hK, hD0⟩, hZ⟩ := hv
  have hx := B.exec
  have hb := B.bytes
  have hr := B.returns
  have hts := atoms_spec (ws := wsX3_init) B.pre
  have hown : s.vm.findClass RX3 = some m.cls := findClass_of_methodNamed B.named
  have hlocks := B.notSynchronized
  have hinX3 : ∀ w ∈ wsX30, w ∈ wsX3_init := by decide +kernel
  have hinX6 : ∀ w ∈ wsX60, w ∈ wsX3_init := by decide +kernel
  have hin2 : meth.name = "<init>" := (name_of_methodNamed B.named B.method).1
  subst hsz
  have hD := hD0.self F s.heap.size
  generalize hAe : va_A (va_pl L F) s.heap.size = A at hD ⊢
  have hA : ∀ q : Nat, s.heap.size ≤ q → A q := fun q h => by rw [← hAe]; exact Or.inr h
  have hS : va_S A s.heap s.heap [] := va_S.rf
  have hl := lv_entry ([.ref h0, .int ln]) (n := 2) (Nat.le_of_ble_eq_true rfl)
  rw [lg_entry_eq]
  generalize (lg_sl ([.ref h0, .int ln]) ++ List.replicate (2 - (lg_sl ([.ref h0, .int ln])).length) Slot.unset).toArray = ls at hl ⊢
  have hl : lv_has ls 2 [(0, .ref h0), (1, .int ln)] := hl
  refine lv_aload_n hx hb dX3_init_0 rfl (lv_at hl 0 rfl) ?_
  refine va_callv (va_runIN (As := []) (rest := []) ⟨hx, hb, hml, hown, hts⟩ (c_X5_init_log l G cy L F s.heap.size h0 hm hF) (⟨va_cnB 0 hts gX3_init_X5_init_n3 rfl rfl rfl hZ.1.2.2.2.2.1 (hts (.initialized RX5) (by decide +kernel)) (by decide +kernel) ⟨Nat.le_of_ble_eq_true rfl, Nat.le_of_ble_eq_true rfl⟩, rfl, hts (.instanceMethod yX5_init) (by decide +kernel)⟩) (preS_of okQ (⟨rfl, hP, hK, hD.top⟩)) rfl rfl hl.1 rfl (lv_room (Nat.le_of_ble_eq_true rfl)) dX3_init_1 ⟨Nat.le_of_ble_eq_true rfl, Nat.le_of_ble_eq_true rfl⟩) hS (fun q _ h => pl_free hD hS hA q h) (pl_free hD hS hA) (fun F1 t H1 locs ht hvm hw hP1 hz1 hk1 hS => ?_)
  have hP1 : va_P G vwCl (va_pl L F1) t.heap := hP1
  rw [ht] at hP1
  have hP := hP1
  generalize H1 = H at hP hS ⊢
  have eF1 : F1 = va_up F h0 (.inr (3, [.int (-1), .int 0, .null])) := hw
  have hFh0_1 : F1 h0 = .inr (3, [.int (-1), .int 0, .null]) := by rw [eF1]; exact va_up_self _ _ _
  refine lv_aload_n hx hb dX3_init_4 rfl (lv_at hl 0 rfl) ?_
  refine lv_bipush (v := 16) hx hb dX3_init_5 (by decide) ?_
  refine pg_newa (N' := 16) (atype := .double) (ty := .double) hx hb (hts (.arrayClass .double) (by decide +kernel)) rfl hK 0 rfl hP hD hS hA (16, .inr (.inr (.inr (.inl (fun _ => 0))))) (fun cA => by rw [vp_cell_d] <;> rfl) (by decide) rfl (by decide) (Nat.le_of_ble_eq_true rfl) (Nat.le_of_ble_eq_true rfl) dX3_init_7 (fun q2 H F3 L4 hnq2 eF3 eL4 hP hD hS => ?_)
  have hmh0_4 : h0 ∈ L4 := by rw [eL4]; exact List.mem_append_left _ hm
  have hFh0_4 : F3 h0 = .inr (3, [.int (-1), .int 0, .null]) := by rw [eF3, va_up_ne _ _ (fun z => hnq2 (by rw [← z]; exact hm))]; exact hFh0_1
  have hmq2 : q2 ∈ L4 := by rw [eL4]; exact List.mem_append_right _ (List.mem_singleton.mpr rfl)
  have hFq2 : F3 q2 = cD (cy 0) 16 (fun _ => 0) := by rw [eF3]; exact va_up_self _ _ _
  refine pg_putF (ci := 3) (v := .ref q2) (ty := (.array .double)) (C := RX3) (T := TX3) (N := 3) hx hb hts hinX3 tyX3 tyX3_ok nmX3 hown hK hP hD hS hmh0_4 hFh0_4 rfl 2 (by decide) (hts (.fieldLink RX3 9 "RopeDrums$Log" "row" "[D") (by decide +kernel)) (fun _ h9 => h9) rfl hin2 rfl (by decide +kernel) (rfl) (rfl) (Nat.le_of_ble_eq_true rfl) dX3_init_9 (fun H locs F5 eF5 hP hS => ?_)
  have eF5 : F5 = va_up F3 h0 (.inr (3, [.int (-1), .int 0, .ref q2])) := eF5
  have hFh0_5 : F5 h0 = .inr (3, [.int (-1), .int 0, .ref q2]) := by rw [eF5]; exact va_up_self _ _ _
  have hFq2_5 : F5 q2 = cD (cy 0) 16 (fun _ => 0) := by rw [eF5, va_up_ne _ _ (pl_ne hFq2 hFh0_4 rfl)]; exact hFq2
  refine lv_aload_n hx hb dX3_init_12 rfl (lv_at hl 0 rfl) ?_
  refine lv_iload_n hx hb dX3_init_13 rfl (lv_at hl 1 rfl) ?_
  refine pg_putF (ci := 3) (v := .int ln) (ty := .int) (C := RX3) (T := TX3) (N := 3) hx hb hts hinX3 tyX3 tyX3_ok nmX3 hown hK hP hD hS hmh0_4 hFh0_5 rfl 1 (by decide) (hts (.fieldLink RX3 15 "RopeDrums$Log" "lane" "I") (by decide +kernel)) (fun _ h9 => h9) rfl hin2 rfl (by decide +kernel) (rfl) (rfl) (Nat.le_of_ble_eq_true rfl) dX3_init_14 (fun H locs F6 eF6 hP hS => ?_)
  have eF6 : F6 = va_up F5 h0 (.inr (3, [.int (-1), .int ln, .ref q2])) := eF6
  have hFh0_6 : F6 h0 = .inr (3, [.int (-1), .int ln, .ref q2]) := by rw [eF6]; exact va_up_self _ _ _
  have hFq2_6 : F6 q2 = cD (cy 0) 16 (fun _ => 0) := by rw [eF6, va_up_ne _ _ (pl_ne hFq2_5 hFh0_5 rfl)]; exact hFq2_5
  refine W.widen (k := 1) (n := 16) (Nat.le_of_ble_eq_true rfl) (Nat.le_of_ble_eq_true rfl) ?_
  exact W.vret hx hb hr (fun t ht hW => ⟨⟨(L4, F6), rfl, ⟨q2, hnq2, eL4, (by rw [eF6, eF5, eF3, eF1]; exact up3 hnq2 hm), hD⟩, (by show va_P _ _ _ t.heap; rw [ht]; exact hP)⟩, hS.F ht⟩) hS.2.2 dX3_init_17

set_option maxHeartbeats 8000000 in
set_option maxRecDepth 100000 in
theorem c_X6_init (l : Launch) (G : va_G) (cy : Nat → ClassId) (L : List Nat) (F : Nat → va_E) (sz : Nat) (h0 : Nat) (hm : h0 ∈ L) (hF : F h0 = .inr (5, [.int 0, .null, .int 0]))  : Met l yX6_init wsX6_init ({ frames := 2, cells := 1, slots := 12, locals := 40 }) (va_Pc [.ref h0] (fun U => bQZ G cy L F sz U U.heap)) (va_Qv (fun u : List Nat × (Nat → va_E) => ∃ r, r ∉ L ∧ u.1 = L ++ [r] ∧ u.2 = va_up (va_up F r (cQ (cy 9) 12 (fun _ => none))) h0 (.inr (5, [.int (-1), .ref r, .int 0])) ∧ pD (va_A (va_pl L F) sz) u.1) (fun u t => va_P G vwCl (va_pl u.1 u.2) t.heap) (va_A (va_pl L F) sz)) 1 12 (va_A (va_pl L F) sz) := by
  refine Met.ofW (cc := cX6_init) (maxL := 1) (ret := none) (by decide) rfl ?_
  intro p e s m args below meth c s₁ B hml hv
  obtain ⟨rfl, ⟨hsz, hP, hK, hD0⟩, hZ⟩ := hv
  have hx := B.exec
  have hb := B.bytes
  have hr := B.returns
  have hts := atoms_spec (ws := wsX6_init) B.pre
  have hown : s.vm.findClass RX6 = some m.cls := findClass_of_methodNamed B.named
  have hlocks := B.notSynchronized
  have hinX3 : ∀ w ∈ wsX30, w ∈ wsX6_init := by decide +kernel
  have hinX6 : ∀ w ∈ wsX60, w ∈ wsX6_init := by decide +kernel
  have hin2 : meth.name = "<init>" := (name_of_methodNamed B.named B.method).1
  subst hsz
  have hD := hD0.self F s.heap.size
  generalize hAe : va_A (va_pl L F) s.heap.size = A at hD ⊢
  have hA : ∀ q : Nat, s.heap.size ≤ q → A q := fun q h => by rw [← hAe]; exact Or.inr h
  have hS : va_S A s.heap s.heap [] := va_S.rf
  have hl := lv_entry ([.ref h0]) (n := 1) (Nat.le_of_ble_eq_true rfl)
  rw [lg_entry_eq]
  generalize (lg_sl ([.ref h0]) ++ List.replicate (1 - (lg_sl ([.ref h0])).length) Slot.unset).toArray = ls at hl ⊢
  have hl : lv_has ls 1 [(0, .ref h0)] := hl
  refine lv_aload_n hx hb dX6_init_0 rfl (lv_at hl 0 rfl) ?_
  refine va_callv (va_runIN (As := []) (rest := []) ⟨hx, hb, hml, hown, hts⟩ (c_X5_init_rack l G cy L F s.heap.size h0 hm hF) (⟨va_cnB 0 hts gX6_init_X5_init_n3 rfl rfl rfl hZ.1.2.2.2.2.2 (hts (.initialized RX5) (by decide +kernel)) (by decide +kernel) ⟨Nat.le_of_ble_eq_true rfl, Nat.le_of_ble_eq_true rfl⟩, rfl, hts (.instanceMethod yX5_init) (by decide +kernel)⟩) (preS_of okQ (⟨rfl, hP, hK, hD.top⟩)) rfl rfl hl.1 rfl (lv_room (Nat.le_of_ble_eq_true rfl)) dX6_init_1 ⟨Nat.le_of_ble_eq_true rfl, Nat.le_of_ble_eq_true rfl⟩) hS (fun q _ h => pl_free hD hS hA q h) (pl_free hD hS hA) (fun F1 t H1 locs ht hvm hw hP1 hz1 hk1 hS => ?_)
  have hP1 : va_P G vwCl (va_pl L F1) t.heap := hP1
  rw [ht] at hP1
  have hP := hP1
  generalize H1 = H at hP hS ⊢
  have eF1 : F1 = va_up F h0 (.inr (5, [.int (-1), .null, .int 0])) := hw
  have hFh0_1 : F1 h0 = .inr (5, [.int (-1), .null, .int 0]) := by rw [eF1]; exact va_up_self _ _ _
  refine lv_aload_n hx hb dX6_init_4 rfl (lv_at hl 0 rfl) ?_
  refine lv_bipush (v := 12) hx hb dX6_init_5 (by decide) ?_
  refine pg_newq (C := RX7) (N' := 12) hx hb hown (hts (.classLink RX6 9 RX7) (by decide +kernel)) hZ.2.2.2.2.2.2 hK 9 rfl hP hD hS hA (by decide) rfl (by decide) (Nat.le_of_ble_eq_true rfl) (Nat.le_of_ble_eq_true rfl) dX6_init_7 (fun q2 H F3 L4 hnq2 eF3 eL4 hP hD hS => ?_)
  have hmh0_4 : h0 ∈ L4 := by rw [eL4]; exact List.mem_append_left _ hm
  have hFh0_4 : F3 h0 = .inr (5, [.int (-1), .null, .int 0]) := by rw [eF3, va_up_ne _ _ (fun z => hnq2 (by rw [← z]; exact hm))]; exact hFh0_1
  have hmq2 : q2 ∈ L4 := by rw [eL4]; exact List.mem_append_right _ (List.mem_singleton.mpr rfl)
  have hFq2 : F3 q2 = cQ (cy 9) 12 (fun _ => none) := by rw [eF3]; exact va_up_self _ _ _
  refine pg_putF (ci := 5) (v := .ref q2) (ty := (.array (.object "RopeDrums$Spool"))) (C := RX6) (T := TX6) (N := 3) hx hb hts hinX6 tyX6 tyX6_ok nmX6 hown hK hP hD hS hmh0_4 hFh0_4 rfl 1 (by decide) (hts (.fieldLink RX6 11 "RopeDrums$Rack" "row" "[LRopeDrums$Spool;") (by decide +kernel)) (fun _ h9 => h9) rfl hin2 rfl (by decide +kernel) (rfl) (rfl) (Nat.le_of_ble_eq_true rfl) dX6_init_10 (fun H locs F5 eF5 hP hS => ?_)
  have eF5 : F5 = va_up F3 h0 (.inr (5, [.int (-1), .ref q2, .int 0])) := eF5
  have hFh0_5 : F5 h0 = .inr (5, [.int (-1), .ref q2, .int 0]) := by rw [eF5]; exact va_up_self _ _ _
  have hFq2_5 : F5 q2 = cQ (cy 9) 12 (fun _ => none) := by rw [eF5, va_up_ne _ _ (pl_ne hFq2 hFh0_4 rfl)]; exact hFq2
  refine lv_aload_n hx hb dX6_init_13 rfl (lv_at hl 0 rfl) ?_
  refine lv_iconst (v := 0) hx hb dX6_init_14 (by decide) ?_
  refine pg_put (ci := 5) (v := .int 0) (ty := .boolean) (C := RX6) (T := TX6) (N := 3) hx hb hts hinX6 tyX6 tyX6_ok nmX6 hown hK hP hD hS hmh0_4 hFh0_5 rfl 2 (by decide) (hts (.fieldLink RX6 17 "RopeDrums$Rack" "reelsAlone" "Z") (by decide +kernel)) (fun _ h9 => h9) rfl (by decide +kernel) (rfl) (rfl) (Nat.le_of_ble_eq_true rfl) dX6_init_15 (fun H locs F6 eF6 hP hS => ?_)
  have eF6 : F6 = va_up F5 h0 (.inr (5, [.int (-1), .ref q2, .int 0])) := eF6
  have hFh0_6 : F6 h0 = .inr (5, [.int (-1), .ref q2, .int 0]) := by rw [eF6]; exact va_up_self _ _ _
  have hFq2_6 : F6 q2 = cQ (cy 9) 12 (fun _ => none) := by rw [eF6, va_up_ne _ _ (pl_ne hFq2_5 hFh0_5 rfl)]; exact hFq2_5
  refine W.widen (k := 1) (n := 12) (Nat.le_of_ble_eq_true rfl) (Nat.le_of_ble_eq_true rfl) ?_
  exact W.vret hx hb hr (fun t ht hW => ⟨⟨(L4, F6), rfl, ⟨q2, hnq2, eL4, (by rw [eF6, eF5, eF3, eF1]; exact up3 hnq2 hm), hD⟩, (by show va_P _ _ _ t.heap; rw [ht]; exact hP)⟩, hS.F ht⟩) hS.2.2 dX6_init_18

set_option maxHeartbeats 8000000 in
set_option maxRecDepth 100000 in
theorem m_spool (l : Launch) (G : va_G) (cy : Nat → ClassId) (L : List Nat) (F : Nat → va_E) (sz : Nat) (o : Nat) (qa : Nat → Nat → Nat) (Mm : SM) (Dd : SD) (Sl : SL) (Pp : SP) (Kr : SR) (Bk : SB) (Xx : SX) (hR : Rep cy L o qa Mm Dd Sl Pp Kr Bk Xx F) (wt re : Int32) (hre : re = 0 ∨ re = 1)  : Met l yX8_spool wsX8_spool ({ frames := 2, cells := 1, slots := 3, locals := 43 }) (va_Pc [.ref o, .int wt, .int re] (fun U => bQ G cy L F sz U U.heap)) (va_Qi (fun (r : Int32) (u : List Nat × (Nat → va_E)) => ∃ qb, (r = (sp_spool Pp wt re).1 ∧ Rep cy u.1 o qb Mm Dd Sl (sp_spool Pp wt re).2 Kr Bk Xx u.2) ∧ pD (va_A (va_pl L F) sz) u.1) (fun u t => va_P G vwCl (va_pl u.1 u.2) t.heap) (va_A (va_pl L F) sz)) 1 3 (va_A (va_pl L F) sz) := by
  refine Met.ofW (cc := cX8_spool) (maxL := 4) (ret := (some .int)) (by decide) rfl ?_
  intro p e s m args below meth c s₁ B hml hv
  obtain ⟨rfl, hsz, hP, hK, hD0⟩ := hv
  have hx := B.exec
  have hb := B.bytes
  have hr := B.returns
  have hts := atoms_spec (ws := wsX8_spool) B.pre
  have hown : s.vm.findClass RX8 = some m.cls := findClass_of_methodNamed B.named
  have hlocks := B.notSynchronized
  have hinX8 : ∀ w ∈ wsX80, w ∈ wsX8_spool := by decide +kernel
  have hinX7 : ∀ w ∈ wsX70, w ∈ wsX8_spool := by decide +kernel
  subst hsz
  have hD := hD0.self F s.heap.size
  generalize hAe : va_A (va_pl L F) s.heap.size = A at hD ⊢
  have hA : ∀ q : Nat, s.heap.size ≤ q → A q := fun q h => by rw [← hAe]; exact Or.inr h
  have hS : va_S A s.heap s.heap [] := va_S.rf
  obtain ⟨⟨⟨hmo, hFo⟩, ⟨hmf, hFf⟩, hms, hFs⟩, ⟨⟨hm0, hF0⟩, ⟨hm1, hF1⟩, ⟨hm2, hF2⟩, ⟨hm4, hF4⟩, hm5, hF5⟩, hRM, hRD, hRG, hRP, hRR, hRB, hRI⟩ := id hR
  have hl := lv_entry ([.ref o, .int wt, .int re]) (n := 4) (Nat.le_of_ble_eq_true rfl)
  rw [lg_entry_eq]
  generalize (lg_sl ([.ref o, .int wt, .int re]) ++ List.replicate (4 - (lg_sl ([.ref o, .int wt, .int re])).length) Slot.unset).toArray = ls at hl ⊢
  have hl : lv_has ls 4 [(0, .ref o), (1, .int wt), (2, .int re)] := hl
  refine lv_iload_n hx hb dX8_spool_0 rfl (lv_at hl 1 rfl) ?_
  refine lv_if_lt (tgt := 10) hx hb dX8_spool_1 (by decide) (fun c1 => ?_) (fun c1 => ?_)
  · refine lv_sipush (v := -1002) hx hb dX8_spool_10 (by decide) ?_
    refine W.widen (k := 1) (n := 3) (Nat.le_of_ble_eq_true rfl) (Nat.le_of_ble_eq_true rfl) ?_
    exact W.iret (v := -1002) hx hb hr (fun t ht hW => ⟨⟨-1002, (L, F), rfl, ⟨qa, (by have hsp : sp_spool Pp wt re = (-1002, Pp) := (by unfold sp_spool; exact if_neg (by intro hq; have hc := c1; have h0 : (0 : Int32).toInt = 0 := (by decide); have hk : (100000 : Int32).toInt = 100000 := (by decide); rw [fa_lt] at hc; omega)); rw [hsp]; exact ⟨rfl, hR⟩), hD⟩, (by show va_P _ _ _ t.heap; rw [ht]; exact hP)⟩, hS.F ht⟩) hS.2.2 dX8_spool_13
  · refine lv_iload_n hx hb dX8_spool_4 rfl (lv_at hl 1 rfl) ?_
    refine lv_ldc hx hb hown (hts (.constant RX8 224 (100000)) (by decide +kernel)) dX8_spool_5 ?_
    refine lv_icmp_le (tgt := 14) hx hb dX8_spool_7 (by decide) (fun c2 => ?_) (fun c2 => ?_)
    · refine lv_aload_n hx hb dX8_spool_14 rfl (lv_at hl 0 rfl) ?_
      refine pg_get (ci := 7) (C := RX8) (T := TX8) (N := 9) hx hb hts hinX8 hown hK hP hmo hFo rfl 7 (by decide) (hts (.fieldLink RX8 49 "RopeDrums" "spoolCount" "I") (by decide +kernel)) (fun _ h9 => h9) rfl dX8_spool_15 ?_
      refine lv_bipush (v := 30) hx hb dX8_spool_18 (by decide) ?_
      refine lv_icmp_lt (tgt := 27) hx hb dX8_spool_20 (by decide) (fun c3 => ?_) (fun c3 => ?_)
      · refine lv_aload_n hx hb dX8_spool_27 rfl (lv_at hl 0 rfl) ?_
        refine pg_get (ci := 7) (C := RX8) (T := TX8) (N := 9) hx hb hts hinX8 hown hK hP hmo hFo rfl 7 (by decide) (hts (.fieldLink RX8 49 "RopeDrums" "spoolCount" "I") (by decide +kernel)) (fun _ h9 => h9) rfl dX8_spool_28 ?_
        refine lv_istore_n (lv' := [(3, .int Pp.1), (0, .ref o), (1, .int wt), (2, .int re)]) hx hb dX8_spool_31 rfl hl (by decide) rfl (fun ls hl => ?_)
        refine lv_aload_n hx hb dX8_spool_32 rfl (lv_at hl 1 rfl) ?_
        refine pg_get (ci := 7) (C := RX8) (T := TX8) (N := 9) hx hb hts hinX8 hown hK hP hmo hFo rfl 3 (by decide) (hts (.fieldLink RX8 29 "RopeDrums" "spools" "[LRopeDrums$Spool;") (by decide +kernel)) (fun _ h9 => h9) rfl dX8_spool_33 ?_
        refine lv_iload_n hx hb dX8_spool_36 rfl (lv_at hl 0 rfl) ?_
        refine pg_newo (ci := 6) (T := TX7) (N := 3) hx hb hts hinX7 tyX7 tyX7_ok hown (hts (.classLink RX8 27 RX7) (by decide +kernel)) (hts (.instantiable RX7 3) (by decide +kernel)) (hts (.initialized RX7) (by decide +kernel)) hK hP hD hS hA rfl [.int 0, .int 0, .int 0] (by decide +kernel) (Nat.le_of_ble_eq_true rfl) (Nat.le_of_ble_eq_true rfl) dX8_spool_37 (fun q4 H F5 L6 hnq4 eF5 eL6 hP hD hS => ?_)
        have hmo_6 : o ∈ L6 := by rw [eL6]; exact List.mem_append_left _ hmo
        have hFo_6 : F5 o = .inr (7, [.ref (qa 8 0), .ref (qa 8 1), .ref (qa 8 2), .ref (qa 8 3), .ref (qa 8 4), .ref (qa 8 5), .ref (qa 8 6), .int Pp.1, .int Xx.1]) := by rw [eF5, va_up_ne _ _ (fun z => hnq4 (by rw [← z]; exact hmo))]; exact hFo
        have hmqa80_6 : (qa 8 0) ∈ L6 := by rw [eL6]; exact List.mem_append_left _ hm0
        have hFqa80_6 : F5 (qa 8 0) = cQ (cy 7) 10 (pR 10 (qa 0)) := by rw [eF5, va_up_ne _ _ (fun z => hnq4 (by rw [← z]; exact hm0))]; exact hF0
        have hmqa81_6 : (qa 8 1) ∈ L6 := by rw [eL6]; exact List.mem_append_left _ hm1
        have hFqa81_6 : F5 (qa 8 1) = cQ (cy 5) 6 (pR 6 (qa 1)) := by rw [eF5, va_up_ne _ _ (fun z => hnq4 (by rw [← z]; exact hm1))]; exact hF1
        have hmqa82_6 : (qa 8 2) ∈ L6 := by rw [eL6]; exact List.mem_append_left _ hm2
        have hFqa82_6 : F5 (qa 8 2) = cQ (cy 6) 8 (pR 8 (qa 2)) := by rw [eF5, va_up_ne _ _ (fun z => hnq4 (by rw [← z]; exact hm2))]; exact hF2
        have hmqa83_6 : (qa 8 3) ∈ L6 := by rw [eL6]; exact List.mem_append_left _ hms
        have hFqa83_6 : F5 (qa 8 3) = cQ (cy 9) 30 (pR Pp.1.toInt.toNat (qa 7)) := by rw [eF5, va_up_ne _ _ (fun z => hnq4 (by rw [← z]; exact hms))]; exact hFs
        have hmqa84_6 : (qa 8 4) ∈ L6 := by rw [eL6]; exact List.mem_append_left _ hm4
        have hFqa84_6 : F5 (qa 8 4) = cQ (cy 8) 5 (pR 5 (qa 4)) := by rw [eF5, va_up_ne _ _ (fun z => hnq4 (by rw [← z]; exact hm4))]; exact hF4
        have hmqa85_6 : (qa 8 5) ∈ L6 := by rw [eL6]; exact List.mem_append_left _ hm5
        have hFqa85_6 : F5 (qa 8 5) = cQ (cy 4) 4 (pR 4 (qa 6)) := by rw [eF5, va_up_ne _ _ (fun z => hnq4 (by rw [← z]; exact hm5))]; exact hF5
        have hmqa86_6 : (qa 8 6) ∈ L6 := by rw [eL6]; exact List.mem_append_left _ hmf
        have hFqa86_6 : F5 (qa 8 6) = cI (cy 1) 6 Xx.2 := by rw [eF5, va_up_ne _ _ (fun z => hnq4 (by rw [← z]; exact hmf))]; exact hFf
        have hmq4 : q4 ∈ L6 := by rw [eL6]; exact List.mem_append_right _ (List.mem_singleton.mpr rfl)
        have hFq4 : F5 q4 = .inr (6, [.int 0, .int 0, .int 0]) := by rw [eF5]; exact va_up_self _ _ _
        refine lv_dup hx hb dX8_spool_40 rfl ?_
        refine lv_iload_n hx hb dX8_spool_41 rfl (lv_at hl 0 rfl) ?_
        refine lv_iload_n hx hb dX8_spool_42 rfl (lv_at hl 2 rfl) ?_
        refine lv_iload_n hx hb dX8_spool_43 rfl (lv_at hl 3 rfl) ?_
        refine va_callv (va_runI (As := [.int Pp.1, .int wt, .int re]) (rest := [.ref q4, .int Pp.1, .ref (qa 8 3)]) ⟨hx, hb, hml, hown, hts⟩ (c_X7_init l G cy L6 F5 H.size q4 Pp.1 wt re hre hmq4 hFq4) (cwI 3 hts gX8_spool_X7_init rfl rfl rfl (hts (.initialized RX7) (by decide +kernel)) (hts (.methodLink RX8 225 yX7_init) (by decide +kernel)) (hts (.instanceMethod yX7_init) (by decide +kernel)) rfl (by decide +kernel) ⟨Nat.le_of_ble_eq_true rfl, Nat.le_of_ble_eq_true rfl⟩) (preS_of okQ (⟨rfl, hP, hK, hD.top⟩)) rfl rfl hl.1 rfl (lv_room (Nat.le_of_ble_eq_true rfl)) dX8_spool_44 ⟨Nat.le_of_ble_eq_true rfl, Nat.le_of_ble_eq_true rfl⟩) hS (fun q _ h => pl_free hD hS hA q h) (pl_free hD hS hA) (fun F7 t H1 locs ht hvm hw hP1 hz1 hk1 hS => ?_)
        have hP1 : va_P G vwCl (va_pl L6 F7) t.heap := hP1
        rw [ht] at hP1
        have hP := hP1
        generalize H1 = H at hP hS ⊢
        have eF7 : F7 = va_up F5 q4 (.inr (6, [.int Pp.1, .int wt, .int re])) := hw
        have hFo_7 : F7 o = .inr (7, [.ref (qa 8 0), .ref (qa 8 1), .ref (qa 8 2), .ref (qa 8 3), .ref (qa 8 4), .ref (qa 8 5), .ref (qa 8 6), .int Pp.1, .int Xx.1]) := by rw [eF7, va_up_ne _ _ (pl_ne hFo_6 hFq4 rfl)]; exact hFo_6
        have hFqa80_7 : F7 (qa 8 0) = cQ (cy 7) 10 (pR 10 (qa 0)) := by rw [eF7, va_up_ne _ _ (pl_ne hFqa80_6 hFq4 rfl)]; exact hFqa80_6
        have hFqa81_7 : F7 (qa 8 1) = cQ (cy 5) 6 (pR 6 (qa 1)) := by rw [eF7, va_up_ne _ _ (pl_ne hFqa81_6 hFq4 rfl)]; exact hFqa81_6
        have hFqa82_7 : F7 (qa 8 2) = cQ (cy 6) 8 (pR 8 (qa 2)) := by rw [eF7, va_up_ne _ _ (pl_ne hFqa82_6 hFq4 rfl)]; exact hFqa82_6
        have hFqa83_7 : F7 (qa 8 3) = cQ (cy 9) 30 (pR Pp.1.toInt.toNat (qa 7)) := by rw [eF7, va_up_ne _ _ (pl_ne hFqa83_6 hFq4 rfl)]; exact hFqa83_6
        have hFqa84_7 : F7 (qa 8 4) = cQ (cy 8) 5 (pR 5 (qa 4)) := by rw [eF7, va_up_ne _ _ (pl_ne hFqa84_6 hFq4 rfl)]; exact hFqa84_6
        have hFqa85_7 : F7 (qa 8 5) = cQ (cy 4) 4 (pR 4 (qa 6)) := by rw [eF7, va_up_ne _ _ (pl_ne hFqa85_6 hFq4 rfl)]; exact hFqa85_6
        have hFqa86_7 : F7 (qa 8 6) = cI (cy 1) 6 Xx.2 := by rw [eF7, va_up_ne _ _ (pl_ne hFqa86_6 hFq4 rfl)]; exact hFqa86_6
        have hFq4_7 : F7 q4 = .inr (6, [.int Pp.1, .int wt, .int re]) := by rw [eF7]; exact va_up_self _ _ _
        refine pg_astq hx hb hK hP hD hS 9 6 hmqa83_6 hFqa83_7 rfl hmq4 hFq4_7 rfl (vp_in_iff.mpr ⟨hRP.1.1, by have hc := c3; rw [fa_lt] at hc; have h30 : (30 : Int32).toInt = 30 := (by decide); omega⟩) dX8_spool_47 (fun H locs F8 eF8 hP hS => ?_)
        have hFo_8 : F8 o = .inr (7, [.ref (qa 8 0), .ref (qa 8 1), .ref (qa 8 2), .ref (qa 8 3), .ref (qa 8 4), .ref (qa 8 5), .ref (qa 8 6), .int Pp.1, .int Xx.1]) := by rw [eF8, va_up_ne _ _ (pl_ne hFo_7 hFqa83_7 rfl)]; exact hFo_7
        have hFqa80_8 : F8 (qa 8 0) = cQ (cy 7) 10 (pR 10 (qa 0)) := by rw [eF8, va_up_ne _ _ (pl_ne hFqa80_7 hFqa83_7 rfl)]; exact hFqa80_7
        have hFqa81_8 : F8 (qa 8 1) = cQ (cy 5) 6 (pR 6 (qa 1)) := by rw [eF8, va_up_ne _ _ (pl_ne hFqa81_7 hFqa83_7 rfl)]; exact hFqa81_7
        have hFqa82_8 : F8 (qa 8 2) = cQ (cy 6) 8 (pR 8 (qa 2)) := by rw [eF8, va_up_ne _ _ (pl_ne hFqa82_7 hFqa83_7 rfl)]; exact hFqa82_7
        have hFqa83_8 : F8 (qa 8 3) = cQ (cy 9) 30 (va_up (pR Pp.1.toInt.toNat (qa 7)) (Pp.1 : Int32).toNatClampNeg (some q4)) := by rw [eF8]; exact va_up_self _ _ _
        have hFqa84_8 : F8 (qa 8 4) = cQ (cy 8) 5 (pR 5 (qa 4)) := by rw [eF8, va_up_ne _ _ (pl_ne hFqa84_7 hFqa83_7 rfl)]; exact hFqa84_7
        have hFqa85_8 : F8 (qa 8 5) = cQ (cy 4) 4 (pR 4 (qa 6)) := by rw [eF8, va_up_ne _ _ (pl_ne hFqa85_7 hFqa83_7 rfl)]; exact hFqa85_7
        have hFqa86_8 : F8 (qa 8 6) = cI (cy 1) 6 Xx.2 := by rw [eF8, va_up_ne _ _ (pl_ne hFqa86_7 hFqa83_7 rfl)]; exact hFqa86_7
        have hFq4_8 : F8 q4 = .inr (6, [.int Pp.1, .int wt, .int re]) := by rw [eF8, va_up_ne _ _ (pl_ne hFq4_7 hFqa83_7 rfl)]; exact hFq4_7
        refine lv_aload_n hx hb dX8_spool_48 rfl (lv_at hl 1 rfl) ?_
        refine lv_dup hx hb dX8_spool_49 rfl ?_
        refine pg_get (ci := 7) (C := RX8) (T := TX8) (N := 9) hx hb hts hinX8 hown hK hP hmo_6 hFo_8 rfl 7 (by decide) (hts (.fieldLink RX8 49 "RopeDrums" "spoolCount" "I") (by decide +kernel)) (fun _ h9 => h9) rfl dX8_spool_50 ?_
        refine lv_iconst (v := 1) hx hb dX8_spool_53 (by decide) ?_
        refine lv_iadd hx hb dX8_spool_54 ?_
        refine lv_topi (fun v9 ev9 => ?_)
        refine pg_put (ci := 7) (v := .int v9) (ty := .int) (C := RX8) (T := TX8) (N := 9) hx hb hts hinX8 tyX8 tyX8_ok nmX8 hown hK hP hD hS hmo_6 hFo_8 rfl 7 (by decide) (hts (.fieldLink RX8 49 "RopeDrums" "spoolCount" "I") (by decide +kernel)) (fun _ h9 => h9) rfl (by decide +kernel) (rfl) (rfl) (Nat.le_of_ble_eq_true rfl) dX8_spool_55 (fun H locs F10 eF10 hP hS => ?_)
        have eF10 : F10 = va_up F8 o (.inr (7, [.ref (qa 8 0), .ref (qa 8 1), .ref (qa 8 2), .ref (qa 8 3), .ref (qa 8 4), .ref (qa 8 5), .ref (qa 8 6), .int v9, .int Xx.1])) := eF10
        have hFo_10 : F10 o = .inr (7, [.ref (qa 8 0), .ref (qa 8 1), .ref (qa 8 2), .ref (qa 8 3), .ref (qa 8 4), .ref (qa 8 5), .ref (qa 8 6), .int v9, .int Xx.1]) := by rw [eF10]; exact va_up_self _ _ _
        have hFqa80_10 : F10 (qa 8 0) = cQ (cy 7) 10 (pR 10 (qa 0)) := by rw [eF10, va_up_ne _ _ (pl_ne hFqa80_8 hFo_8 rfl)]; exact hFqa80_8
        have hFqa81_10 : F10 (qa 8 1) = cQ (cy 5) 6 (pR 6 (qa 1)) := by rw [eF10, va_up_ne _ _ (pl_ne hFqa81_8 hFo_8 rfl)]; exact hFqa81_8
        have hFqa82_10 : F10 (qa 8 2) = cQ (cy 6) 8 (pR 8 (qa 2)) := by rw [eF10, va_up_ne _ _ (pl_ne hFqa82_8 hFo_8 rfl)]; exact hFqa82_8
        have hFqa83_10 : F10 (qa 8 3) = cQ (cy 9) 30 (va_up (pR Pp.1.toInt.toNat (qa 7)) (Pp.1 : Int32).toNatClampNeg (some q4)) := by rw [eF10, va_up_ne _ _ (pl_ne hFqa83_8 hFo_8 rfl)]; exact hFqa83_8
        have hFqa84_10 : F10 (qa 8 4) = cQ (cy 8) 5 (pR 5 (qa 4)) := by rw [eF10, va_up_ne _ _ (pl_ne hFqa84_8 hFo_8 rfl)]; exact hFqa84_8
        have hFqa85_10 : F10 (qa 8 5) = cQ (cy 4) 4 (pR 4 (qa 6)) := by rw [eF10, va_up_ne _ _ (pl_ne hFqa85_8 hFo_8 rfl)]; exact hFqa85_8
        have hFqa86_10 : F10 (qa 8 6) = cI (cy 1) 6 Xx.2 := by rw [eF10, va_up_ne _ _ (pl_ne hFqa86_8 hFo_8 rfl)]; exact hFqa86_8
        have hFq4_10 : F10 q4 = .inr (6, [.int Pp.1, .int wt, .int re]) := by rw [eF10, va_up_ne _ _ (pl_ne hFq4_8 hFo_8 rfl)]; exact hFq4_8
        refine lv_iload_n hx hb dX8_spool_58 rfl (lv_at hl 0 rfl) ?_
        refine W.widen (k := 1) (n := 3) (Nat.le_of_ble_eq_true rfl) (Nat.le_of_ble_eq_true rfl) ?_
        exact W.iret (v := Pp.1) hx hb hr (fun t ht hW => ⟨⟨Pp.1, (L6, F10), rfl, ⟨va_up qa 7 (va_up (qa 7) Pp.1.toInt.toNat q4), (by have hsp : sp_spool Pp wt re = (Pp.1, Pp.1 + 1, upd Pp.2.1 Pp.1.toInt.toNat wt, upd Pp.2.2 Pp.1.toInt.toNat re) := (by unfold sp_spool; rw [if_pos (by have hc1 := c1; have hc2 := c2; have h0 : (0 : Int32).toInt = 0 := (by decide); have hk : (100000 : Int32).toInt = 100000 := (by decide); rw [fa_lt] at hc1; rw [fa_le] at hc2; omega)]; exact if_neg (by have hc := c3; rw [fa_lt] at hc; have h30 : (30 : Int32).toInt = 30 := (by decide); rw [fa_eq]; omega)); rw [hsp]; exact ⟨rfl, hR.spool (by have hc := c3; rw [fa_lt] at hc; have h30 : (30 : Int32).toInt = 30 := (by decide); rw [fa_eq]; omega) (by have hc1 := c1; have hc2 := c2; have h0 : (0 : Int32).toInt = 0 := (by decide); have hk : (100000 : Int32).toInt = 100000 := (by decide); rw [fa_lt] at hc1; rw [fa_le] at hc2; omega) hre ⟨fun b hb9 => (by rw [eL6]; exact List.mem_append_left _ hb9), fun b hb9 hx9 => (by have n1 : b ≠ qa 8 3 := (fun z => hx9 (by rw [z]; exact List.mem_cons_self)); have n2 : b ≠ o := (fun z => hx9 (by rw [z]; exact List.mem_cons_of_mem _ List.mem_cons_self)); have n3 : b ≠ q4 := (fun z => hnq4 (by rw [← z]; exact hb9)); show F10 b = F b; rw [eF10, eF8, eF7, eF5, va_up_ne _ _ n2, va_up_ne _ _ n1, va_up_ne _ _ n3, va_up_ne _ _ n3])⟩ ⟨hmq4, hFq4_10⟩ ⟨hmqa83_6, hFqa83_10⟩ ⟨hmo_6, (by subst ev9; exact hFo_10)⟩⟩), hD⟩, (by show va_P _ _ _ t.heap; rw [ht]; exact hP)⟩, hS.F ht⟩) hS.2.2 dX8_spool_59
      · refine lv_sipush (v := -1003) hx hb dX8_spool_23 (by decide) ?_
        refine W.widen (k := 1) (n := 3) (Nat.le_of_ble_eq_true rfl) (Nat.le_of_ble_eq_true rfl) ?_
        exact W.iret (v := -1003) hx hb hr (fun t ht hW => ⟨⟨-1003, (L, F), rfl, ⟨qa, (by have hsp : sp_spool Pp wt re = (-1003, Pp) := (by unfold sp_spool; rw [if_pos (by have hc1 := c1; have hc2 := c2; have h0 : (0 : Int32).toInt = 0 := (by decide); have hk : (100000 : Int32).toInt = 100000 := (by decide); rw [fa_lt] at hc1; rw [fa_le] at hc2; omega)]; exact if_pos (by have hc := c3; have hpp := hRP.1; rw [fa_lt] at hc; have h30 : (30 : Int32).toInt = 30 := (by decide); rw [fa_eq]; omega)); rw [hsp]; exact ⟨rfl, hR⟩), hD⟩, (by show va_P _ _ _ t.heap; rw [ht]; exact hP)⟩, hS.F ht⟩) hS.2.2 dX8_spool_26
    · refine lv_sipush (v := -1002) hx hb dX8_spool_10 (by decide) ?_
      refine W.widen (k := 1) (n := 3) (Nat.le_of_ble_eq_true rfl) (Nat.le_of_ble_eq_true rfl) ?_
      exact W.iret (v := -1002) hx hb hr (fun t ht hW => ⟨⟨-1002, (L, F), rfl, ⟨qa, (by have hsp : sp_spool Pp wt re = (-1002, Pp) := (by unfold sp_spool; exact if_neg (by intro hq; have hc := c2; have h0 : (0 : Int32).toInt = 0 := (by decide); have hk : (100000 : Int32).toInt = 100000 := (by decide); rw [fa_le] at hc; omega)); rw [hsp]; exact ⟨rfl, hR⟩), hD⟩, (by show va_P _ _ _ t.heap; rw [ht]; exact hP)⟩, hS.F ht⟩) hS.2.2 dX8_spool_13
