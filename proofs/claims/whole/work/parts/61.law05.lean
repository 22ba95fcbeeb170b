set_option maxHeartbeats 8000000 in
set_option maxRecDepth 100000 in
theorem law_compare {p : Program} {l : Launch} {e : Env} {s : State} {m : MethodId} {below : List Frame} {meth : Method} {c : Code} {Q : State → Prop} {b N : Nat} {xs : Nat → Int32} {G : va_G} {cy : Nat → ClassId} {ad : Nat → Nat} (hLX : LX p s m c b N xs G cy ad) {o om kk : Nat} (hkk : 5 * kk + 5 ≤ N) (hNN : N ≤ 2560) {L Lm : List Nat} {F Fm : Nat → va_E} {H : Heap} {locs : List Loc} {cells slots : Nat} (hcells : cells + 1 ≤ 600000) (hslots : slots + 3 ≤ 7302250) (hI : LI s cy o om L Lm F Fm) (hP : va_P G vwCl (va_pl L F) H) (hPm : va_P G vwCl (va_pl Lm Fm) H) (hS : va_S (LA s) s.heap H locs) {ls : Array Slot} (hl : lv_has ls 4 [(3, .int (nI (5 * kk))), (2, .ref om), (1, .ref o), (0, .ref b)])
    (KK : ∀ (L1 : List Nat) (F1 Fm1 : Nat → va_E) (H1 : Heap) (locs1 : List Loc), LI s cy o om L1 Lm F1 Fm1 → va_P G vwCl (va_pl L1 F1) H1 → va_P G vwCl (va_pl Lm Fm1) H1 → va_S (LA s) s.heap H1 locs1 → W p l e room_1 s m #[Value.ref b] below meth c H1 locs1 (cells + 1) (slots + 3) Q (F0 m 1153 ls [])) : W p l e room_1 s m #[Value.ref b] below meth c H locs cells slots Q (F0 m 350 ls []) := by
  obtain ⟨hx, hb, hml, hown, hts, hX, hbl, hK, hE, hN⟩ := hLX
  obtain ⟨hD, hDm, hdis, qa, qm, Mm, Dd, Sl, Pp, Kr, Bk, Xx, hR, hRm⟩ := hI
  have hA : ∀ q : Nat, s.heap.size ≤ q → LA s q := fun _ h => h
  have hbA : ¬ LA s b := Nat.not_le.mpr hbl
  have hV := hR.val
  obtain ⟨th0, oc0, hom⟩ := hRm.1
  have hPm0 := hPm
  refine lv_aload_n hx hb dL_law_350 rfl (lv_at hl 2 rfl) ?_
  refine lv_aload_n hx hb dL_law_351 rfl (lv_at hl 3 rfl) ?_
  refine lv_iload_n hx hb dL_law_352 rfl (lv_at hl 0 rfl) ?_
  refine lv_iconst (v := 1) hx hb dL_law_353 (by decide) ?_
  refine lv_iadd hx hb dL_law_354 ?_
  refine lv_topi (fun v1 ev1 => ?_)
  rw [show nI (5 * kk) + (1 : Int32) = nI (5 * kk + 1) from nI_ad5 _ _] at ev1
  subst ev1
  refine va_sld (i := nI (5 * kk + 1)) hx hb hX hbl hbA hS (vp_in_nI (by omega) (by omega)) dL_law_355 ?_
  rw [nI_clamp (by omega)]
  refine lv_aload_n hx hb dL_law_356 rfl (lv_at hl 3 rfl) ?_
  refine lv_iload_n hx hb dL_law_357 rfl (lv_at hl 0 rfl) ?_
  refine lv_iconst (v := 2) hx hb dL_law_358 (by decide) ?_
  refine lv_iadd hx hb dL_law_359 ?_
  refine lv_topi (fun v2 ev2 => ?_)
  rw [show nI (5 * kk) + (2 : Int32) = nI (5 * kk + 2) from nI_ad5 _ _] at ev2
  subst ev2
  refine va_sld (i := nI (5 * kk + 2)) hx hb hX hbl hbA hS (vp_in_nI (by omega) (by omega)) dL_law_360 ?_
  rw [nI_clamp (by omega)]
  refine va_calli (va_runV (As := [.int (xs (5 * kk + 1)), .int (xs (5 * kk + 2))]) (rest := []) ⟨hx, hb, hml, hown, hts⟩ (m_compare l G cy L F ad H.size o qa Mm Dd Sl Pp Kr Bk Xx hR (xs (5 * kk + 1)) (xs (5 * kk + 2))) (cwV 2 hts gL_law_X8_compare rfl rfl rfl (by decide +kernel) ⟨Nat.le_of_ble_eq_true rfl, Nat.le_of_ble_eq_true rfl⟩) (preV_of okQE (⟨⟨rfl, hP, hK, hD.top⟩, (hE.kept hS.2.1).narrow (fun q h => pl_free hD hS hA q h), hN⟩) (pl_recv hK hP (ci := 7) rfl hR.1.1.1 hR.1.1.2)) rfl rfl hl.1 rfl (lv_room (Nat.le_of_ble_eq_true rfl)) dL_law_361 ⟨by show _ ≤ 600000; omega, by show _ ≤ 7302250; omega⟩) hS (fun q _ h => pl_free hD hS hA q h) (pl_free hD hS hA) (fun r3 F4 t H1 locs ht hvm hw hP1 hz1 hk1 hS1 => ?_)
  have hPm := pm_keep hPm hdis hk1
  obtain ⟨hqr3, hR⟩ := hw
  have hP1 : va_P G vwCl (va_pl L F4) t.heap := hP1
  rw [ht] at hP1
  have hP := hP1
  have hS := hS1
  clear hS1
  generalize H1 = H at hP hPm hS ⊢
  refine lv_aload_n hx hb dL_law_364 rfl (lv_at hl 1 rfl) ?_
  refine lv_aload_n hx hb dL_law_365 rfl (lv_at hl 3 rfl) ?_
  refine lv_iload_n hx hb dL_law_366 rfl (lv_at hl 0 rfl) ?_
  refine lv_iconst (v := 1) hx hb dL_law_367 (by decide) ?_
  refine lv_iadd hx hb dL_law_368 ?_
  refine lv_topi (fun v5 ev5 => ?_)
  rw [show nI (5 * kk) + (1 : Int32) = nI (5 * kk + 1) from nI_ad5 _ _] at ev5
  subst ev5
  refine va_sld (i := nI (5 * kk + 1)) hx hb hX hbl hbA hS (vp_in_nI (by omega) (by omega)) dL_law_369 ?_
  rw [nI_clamp (by omega)]
  refine lv_aload_n hx hb dL_law_370 rfl (lv_at hl 3 rfl) ?_
  refine lv_iload_n hx hb dL_law_371 rfl (lv_at hl 0 rfl) ?_
  refine lv_iconst (v := 2) hx hb dL_law_372 (by decide) ?_
  refine lv_iadd hx hb dL_law_373 ?_
  refine lv_topi (fun v6 ev6 => ?_)
  rw [show nI (5 * kk) + (2 : Int32) = nI (5 * kk + 2) from nI_ad5 _ _] at ev6
  subst ev6
  refine va_sld (i := nI (5 * kk + 2)) hx hb hX hbl hbA hS (vp_in_nI (by omega) (by omega)) dL_law_374 ?_
  rw [nI_clamp (by omega)]
  refine va_calli (va_runV (As := [.int (xs (5 * kk + 1)), .int (xs (5 * kk + 2))]) (rest := [.int r3]) ⟨hx, hb, hml, hown, hts⟩ (n_compare l G cy Lm Fm H.size om qm Mm Dd Sl Pp Kr Bk Xx hRm hV (xs (5 * kk + 1)) (xs (5 * kk + 2))) (cwV 2 hts gL_law_X9_compare rfl rfl rfl (by decide +kernel) ⟨Nat.le_of_ble_eq_true rfl, Nat.le_of_ble_eq_true rfl⟩) (preV_of okQ (⟨rfl, hPm, hK, hDm.top⟩) (pl_recv hK hPm (ci := 8) rfl hom.1 hom.2)) rfl rfl hl.1 rfl (lv_room (Nat.le_of_ble_eq_true rfl)) dL_law_375 ⟨by show _ ≤ 600000; omega, by show _ ≤ 7302250; omega⟩) hS (fun q _ h => pl_free hDm hS hA q h) (pl_free hDm hS hA) (fun r7 F8 t H1 locs ht hvm hw hP1 hz1 hk1 hS1 => ?_)
  have hP := pm_keep hP (pd_flip hdis) hk1
  obtain ⟨hqr7, hRm⟩ := hw
  have hP1 : va_P G vwCl (va_pl Lm F8) t.heap := hP1
  rw [ht] at hP1
  have hPm := hP1
  have hS := hS1
  clear hS1
  generalize H1 = H at hP hPm hS ⊢
  refine lv_icmp_eq (tgt := 1153) hx hb dL_law_378 (by decide) (fun c9 => ?_) (fun c9 => absurd (by rw [hqr3, hqr7]) c9)
  refine W.widen (k := cells + 1) (n := slots + 3) (by omega) (by omega) ?_
  exact KK L F4 F8 H _ ⟨hD, hDm, hdis, qa, qm, _, _, _, _, _, _, _, hR, hRm⟩ hP hPm hS

set_option maxHeartbeats 8000000 in
set_option maxRecDepth 100000 in
theorem law_drum {p : Program} {l : Launch} {e : Env} {s : State} {m : MethodId} {below : List Frame} {meth : Method} {c : Code} {Q : State → Prop} {b N : Nat} {xs : Nat → Int32} {G : va_G} {cy : Nat → ClassId} {ad : Nat → Nat} (hLX : LX p s m c b N xs G cy ad) {o om kk : Nat} (hkk : 5 * kk + 5 ≤ N) (hNN : N ≤ 2560) {L Lm : List Nat} {F Fm : Nat → va_E} {H : Heap} {locs : List Loc} {cells slots : Nat} (hcells : cells + 1 ≤ 600000) (hslots : slots + 3 ≤ 7302250) (hI : LI s cy o om L Lm F Fm) (hP : va_P G vwCl (va_pl L F) H) (hPm : va_P G vwCl (va_pl Lm Fm) H) (hS : va_S (LA s) s.heap H locs) {ls : Array Slot} (hl : lv_has ls 4 [(3, .int (nI (5 * kk))), (2, .ref om), (1, .ref o), (0, .ref b)])
    (KK : ∀ (L1 : List Nat) (F1 Fm1 : Nat → va_E) (H1 : Heap) (locs1 : List Loc), LI s cy o om L1 Lm F1 Fm1 → va_P G vwCl (va_pl L1 F1) H1 → va_P G vwCl (va_pl Lm Fm1) H1 → va_S (LA s) s.heap H1 locs1 → W p l e room_1 s m #[Value.ref b] below meth c H1 locs1 (cells + 1) (slots + 3) Q (F0 m 1153 ls [])) : W p l e room_1 s m #[Value.ref b] below meth c H locs cells slots Q (F0 m 383 ls []) := by
  obtain ⟨hx, hb, hml, hown, hts, hX, hbl, hK, hE, hN⟩ := hLX
  obtain ⟨hD, hDm, hdis, qa, qm, Mm, Dd, Sl, Pp, Kr, Bk, Xx, hR, hRm⟩ := hI
  have hA : ∀ q : Nat, s.heap.size ≤ q → LA s q := fun _ h => h
  have hbA : ¬ LA s b := Nat.not_le.mpr hbl
  have hV := hR.val
  obtain ⟨th0, oc0, hom⟩ := hRm.1
  have hPm0 := hPm
  refine lv_aload_n hx hb dL_law_383 rfl (lv_at hl 2 rfl) ?_
  refine lv_aload_n hx hb dL_law_384 rfl (lv_at hl 3 rfl) ?_
  refine lv_iload_n hx hb dL_law_385 rfl (lv_at hl 0 rfl) ?_
  refine lv_iconst (v := 1) hx hb dL_law_386 (by decide) ?_
  refine lv_iadd hx hb dL_law_387 ?_
  refine lv_topi (fun v1 ev1 => ?_)
  rw [show nI (5 * kk) + (1 : Int32) = nI (5 * kk + 1) from nI_ad5 _ _] at ev1
  subst ev1
  refine va_sld (i := nI (5 * kk + 1)) hx hb hX hbl hbA hS (vp_in_nI (by omega) (by omega)) dL_law_388 ?_
  rw [nI_clamp (by omega)]
  refine lv_aload_n hx hb dL_law_389 rfl (lv_at hl 3 rfl) ?_
  refine lv_iload_n hx hb dL_law_390 rfl (lv_at hl 0 rfl) ?_
  refine lv_iconst (v := 2) hx hb dL_law_391 (by decide) ?_
  refine lv_iadd hx hb dL_law_392 ?_
  refine lv_topi (fun v2 ev2 => ?_)
  rw [show nI (5 * kk) + (2 : Int32) = nI (5 * kk + 2) from nI_ad5 _ _] at ev2
  subst ev2
  refine va_sld (i := nI (5 * kk + 2)) hx hb hX hbl hbA hS (vp_in_nI (by omega) (by omega)) dL_law_393 ?_
  rw [nI_clamp (by omega)]
  refine lv_i2l hx hb dL_law_394 rfl ?_
  refine lv_topl (fun v3 ev3 => ?_)
  refine lv_bipush (v := 32) hx hb dL_law_395 (by decide) ?_
  refine lv_lshl hx hb dL_law_397 rfl ?_
  refine lv_topl (fun v4 ev4 => ?_)
  refine lv_aload_n hx hb dL_law_398 rfl (lv_at hl 3 rfl) ?_
  refine lv_iload_n hx hb dL_law_399 rfl (lv_at hl 0 rfl) ?_
  refine lv_iconst (v := 3) hx hb dL_law_400 (by decide) ?_
  refine lv_iadd hx hb dL_law_401 ?_
  refine lv_topi (fun v5 ev5 => ?_)
  rw [show nI (5 * kk) + (3 : Int32) = nI (5 * kk + 3) from nI_ad5 _ _] at ev5
  subst ev5
  refine va_sld (i := nI (5 * kk + 3)) hx hb hX hbl hbA hS (vp_in_nI (by omega) (by omega)) dL_law_402 ?_
  rw [nI_clamp (by omega)]
  refine lv_i2l hx hb dL_law_403 rfl ?_
  refine lv_topl (fun v6 ev6 => ?_)
  refine lv_ldc2 hx hb hown (hts (.constantLong RL 13 (4294967295)) (by decide +kernel)) dL_law_404 ?_
  refine lv_land hx hb dL_law_407 ?_
  refine lv_topl (fun v7 ev7 => ?_)
  refine lv_lor hx hb dL_law_408 ?_
  refine lv_topl (fun v8 ev8 => ?_)
  rw [ev4, ev7, ev3, ev6, lj_eq] at ev8
  subst ev8
  refine va_calli (va_runV (As := [.int (xs (5 * kk + 1)), .long (lN (lj (xs (5 * kk + 2)) (xs (5 * kk + 3))))]) (rest := []) ⟨hx, hb, hml, hown, hts⟩ (m_drum l G cy L F ad H.size o qa Mm Dd Sl Pp Kr Bk Xx hR (xs (5 * kk + 1)) (lj (xs (5 * kk + 2)) (xs (5 * kk + 3))) (lj_lt _ _)) (cwV 2 hts gL_law_X8_drum rfl rfl rfl (by decide +kernel) ⟨Nat.le_of_ble_eq_true rfl, Nat.le_of_ble_eq_true rfl⟩) (preV_of okQE (⟨⟨rfl, hP, hK, hD.top⟩, (hE.kept hS.2.1).narrow (fun q h => pl_free hD hS hA q h), hN⟩) (pl_recv hK hP (ci := 7) rfl hR.1.1.1 hR.1.1.2)) rfl rfl hl.1 rfl (lv_room (Nat.le_of_ble_eq_true rfl)) dL_law_409 ⟨by show _ ≤ 600000; omega, by show _ ≤ 7302250; omega⟩) hS (fun q _ h => pl_free hD hS hA q h) (pl_free hD hS hA) (fun r9 F10 t H1 locs ht hvm hw hP1 hz1 hk1 hS1 => ?_)
  have hPm := pm_keep hPm hdis hk1
  obtain ⟨hqr9, hR⟩ := hw
  have hP1 : va_P G vwCl (va_pl L F10) t.heap := hP1
  rw [ht] at hP1
  have hP := hP1
  have hS := hS1
  clear hS1
  generalize H1 = H at hP hPm hS ⊢
  refine lv_aload_n hx hb dL_law_412 rfl (lv_at hl 1 rfl) ?_
  refine lv_aload_n hx hb dL_law_413 rfl (lv_at hl 3 rfl) ?_
  refine lv_iload_n hx hb dL_law_414 rfl (lv_at hl 0 rfl) ?_
  refine lv_iconst (v := 1) hx hb dL_law_415 (by decide) ?_
  refine lv_iadd hx hb dL_law_416 ?_
  refine lv_topi (fun v11 ev11 => ?_)
  rw [show nI (5 * kk) + (1 : Int32) = nI (5 * kk + 1) from nI_ad5 _ _] at ev11
  subst ev11
  refine va_sld (i := nI (5 * kk + 1)) hx hb hX hbl hbA hS (vp_in_nI (by omega) (by omega)) dL_law_417 ?_
  rw [nI_clamp (by omega)]
  refine lv_aload_n hx hb dL_law_418 rfl (lv_at hl 3 rfl) ?_
  refine lv_iload_n hx hb dL_law_419 rfl (lv_at hl 0 rfl) ?_
  refine lv_iconst (v := 2) hx hb dL_law_420 (by decide) ?_
  refine lv_iadd hx hb dL_law_421 ?_
  refine lv_topi (fun v12 ev12 => ?_)
  rw [show nI (5 * kk) + (2 : Int32) = nI (5 * kk + 2) from nI_ad5 _ _] at ev12
  subst ev12
  refine va_sld (i := nI (5 * kk + 2)) hx hb hX hbl hbA hS (vp_in_nI (by omega) (by omega)) dL_law_422 ?_
  rw [nI_clamp (by omega)]
  refine lv_i2l hx hb dL_law_423 rfl ?_
  refine lv_topl (fun v13 ev13 => ?_)
  refine lv_bipush (v := 32) hx hb dL_law_424 (by decide) ?_
  refine lv_lshl hx hb dL_law_426 rfl ?_
  refine lv_topl (fun v14 ev14 => ?_)
  refine lv_aload_n hx hb dL_law_427 rfl (lv_at hl 3 rfl) ?_
  refine lv_iload_n hx hb dL_law_428 rfl (lv_at hl 0 rfl) ?_
  refine lv_iconst (v := 3) hx hb dL_law_429 (by decide) ?_
  refine lv_iadd hx hb dL_law_430 ?_
  refine lv_topi (fun v15 ev15 => ?_)
  rw [show nI (5 * kk) + (3 : Int32) = nI (5 * kk + 3) from nI_ad5 _ _] at ev15
  subst ev15
  refine va_sld (i := nI (5 * kk + 3)) hx hb hX hbl hbA hS (vp_in_nI (by omega) (by omega)) dL_law_431 ?_
  rw [nI_clamp (by omega)]
  refine lv_i2l hx hb dL_law_432 rfl ?_
  refine lv_topl (fun v16 ev16 => ?_)
  refine lv_ldc2 hx hb hown (hts (.constantLong RL 13 (4294967295)) (by decide +kernel)) dL_law_433 ?_
  refine lv_land hx hb dL_law_436 ?_
  refine lv_topl (fun v17 ev17 => ?_)
  refine lv_lor hx hb dL_law_437 ?_
  refine lv_topl (fun v18 ev18 => ?_)
  rw [ev14, ev17, ev13, ev16, lj_eq] at ev18
  subst ev18
  refine va_calli (va_runV (As := [.int (xs (5 * kk + 1)), .long (lN (lj (xs (5 * kk + 2)) (xs (5 * kk + 3))))]) (rest := [.int r9]) ⟨hx, hb, hml, hown, hts⟩ (n_drum l G cy Lm Fm H.size om qm Mm Dd Sl Pp Kr Bk Xx hRm hV (xs (5 * kk + 1)) (lj (xs (5 * kk + 2)) (xs (5 * kk + 3))) (lj_lt _ _)) (cwV 2 hts gL_law_X9_drum rfl rfl rfl (by decide +kernel) ⟨Nat.le_of_ble_eq_true rfl, Nat.le_of_ble_eq_true rfl⟩) (preV_of okQ (⟨rfl, hPm, hK, hDm.top⟩) (pl_recv hK hPm (ci := 8) rfl hom.1 hom.2)) rfl rfl hl.1 rfl (lv_room (Nat.le_of_ble_eq_true rfl)) dL_law_438 ⟨by show _ ≤ 600000; omega, by show _ ≤ 7302250; omega⟩) hS (fun q _ h => pl_free hDm hS hA q h) (pl_free hDm hS hA) (fun r19 F20 t H1 locs ht hvm hw hP1 hz1 hk1 hS1 => ?_)
  have hP := pm_keep hP (pd_flip hdis) hk1
  obtain ⟨hqr19, hRm⟩ := hw
  have hP1 : va_P G vwCl (va_pl Lm F20) t.heap := hP1
  rw [ht] at hP1
  have hPm := hP1
  have hS := hS1
  clear hS1
  generalize H1 = H at hP hPm hS ⊢
  refine lv_icmp_eq (tgt := 1153) hx hb dL_law_441 (by decide) (fun c21 => ?_) (fun c21 => absurd (by rw [hqr9, hqr19]) c21)
  refine W.widen (k := cells + 1) (n := slots + 3) (by omega) (by omega) ?_
  exact KK L F10 F20 H _ ⟨hD, hDm, hdis, qa, qm, _, _, _, _, _, _, _, hR, hRm⟩ hP hPm hS

set_option maxHeartbeats 8000000 in
set_option maxRecDepth 100000 in
theorem law_wind {p : Program} {l : Launch} {e : Env} {s : State} {m : MethodId} {below : List Frame} {meth : Method} {c : Code} {Q : State → Prop} {b N : Nat} {xs : Nat → Int32} {G : va_G} {cy : Nat → ClassId} {ad : Nat → Nat} (hLX : LX p s m c b N xs G cy ad) {o om kk : Nat} (hkk : 5 * kk + 5 ≤ N) (hNN : N ≤ 2560) {L Lm : List Nat} {F Fm : Nat → va_E} {H : Heap} {locs : List Loc} {cells slots : Nat} (hcells : cells + 1 ≤ 600000) (hslots : slots + 3 ≤ 7302250) (hI : LI s cy o om L Lm F Fm) (hP : va_P G vwCl (va_pl L F) H) (hPm : va_P G vwCl (va_pl Lm Fm) H) (hS : va_S (LA s) s.heap H locs) {ls : Array Slot} (hl : lv_has ls 4 [(3, .int (nI (5 * kk))), (2, .ref om), (1, .ref o), (0, .ref b)])
    (KK : ∀ (L1 : List Nat) (F1 Fm1 : Nat → va_E) (H1 : Heap) (locs1 : List Loc), LI s cy o om L1 Lm F1 Fm1 → va_P G vwCl (va_pl L1 F1) H1 → va_P G vwCl (va_pl Lm Fm1) H1 → va_S (LA s) s.heap H1 locs1 → W p l e room_1 s m #[Value.ref b] below meth c H1 locs1 (cells + 1) (slots + 3) Q (F0 m 1153 ls [])) : W p l e room_1 s m #[Value.ref b] below meth c H locs cells slots Q (F0 m 446 ls []) := by
  obtain ⟨hx, hb, hml, hown, hts, hX, hbl, hK, hE, hN⟩ := hLX
  obtain ⟨hD, hDm, hdis, qa, qm, Mm, Dd, Sl, Pp, Kr, Bk, Xx, hR, hRm⟩ := hI
  have hA : ∀ q : Nat, s.heap.size ≤ q → LA s q := fun _ h => h
  have hbA : ¬ LA s b := Nat.not_le.mpr hbl
  have hV := hR.val
  obtain ⟨th0, oc0, hom⟩ := hRm.1
  have hPm0 := hPm
  refine lv_aload_n hx hb dL_law_446 rfl (lv_at hl 2 rfl) ?_
  refine lv_aload_n hx hb dL_law_447 rfl (lv_at hl 3 rfl) ?_
  refine lv_iload_n hx hb dL_law_448 rfl (lv_at hl 0 rfl) ?_
  refine lv_iconst (v := 1) hx hb dL_law_449 (by decide) ?_
  refine lv_iadd hx hb dL_law_450 ?_
  refine lv_topi (fun v1 ev1 => ?_)
  rw [show nI (5 * kk) + (1 : Int32) = nI (5 * kk + 1) from nI_ad5 _ _] at ev1
  subst ev1
  refine va_sld (i := nI (5 * kk + 1)) hx hb hX hbl hbA hS (vp_in_nI (by omega) (by omega)) dL_law_451 ?_
  rw [nI_clamp (by omega)]
  refine lv_aload_n hx hb dL_law_452 rfl (lv_at hl 3 rfl) ?_
  refine lv_iload_n hx hb dL_law_453 rfl (lv_at hl 0 rfl) ?_
  refine lv_iconst (v := 2) hx hb dL_law_454 (by decide) ?_
  refine lv_iadd hx hb dL_law_455 ?_
  refine lv_topi (fun v2 ev2 => ?_)
  rw [show nI (5 * kk) + (2 : Int32) = nI (5 * kk + 2) from nI_ad5 _ _] at ev2
  subst ev2
  refine va_sld (i := nI (5 * kk + 2)) hx hb hX hbl hbA hS (vp_in_nI (by omega) (by omega)) dL_law_456 ?_
  rw [nI_clamp (by omega)]
  refine va_calli (va_runV (As := [.int (xs (5 * kk + 1)), .int (xs (5 * kk + 2))]) (rest := []) ⟨hx, hb, hml, hown, hts⟩ (m_wind l G cy L F ad H.size o qa Mm Dd Sl Pp Kr Bk Xx hR (xs (5 * kk + 1)) (xs (5 * kk + 2))) (cwV 2 hts gL_law_X8_wind rfl rfl rfl (by decide +kernel) ⟨Nat.le_of_ble_eq_true rfl, Nat.le_of_ble_eq_true rfl⟩) (preV_of okQE (⟨⟨rfl, hP, hK, hD.top⟩, (hE.kept hS.2.1).narrow (fun q h => pl_free hD hS hA q h), hN⟩) (pl_recv hK hP (ci := 7) rfl hR.1.1.1 hR.1.1.2)) rfl rfl hl.1 rfl (lv_room (Nat.le_of_ble_eq_true rfl)) dL_law_457 ⟨by show _ ≤ 600000; omega, by show _ ≤ 7302250; omega⟩) hS (fun q _ h => pl_free hD hS hA q h) (pl_free hD hS hA) (fun r3 F4 t H1 locs ht hvm hw hP1 hz1 hk1 hS1 => ?_)
  have hPm := pm_keep hPm hdis hk1
  obtain ⟨hqr3, hR⟩ := hw
  have hP1 : va_P G vwCl (va_pl L F4) t.heap := hP1
  rw [ht] at hP1
  have hP := hP1
  have hS := hS1
  clear hS1
  generalize H1 = H at hP hPm hS ⊢
  refine lv_aload_n hx hb dL_law_460 rfl (lv_at hl 1 rfl) ?_
  refine lv_aload_n hx hb dL_law_461 rfl (lv_at hl 3 rfl) ?_
  refine lv_iload_n hx hb dL_law_462 rfl (lv_at hl 0 rfl) ?_
  refine lv_iconst (v := 1) hx hb dL_law_463 (by decide) ?_
  refine lv_iadd hx hb dL_law_464 ?_
  refine lv_topi (fun v5 ev5 => ?_)
  rw [show nI (5 * kk) + (1 : Int32) = nI (5 * kk + 1) from nI_ad5 _ _] at ev5
  subst ev5
  refine va_sld (i := nI (5 * kk + 1)) hx hb hX hbl hbA hS (vp_in_nI (by omega) (by omega)) dL_law_465 ?_
  rw [nI_clamp (by omega)]
  refine lv_aload_n hx hb dL_law_466 rfl (lv_at hl 3 rfl) ?_
  refine lv_iload_n hx hb dL_law_467 rfl (lv_at hl 0 rfl) ?_
  refine lv_iconst (v := 2) hx hb dL_law_468 (by decide) ?_
  refine lv_iadd hx hb dL_law_469 ?_
  refine lv_topi (fun v6 ev6 => ?_)
  rw [show nI (5 * kk) + (2 : Int32) = nI (5 * kk + 2) from nI_ad5 _ _] at ev6
  subst ev6
  refine va_sld (i := nI (5 * kk + 2)) hx hb hX hbl hbA hS (vp_in_nI (by omega) (by omega)) dL_law_470 ?_
  rw [nI_clamp (by omega)]
  refine va_calli (va_runV (As := [.int (xs (5 * kk + 1)), .int (xs (5 * kk + 2))]) (rest := [.int r3]) ⟨hx, hb, hml, hown, hts⟩ (n_wind l G cy Lm Fm H.size om qm Mm Dd Sl Pp Kr Bk Xx hRm hV (xs (5 * kk + 1)) (xs (5 * kk + 2))) (cwV 2 hts gL_law_X9_wind rfl rfl rfl (by decide +kernel) ⟨Nat.le_of_ble_eq_true rfl, Nat.le_of_ble_eq_true rfl⟩) (preV_of okQ (⟨rfl, hPm, hK, hDm.top⟩) (pl_recv hK hPm (ci := 8) rfl hom.1 hom.2)) rfl rfl hl.1 rfl (lv_room (Nat.le_of_ble_eq_true rfl)) dL_law_471 ⟨by show _ ≤ 600000; omega, by show _ ≤ 7302250; omega⟩) hS (fun q _ h => pl_free hDm hS hA q h) (pl_free hDm hS hA) (fun r7 F8 t H1 locs ht hvm hw hP1 hz1 hk1 hS1 => ?_)
  have hP := pm_keep hP (pd_flip hdis) hk1
  obtain ⟨hqr7, hRm⟩ := hw
  have hP1 : va_P G vwCl (va_pl Lm F8) t.heap := hP1
  rw [ht] at hP1
  have hPm := hP1
  have hS := hS1
  clear hS1
  generalize H1 = H at hP hPm hS ⊢
  refine lv_icmp_eq (tgt := 1153) hx hb dL_law_474 (by decide) (fun c9 => ?_) (fun c9 => absurd (by rw [hqr3, hqr7]) c9)
  refine W.widen (k := cells + 1) (n := slots + 3) (by omega) (by omega) ?_
  exact KK L F4 F8 H _ ⟨hD, hDm, hdis, qa, qm, _, _, _, _, _, _, _, hR, hRm⟩ hP hPm hS

set_option maxHeartbeats 8000000 in
set_option maxRecDepth 100000 in
theorem law_told {p : Program} {l : Launch} {e : Env} {s : State} {m : MethodId} {below : List Frame} {meth : Method} {c : Code} {Q : State → Prop} {b N : Nat} {xs : Nat → Int32} {G : va_G} {cy : Nat → ClassId} {ad : Nat → Nat} (hLX : LX p s m c b N xs G cy ad) {o om kk : Nat} (hkk : 5 * kk + 5 ≤ N) (hNN : N ≤ 2560) {L Lm : List Nat} {F Fm : Nat → va_E} {H : Heap} {locs : List Loc} {cells slots : Nat} (hcells : cells + 1 ≤ 600000) (hslots : slots + 3 ≤ 7302250) (hI : LI s cy o om L Lm F Fm) (hP : va_P G vwCl (va_pl L F) H) (hPm : va_P G vwCl (va_pl Lm Fm) H) (hS : va_S (LA s) s.heap H locs) {ls : Array Slot} (hl : lv_has ls 4 [(3, .int (nI (5 * kk))), (2, .ref om), (1, .ref o), (0, .ref b)])
    (KK : ∀ (L1 : List Nat) (F1 Fm1 : Nat → va_E) (H1 : Heap) (locs1 : List Loc), LI s cy o om L1 Lm F1 Fm1 → va_P G vwCl (va_pl L1 F1) H1 → va_P G vwCl (va_pl Lm Fm1) H1 → va_S (LA s) s.heap H1 locs1 → W p l e room_1 s m #[Value.ref b] below meth c H1 locs1 (cells + 1) (slots + 3) Q (F0 m 1153 ls [])) : W p l e room_1 s m #[Value.ref b] below meth c H locs cells slots Q (F0 m 479 ls []) := by
  obtain ⟨hx, hb, hml, hown, hts, hX, hbl, hK, hE, hN⟩ := hLX
  obtain ⟨hD, hDm, hdis, qa, qm, Mm, Dd, Sl, Pp, Kr, Bk, Xx, hR, hRm⟩ := hI
  have hA : ∀ q : Nat, s.heap.size ≤ q → LA s q := fun _ h => h
  have hbA : ¬ LA s b := Nat.not_le.mpr hbl
  have hV := hR.val
  obtain ⟨th0, oc0, hom⟩ := hRm.1
  have hPm0 := hPm
  rcases whc (xs (5 * kk + 2)) with hlit | hlit | hlit | hlit | hno
  · refine lv_aload_n hx hb dL_law_479 rfl (lv_at hl 2 rfl) ?_
    refine lv_aload_n hx hb dL_law_480 rfl (lv_at hl 3 rfl) ?_
    refine lv_iload_n hx hb dL_law_481 rfl (lv_at hl 0 rfl) ?_
    refine lv_iconst (v := 1) hx hb dL_law_482 (by decide) ?_
    refine lv_iadd hx hb dL_law_483 ?_
    refine lv_topi (fun v1 ev1 => ?_)
    rw [show nI (5 * kk) + (1 : Int32) = nI (5 * kk + 1) from nI_ad5 _ _] at ev1
    subst ev1
    refine va_sld (i := nI (5 * kk + 1)) hx hb hX hbl hbA hS (vp_in_nI (by omega) (by omega)) dL_law_484 ?_
    rw [nI_clamp (by omega)]
    refine lv_aload_n hx hb dL_law_485 rfl (lv_at hl 3 rfl) ?_
    refine lv_iload_n hx hb dL_law_486 rfl (lv_at hl 0 rfl) ?_
    refine lv_iconst (v := 2) hx hb dL_law_487 (by decide) ?_
    refine lv_iadd hx hb dL_law_488 ?_
    refine lv_topi (fun v2 ev2 => ?_)
    rw [show nI (5 * kk) + (2 : Int32) = nI (5 * kk + 2) from nI_ad5 _ _] at ev2
    subst ev2
    refine va_sld (i := nI (5 * kk + 2)) hx hb hX hbl hbA hS (vp_in_nI (by omega) (by omega)) dL_law_489 ?_
    rw [nI_clamp (by omega)]
    rw [hlit]
    refine va_calll (va_runV (As := [.int (xs (5 * kk + 1)), .int 0]) (rest := []) ⟨hx, hb, hml, hown, hts⟩ (m_told_0 l G cy L F ad H.size o qa Mm Dd Sl Pp Kr Bk Xx hR (xs (5 * kk + 1))) (cwV 2 hts gL_law_X8_told rfl rfl rfl (by decide +kernel) ⟨Nat.le_of_ble_eq_true rfl, Nat.le_of_ble_eq_true rfl⟩) (preV_of okQE (⟨⟨rfl, hP, hK, hD.top⟩, (hE.kept hS.2.1).narrow (fun q h => pl_free hD hS hA q h), hN⟩) (pl_recv hK hP (ci := 7) rfl hR.1.1.1 hR.1.1.2)) rfl rfl hl.1 rfl (lv_room (Nat.le_of_ble_eq_true rfl)) dL_law_490 ⟨by show _ ≤ 600000; omega, by show _ ≤ 7302250; omega⟩) hS (fun q _ h => pl_free hD hS hA q h) (pl_free hD hS hA) (fun r3 F4 t H1 locs ht hvm hw hP1 hz1 hk1 hS1 => ?_)
    have hPm := pm_keep hPm hdis hk1
    obtain ⟨hqr3, hR⟩ := hw
    have hP1 : va_P G vwCl (va_pl L F4) t.heap := hP1
    rw [ht] at hP1
    have hP := hP1
    have hS := hS1
    clear hS1
    generalize H1 = H at hP hPm hS ⊢
    refine lv_aload_n hx hb dL_law_493 rfl (lv_at hl 1 rfl) ?_
    refine lv_aload_n hx hb dL_law_494 rfl (lv_at hl 3 rfl) ?_
    refine lv_iload_n hx hb dL_law_495 rfl (lv_at hl 0 rfl) ?_
    refine lv_iconst (v := 1) hx hb dL_law_496 (by decide) ?_
    refine lv_iadd hx hb dL_law_497 ?_
    refine lv_topi (fun v5 ev5 => ?_)
    rw [show nI (5 * kk) + (1 : Int32) = nI (5 * kk + 1) from nI_ad5 _ _] at ev5
    subst ev5
    refine va_sld (i := nI (5 * kk + 1)) hx hb hX hbl hbA hS (vp_in_nI (by omega) (by omega)) dL_law_498 ?_
    rw [nI_clamp (by omega)]
    refine lv_aload_n hx hb dL_law_499 rfl (lv_at hl 3 rfl) ?_
    refine lv_iload_n hx hb dL_law_500 rfl (lv_at hl 0 rfl) ?_
    refine lv_iconst (v := 2) hx hb dL_law_501 (by decide) ?_
    refine lv_iadd hx hb dL_law_502 ?_
    refine lv_topi (fun v6 ev6 => ?_)
    rw [show nI (5 * kk) + (2 : Int32) = nI (5 * kk + 2) from nI_ad5 _ _] at ev6
    subst ev6
    refine va_sld (i := nI (5 * kk + 2)) hx hb hX hbl hbA hS (vp_in_nI (by omega) (by omega)) dL_law_503 ?_
    rw [nI_clamp (by omega)]
    rw [hlit]
    refine va_calll (va_runV (As := [.int (xs (5 * kk + 1)), .int 0]) (rest := [.long r3]) ⟨hx, hb, hml, hown, hts⟩ (n_told_0 l G cy Lm Fm H.size om qm Mm Dd Sl Pp Kr Bk Xx hRm hV (xs (5 * kk + 1))) (cwV 2 hts gL_law_X9_told rfl rfl rfl (by decide +kernel) ⟨Nat.le_of_ble_eq_true rfl, Nat.le_of_ble_eq_true rfl⟩) (preV_of okQ (⟨rfl, hPm, hK, hDm.top⟩) (pl_recv hK hPm (ci := 8) rfl hom.1 hom.2)) rfl rfl hl.1 rfl (lv_room (Nat.le_of_ble_eq_true rfl)) dL_law_504 ⟨by show _ ≤ 600000; omega, by show _ ≤ 7302250; omega⟩) hS (fun q _ h => pl_free hDm hS hA q h) (pl_free hDm hS hA) (fun r7 F8 t H1 locs ht hvm hw hP1 hz1 hk1 hS1 => ?_)
    have hP := pm_keep hP (pd_flip hdis) hk1
    obtain ⟨hqr7, hRm⟩ := hw
    have hP1 : va_P G vwCl (va_pl Lm F8) t.heap := hP1
    rw [ht] at hP1
    have hPm := hP1
    have hS := hS1
    clear hS1
    generalize H1 = H at hP hPm hS ⊢
    refine W.lcmp hx hb dL_law_507 ?_
    refine lv_if_eq (tgt := 1153) hx hb dL_law_508 (by decide) (fun c9 => ?_) (fun c9 => absurd ((lg_cmp_eq _ _).mpr (by rw [hqr3, hqr7])) c9)
    refine W.widen (k := cells + 1) (n := slots + 3) (by omega) (by omega) ?_
    exact KK L F4 F8 H _ ⟨hD, hDm, hdis, qa, qm, _, _, _, _, _, _, _, hR, hRm⟩ hP hPm hS
  · refine lv_aload_n hx hb dL_law_479 rfl (lv_at hl 2 rfl) ?_
    refine lv_aload_n hx hb dL_law_480 rfl (lv_at hl 3 rfl) ?_
    refine lv_iload_n hx hb dL_law_481 rfl (lv_at hl 0 rfl) ?_
    refine lv_iconst (v := 1) hx hb dL_law_482 (by decide) ?_
    refine lv_iadd hx hb dL_law_483 ?_
    refine lv_topi (fun v10 ev10 => ?_)
    rw [show nI (5 * kk) + (1 : Int32) = nI (5 * kk + 1) from nI_ad5 _ _] at ev10
    subst ev10
    refine va_sld (i := nI (5 * kk + 1)) hx hb hX hbl hbA hS (vp_in_nI (by omega) (by omega)) dL_law_484 ?_
    rw [nI_clamp (by omega)]
    refine lv_aload_n hx hb dL_law_485 rfl (lv_at hl 3 rfl) ?_
    refine lv_iload_n hx hb dL_law_486 rfl (lv_at hl 0 rfl) ?_
    refine lv_iconst (v := 2) hx hb dL_law_487 (by decide) ?_
    refine lv_iadd hx hb dL_law_488 ?_
    refine lv_topi (fun v11 ev11 => ?_)
    rw [show nI (5 * kk) + (2 : Int32) = nI (5 * kk + 2) from nI_ad5 _ _] at ev11
    subst ev11
    refine va_sld (i := nI (5 * kk + 2)) hx hb hX hbl hbA hS (vp_in_nI (by omega) (by omega)) dL_law_489 ?_
    rw [nI_clamp (by omega)]
    rw [hlit]
    refine va_calll (va_runV (As := [.int (xs (5 * kk + 1)), .int 1]) (rest := []) ⟨hx, hb, hml, hown, hts⟩ (m_told_1 l G cy L F ad H.size o qa Mm Dd Sl Pp Kr Bk Xx hR (xs (5 * kk + 1))) (cwV 2 hts gL_law_X8_told rfl rfl rfl (by decide +kernel) ⟨Nat.le_of_ble_eq_true rfl, Nat.le_of_ble_eq_true rfl⟩) (preV_of okQE (⟨⟨rfl, hP, hK, hD.top⟩, (hE.kept hS.2.1).narrow (fun q h => pl_free hD hS hA q h), hN⟩) (pl_recv hK hP (ci := 7) rfl hR.1.1.1 hR.1.1.2)) rfl rfl hl.1 rfl (lv_room (Nat.le_of_ble_eq_true rfl)) dL_law_490 ⟨by show _ ≤ 600000; omega, by show _ ≤ 7302250; omega⟩) hS (fun q _ h => pl_free hD hS hA q h) (pl_free hD hS hA) (fun r12 F13 t H1 locs ht hvm hw hP1 hz1 hk1 hS1 => ?_)
    have hPm := pm_keep hPm hdis hk1
    obtain ⟨hqr12, hR⟩ := hw
    have hP1 : va_P G vwCl (va_pl L F13) t.heap := hP1
    rw [ht] at hP1
    have hP := hP1
    have hS := hS1
    clear hS1
    generalize H1 = H at hP hPm hS ⊢
    refine lv_aload_n hx hb dL_law_493 rfl (lv_at hl 1 rfl) ?_
    refine lv_aload_n hx hb dL_law_494 rfl (lv_at hl 3 rfl) ?_
    refine lv_iload_n hx hb dL_law_495 rfl (lv_at hl 0 rfl) ?_
    refine lv_iconst (v := 1) hx hb dL_law_496 (by decide) ?_
    refine lv_iadd hx hb dL_law_497 ?_
    refine lv_topi (fun v14 ev14 => ?_)
    rw [show nI (5 * kk) + (1 : Int32) = nI (5 * kk + 1) from nI_ad5 _ _] at ev14
    subst ev14
    refine va_sld (i := nI (5 * kk + 1)) hx hb hX hbl hbA hS (vp_in_nI (by omega) (by omega)) dL_law_498 ?_
    rw [nI_clamp (by omega)]
    refine lv_aload_n hx hb dL_law_499 rfl (lv_at hl 3 rfl) ?_
    refine lv_iload_n hx hb dL_law_500 rfl (lv_at hl 0 rfl) ?_
    refine lv_iconst (v := 2) hx hb dL_law_501 (by decide) ?_
    refine lv_iadd hx hb dL_law_502 ?_
    refine lv_topi (fun v15 ev15 => ?_)
    rw [show nI (5 * kk) + (2 : Int32) = nI (5 * kk + 2) from nI_ad5 _ _] at ev15
    subst ev15
    refine va_sld (i := nI (5 * kk + 2)) hx hb hX hbl hbA hS (vp_in_nI (by omega) (by omega)) dL_law_503 ?_
    rw [nI_clamp (by omega)]
    rw [hlit]
    refine va_calll (va_runV (As := [.int (xs (5 * kk + 1)), .int 1]) (rest := [.long r12]) ⟨hx, hb, hml, hown, hts⟩ (n_told_1 l G cy Lm Fm H.size om qm Mm Dd Sl Pp Kr Bk Xx hRm hV (xs (5 * kk + 1))) (cwV 2 hts gL_law_X9_told rfl rfl rfl (by decide +kernel) ⟨Nat.le_of_ble_eq_true rfl, Nat.le_of_ble_eq_true rfl⟩) (preV_of okQ (⟨rfl, hPm, hK, hDm.top⟩) (pl_recv hK hPm (ci := 8) rfl hom.1 hom.2)) rfl rfl hl.1 rfl (lv_room (Nat.le_of_ble_eq_true rfl)) dL_law_504 ⟨by show _ ≤ 600000; omega, by show _ ≤ 7302250; omega⟩) hS (fun q _ h => pl_free hDm hS hA q h) (pl_free hDm hS hA) (fun r16 F17 t H1 locs ht hvm hw hP1 hz1 hk1 hS1 => ?_)
    have hP := pm_keep hP (pd_flip hdis) hk1
    obtain ⟨hqr16, hRm⟩ := hw
    have hP1 : va_P G vwCl (va_pl Lm F17) t.heap := hP1
    rw [ht] at hP1
    have hPm := hP1
    have hS := hS1
    clear hS1
    generalize H1 = H at hP hPm hS ⊢
    refine W.lcmp hx hb dL_law_507 ?_
    refine lv_if_eq (tgt := 1153) hx hb dL_law_508 (by decide) (fun c18 => ?_) (fun c18 => absurd ((lg_cmp_eq _ _).mpr (by rw [hqr12, hqr16])) c18)
    refine W.widen (k := cells + 1) (n := slots + 3) (by omega) (by omega) ?_
    exact KK L F13 F17 H _ ⟨hD, hDm, hdis, qa, qm, _, _, _, _, _, _, _, hR, hRm⟩ hP hPm hS
  · refine lv_aload_n hx hb dL_law_479 rfl (lv_at hl 2 rfl) ?_
    refine lv_aload_n hx hb dL_law_480 rfl (lv_at hl 3 rfl) ?_
    refine lv_iload_n hx hb dL_law_481 rfl (lv_at hl 0 rfl) ?_
    refine lv_iconst (v := 1) hx hb dL_law_482 (by decide) ?_
    refine lv_iadd hx hb dL_law_483 ?_
    refine lv_topi (fun v19 ev19 => ?_)
    rw [show nI (5 * kk) + (1 : Int32) = nI (5 * kk + 1) from nI_ad5 _ _] at ev19
    subst ev19
    refine va_sld (i := nI (5 * kk + 1)) hx hb hX hbl hbA hS (vp_in_nI (by omega) (by omega)) dL_law_484 ?_
    rw [nI_clamp (by omega)]
    refine lv_aload_n hx hb dL_law_485 rfl (lv_at hl 3 rfl) ?_
    refine lv_iload_n hx hb dL_law_486 rfl (lv_at hl 0 rfl) ?_
    refine lv_iconst (v := 2) hx hb dL_law_487 (by decide) ?_
    refine lv_iadd hx hb dL_law_488 ?_
    refine lv_topi (fun v20 ev20 => ?_)
    rw [show nI (5 * kk) + (2 : Int32) = nI (5 * kk + 2) from nI_ad5 _ _] at ev20
    subst ev20
    refine va_sld (i := nI (5 * kk + 2)) hx hb hX hbl hbA hS (vp_in_nI (by omega) (by omega)) dL_law_489 ?_
    rw [nI_clamp (by omega)]
    rw [hlit]
    refine va_calll (va_runV (As := [.int (xs (5 * kk + 1)), .int 2]) (rest := []) ⟨hx, hb, hml, hown, hts⟩ (m_told_2 l G cy L F ad H.size o qa Mm Dd Sl Pp Kr Bk Xx hR (xs (5 * kk + 1))) (cwV 2 hts gL_law_X8_told rfl rfl rfl (by decide +kernel) ⟨Nat.le_of_ble_eq_true rfl, Nat.le_of_ble_eq_true rfl⟩) (preV_of okQE (⟨⟨rfl, hP, hK, hD.top⟩, (hE.kept hS.2.1).narrow (fun q h => pl_free hD hS hA q h), hN⟩) (pl_recv hK hP (ci := 7) rfl hR.1.1.1 hR.1.1.2)) rfl rfl hl.1 rfl (lv_room (Nat.le_of_ble_eq_true rfl)) dL_law_490 ⟨by show _ ≤ 600000; omega, by show _ ≤ 7302250; omega⟩) hS (fun q _ h => pl_free hD hS hA q h) (pl_free hD hS hA) (fun r21 F22 t H1 locs ht hvm hw hP1 hz1 hk1 hS1 => ?_)
    have hPm := pm_keep hPm hdis hk1
    obtain ⟨hqr21, hR⟩ := hw
    have hP1 : va_P G vwCl (va_pl L F22) t.heap := hP1
    rw [ht] at hP1
    have hP := hP1
    have hS := hS1
    clear hS1
    generalize H1 = H at hP hPm hS ⊢
    refine lv_aload_n hx hb dL_law_493 rfl (lv_at hl 1 rfl) ?_
    refine lv_aload_n hx hb dL_law_494 rfl (lv_at hl 3 rfl) ?_
    refine lv_iload_n hx hb dL_law_495 rfl (lv_at hl 0 rfl) ?_
    refine lv_iconst (v := 1) hx hb dL_law_496 (by decide) ?_
    refine lv_iadd hx hb dL_law_497 ?_
    refine lv_topi (fun v23 ev23 => ?_)
    rw [show nI (5 * kk) + (1 : Int32) = nI (5 * kk + 1) from nI_ad5 _ _] at ev23
    subst ev23
    refine va_sld (i := nI (5 * kk + 1)) hx hb hX hbl hbA hS (vp_in_nI (by omega) (by omega)) dL_law_498 ?_
    rw [nI_clamp (by omega)]
    refine lv_aload_n hx hb dL_law_499 rfl (lv_at hl 3 rfl) ?_
    refine lv_iload_n hx hb dL_law_500 rfl (lv_at hl 0 rfl) ?_
    refine lv_iconst (v := 2) hx hb dL_law_501 (by decide) ?_
    refine lv_iadd hx hb dL_law_502 ?_
    refine lv_topi (fun v24 ev24 => ?_)
    rw [show nI (5 * kk) + (2 : Int32) = nI (5 * kk + 2) from nI_ad5 _ _] at ev24
    subst ev24
    refine va_sld (i := nI (5 * kk + 2)) hx hb hX hbl hbA hS (vp_in_nI (by omega) (by omega)) dL_law_503 ?_
    rw [nI_clamp (by omega)]
    rw [hlit]
    refine va_calll (va_runV (As := [.int (xs (5 * kk + 1)), .int 2]) (rest := [.long r21]) ⟨hx, hb, hml, hown, hts⟩ (n_told_2 l G cy Lm Fm H.size om qm Mm Dd Sl Pp Kr Bk Xx hRm hV (xs (5 * kk + 1))) (cwV 2 hts gL_law_X9_told rfl rfl rfl (by decide +kernel) ⟨Nat.le_of_ble_eq_true rfl, Nat.le_of_ble_eq_true rfl⟩) (preV_of okQ (⟨rfl, hPm, hK, hDm.top⟩) (pl_recv hK hPm (ci := 8) rfl hom.1 hom.2)) rfl rfl hl.1 rfl (lv_room (Nat.le_of_ble_eq_true rfl)) dL_law_504 ⟨by show _ ≤ 600000; omega, by show _ ≤ 7302250; omega⟩) hS (fun q _ h => pl_free hDm hS hA q h) (pl_free hDm hS hA) (fun r25 F26 t H1 locs ht hvm hw hP1 hz1 hk1 hS1 => ?_)
    have hP := pm_keep hP (pd_flip hdis) hk1
    obtain ⟨hqr25, hRm⟩ := hw
    have hP1 : va_P G vwCl (va_pl Lm F26) t.heap := hP1
    rw [ht] at hP1
    have hPm := hP1
    have hS := hS1
    clear hS1
    generalize H1 = H at hP hPm hS ⊢
    refine W.lcmp hx hb dL_law_507 ?_
    refine lv_if_eq (tgt := 1153) hx hb dL_law_508 (by decide) (fun c27 => ?_) (fun c27 => absurd ((lg_cmp_eq _ _).mpr (by rw [hqr21, hqr25])) c27)
    refine W.widen (k := cells + 1) (n := slots + 3) (by omega) (by omega) ?_
    exact KK L F22 F26 H _ ⟨hD, hDm, hdis, qa, qm, _, _, _, _, _, _, _, hR, hRm⟩ hP hPm hS
  · refine lv_aload_n hx hb dL_law_479 rfl (lv_at hl 2 rfl) ?_
    refine lv_aload_n hx hb dL_law_480 rfl (lv_at hl 3 rfl) ?_
    refine lv_iload_n hx hb dL_law_481 rfl (lv_at hl 0 rfl) ?_
    refine lv_iconst (v := 1) hx hb dL_law_482 (by decide) ?_
    refine lv_iadd hx hb dL_law_483 ?_
    refine lv_topi (fun v28 ev28 => ?_)
    rw [show nI (5 * kk) + (1 : Int32) = nI (5 * kk + 1) from nI_ad5 _ _] at ev28
    subst ev28
    refine va_sld (i := nI (5 * kk + 1)) hx hb hX hbl hbA hS (vp_in_nI (by omega) (by omega)) dL_law_484 ?_
    rw [nI_clamp (by omega)]
    refine lv_aload_n hx hb dL_law_485 rfl (lv_at hl 3 rfl) ?_
    refine lv_iload_n hx hb dL_law_486 rfl (lv_at hl 0 rfl) ?_
    refine lv_iconst (v := 2) hx hb dL_law_487 (by decide) ?_
    refine lv_iadd hx hb dL_law_488 ?_
    refine lv_topi (fun v29 ev29 => ?_)
    rw [show nI (5 * kk) + (2 : Int32) = nI (5 * kk + 2) from nI_ad5 _ _] at ev29
    subst ev29
    refine va_sld (i := nI (5 * kk + 2)) hx hb hX hbl hbA hS (vp_in_nI (by omega) (by omega)) dL_law_489 ?_
    rw [nI_clamp (by omega)]
    rw [hlit]
    refine va_calll (va_runV (As := [.int (xs (5 * kk + 1)), .int 3]) (rest := []) ⟨hx, hb, hml, hown, hts⟩ (m_told_3 l G cy L F ad H.size o qa Mm Dd Sl Pp Kr Bk Xx hR (xs (5 * kk + 1))) (cwV 2 hts gL_law_X8_told rfl rfl rfl (by decide +kernel) ⟨Nat.le_of_ble_eq_true rfl, Nat.le_of_ble_eq_true rfl⟩) (preV_of okQE (⟨⟨rfl, hP, hK, hD.top⟩, (hE.kept hS.2.1).narrow (fun q h => pl_free hD hS hA q h), hN⟩) (pl_recv hK hP (ci := 7) rfl hR.1.1.1 hR.1.1.2)) rfl rfl hl.1 rfl (lv_room (Nat.le_of_ble_eq_true rfl)) dL_law_490 ⟨by show _ ≤ 600000; omega, by show _ ≤ 7302250; omega⟩) hS (fun q _ h => pl_free hD hS hA q h) (pl_free hD hS hA) (fun r30 F31 t H1 locs ht hvm hw hP1 hz1 hk1 hS1 => ?_)
    have hPm := pm_keep hPm hdis hk1
    obtain ⟨hqr30, hR⟩ := hw
    have hP1 : va_P G vwCl (va_pl L F31) t.heap := hP1
    rw [ht] at hP1
    have hP := hP1
    have hS := hS1
    clear hS1
    generalize H1 = H at hP hPm hS ⊢
    refine lv_aload_n hx hb dL_law_493 rfl (lv_at hl 1 rfl) ?_
    refine lv_aload_n hx hb dL_law_494 rfl (lv_at hl 3 rfl) ?_
    refine lv_iload_n hx hb dL_law_495 rfl (lv_at hl 0 rfl) ?_
    refine lv_iconst (v := 1) hx hb dL_law_496 (by decide) ?_
    refine lv_iadd hx hb dL_law_497 ?_
    refine lv_topi (fun v32 ev32 => ?_)
    rw [show nI (5 * kk) + (1 : Int32) = nI (5 * kk + 1) from nI_ad5 _ _] at ev32
    subst ev32
    refine va_sld (i := nI (5 * kk + 1)) hx hb hX hbl hbA hS (vp_in_nI (by omega) (by omega)) dL_law_498 ?_
    rw [nI_clamp (by omega)]
    refine lv_aload_n hx hb dL_law_499 rfl (lv_at hl 3 rfl) ?_
    refine lv_iload_n hx hb dL_law_500 rfl (lv_at hl 0 rfl) ?_
    refine lv_iconst (v := 2) hx hb dL_law_501 (by decide) ?_
    refine lv_iadd hx hb dL_law_502 ?_
    refine lv_topi (fun v33 ev33 => ?_)
    rw [show nI (5 * kk) + (2 : Int32) = nI (5 * kk + 2) from nI_ad5 _ _] at ev33
    subst ev33
    refine va_sld (i := nI (5 * kk + 2)) hx hb hX hbl hbA hS (vp_in_nI (by omega) (by omega)) dL_law_503 ?_
    rw [nI_clamp (by omega)]
    rw [hlit]
    refine va_calll (va_runV (As := [.int (xs (5 * kk + 1)), .int 3]) (rest := [.long r30]) ⟨hx, hb, hml, hown, hts⟩ (n_told_3 l G cy Lm Fm H.size om qm Mm Dd Sl Pp Kr Bk Xx hRm hV (xs (5 * kk + 1))) (cwV 2 hts gL_law_X9_told rfl rfl rfl (by decide +kernel) ⟨Nat.le_of_ble_eq_true rfl, Nat.le_of_ble_eq_true rfl⟩) (preV_of okQ (⟨rfl, hPm, hK, hDm.top⟩) (pl_recv hK hPm (ci := 8) rfl hom.1 hom.2)) rfl rfl hl.1 rfl (lv_room (Nat.le_of_ble_eq_true rfl)) dL_law_504 ⟨by show _ ≤ 600000; omega, by show _ ≤ 7302250; omega⟩) hS (fun q _ h => pl_free hDm hS hA q h) (pl_free hDm hS hA) (fun r34 F35 t H1 locs ht hvm hw hP1 hz1 hk1 hS1 => ?_)
    have hP := pm_keep hP (pd_flip hdis) hk1
    obtain ⟨hqr34, hRm⟩ := hw
    have hP1 : va_P G vwCl (va_pl Lm F35) t.heap := hP1
    rw [ht] at hP1
    have hPm := hP1
    have hS := hS1
    clear hS1
    generalize H1 = H at hP hPm hS ⊢
    refine W.lcmp hx hb dL_law_507 ?_
    refine lv_if_eq (tgt := 1153) hx hb dL_law_508 (by decide) (fun c36 => ?_) (fun c36 => absurd ((lg_cmp_eq _ _).mpr (by rw [hqr30, hqr34])) c36)
    refine W.widen (k := cells + 1) (n := slots + 3) (by omega) (by omega) ?_
    exact KK L F31 F35 H _ ⟨hD, hDm, hdis, qa, qm, _, _, _, _, _, _, _, hR, hRm⟩ hP hPm hS
  · refine lv_aload_n hx hb dL_law_479 rfl (lv_at hl 2 rfl) ?_
    refine lv_aload_n hx hb dL_law_480 rfl (lv_at hl 3 rfl) ?_
    refine lv_iload_n hx hb dL_law_481 rfl (lv_at hl 0 rfl) ?_
    refine lv_iconst (v := 1) hx hb dL_law_482 (by decide) ?_
    refine lv_iadd hx hb dL_law_483 ?_
    refine lv_topi (fun v37 ev37 => ?_)
    rw [show nI (5 * kk) + (1 : Int32) = nI (5 * kk + 1) from nI_ad5 _ _] at ev37
    subst ev37
    refine va_sld (i := nI (5 * kk + 1)) hx hb hX hbl hbA hS (vp_in_nI (by omega) (by omega)) dL_law_484 ?_
    rw [nI_clamp (by omega)]
    refine lv_aload_n hx hb dL_law_485 rfl (lv_at hl 3 rfl) ?_
    refine lv_iload_n hx hb dL_law_486 rfl (lv_at hl 0 rfl) ?_
    refine lv_iconst (v := 2) hx hb dL_law_487 (by decide) ?_
    refine lv_iadd hx hb dL_law_488 ?_
    refine lv_topi (fun v38 ev38 => ?_)
    rw [show nI (5 * kk) + (2 : Int32) = nI (5 * kk + 2) from nI_ad5 _ _] at ev38
    subst ev38
    refine va_sld (i := nI (5 * kk + 2)) hx hb hX hbl hbA hS (vp_in_nI (by omega) (by omega)) dL_law_489 ?_
    rw [nI_clamp (by omega)]
    refine va_calll (va_runV (As := [.int (xs (5 * kk + 1)), .int (xs (5 * kk + 2))]) (rest := []) ⟨hx, hb, hml, hown, hts⟩ (m_told_no l G cy L F ad H.size o qa Mm Dd Sl Pp Kr Bk Xx hR (xs (5 * kk + 1)) (xs (5 * kk + 2)) hno) (cwV 2 hts gL_law_X8_told rfl rfl rfl (by decide +kernel) ⟨Nat.le_of_ble_eq_true rfl, Nat.le_of_ble_eq_true rfl⟩) (preV_of okQE (⟨⟨rfl, hP, hK, hD.top⟩, (hE.kept hS.2.1).narrow (fun q h => pl_free hD hS hA q h), hN⟩) (pl_recv hK hP (ci := 7) rfl hR.1.1.1 hR.1.1.2)) rfl rfl hl.1 rfl (lv_room (Nat.le_of_ble_eq_true rfl)) dL_law_490 ⟨by show _ ≤ 600000; omega, by show _ ≤ 7302250; omega⟩) hS (fun q _ h => pl_free hD hS hA q h) (pl_free hD hS hA) (fun r39 F40 t H1 locs ht hvm hw hP1 hz1 hk1 hS1 => ?_)
    have hPm := pm_keep hPm hdis hk1
    obtain ⟨hqr39, hR⟩ := hw
    have hP1 : va_P G vwCl (va_pl L F40) t.heap := hP1
    rw [ht] at hP1
    have hP := hP1
    have hS := hS1
    clear hS1
    generalize H1 = H at hP hPm hS ⊢
    refine lv_aload_n hx hb dL_law_493 rfl (lv_at hl 1 rfl) ?_
    refine lv_aload_n hx hb dL_law_494 rfl (lv_at hl 3 rfl) ?_
    refine lv_iload_n hx hb dL_law_495 rfl (lv_at hl 0 rfl) ?_
    refine lv_iconst (v := 1) hx hb dL_law_496 (by decide) ?_
    refine lv_iadd hx hb dL_law_497 ?_
    refine lv_topi (fun v41 ev41 => ?_)
    rw [show nI (5 * kk) + (1 : Int32) = nI (5 * kk + 1) from nI_ad5 _ _] at ev41
    subst ev41
    refine va_sld (i := nI (5 * kk + 1)) hx hb hX hbl hbA hS (vp_in_nI (by omega) (by omega)) dL_law_498 ?_
    rw [nI_clamp (by omega)]
    refine lv_aload_n hx hb dL_law_499 rfl (lv_at hl 3 rfl) ?_
    refine lv_iload_n hx hb dL_law_500 rfl (lv_at hl 0 rfl) ?_
    refine lv_iconst (v := 2) hx hb dL_law_501 (by decide) ?_
    refine lv_iadd hx hb dL_law_502 ?_
    refine lv_topi (fun v42 ev42 => ?_)
    rw [show nI (5 * kk) + (2 : Int32) = nI (5 * kk + 2) from nI_ad5 _ _] at ev42
    subst ev42
    refine va_sld (i := nI (5 * kk + 2)) hx hb hX hbl hbA hS (vp_in_nI (by omega) (by omega)) dL_law_503 ?_
    rw [nI_clamp (by omega)]
    refine va_calll (va_runV (As := [.int (xs (5 * kk + 1)), .int (xs (5 * kk + 2))]) (rest := [.long r39]) ⟨hx, hb, hml, hown, hts⟩ (n_told_no l G cy Lm Fm H.size om qm Mm Dd Sl Pp Kr Bk Xx hRm hV (xs (5 * kk + 1)) (xs (5 * kk + 2)) hno) (cwV 2 hts gL_law_X9_told rfl rfl rfl (by decide +kernel) ⟨Nat.le_of_ble_eq_true rfl, Nat.le_of_ble_eq_true rfl⟩) (preV_of okQ (⟨rfl, hPm, hK, hDm.top⟩) (pl_recv hK hPm (ci := 8) rfl hom.1 hom.2)) rfl rfl hl.1 rfl (lv_room (Nat.le_of_ble_eq_true rfl)) dL_law_504 ⟨by show _ ≤ 600000; omega, by show _ ≤ 7302250; omega⟩) hS (fun q _ h => pl_free hDm hS hA q h) (pl_free hDm hS hA) (fun r43 F44 t H1 locs ht hvm hw hP1 hz1 hk1 hS1 => ?_)
    have hP := pm_keep hP (pd_flip hdis) hk1
    obtain ⟨hqr43, hRm⟩ := hw
    have hP1 : va_P G vwCl (va_pl Lm F44) t.heap := hP1
    rw [ht] at hP1
    have hPm := hP1
    have hS := hS1
    clear hS1
    generalize H1 = H at hP hPm hS ⊢
    refine W.lcmp hx hb dL_law_507 ?_
    refine lv_if_eq (tgt := 1153) hx hb dL_law_508 (by decide) (fun c45 => ?_) (fun c45 => absurd ((lg_cmp_eq _ _).mpr (by rw [hqr39, hqr43])) c45)
    refine W.widen (k := cells + 1) (n := slots + 3) (by omega) (by omega) ?_
    exact KK L F40 F44 H _ ⟨hD, hDm, hdis, qa, qm, _, _, _, _, _, _, _, hR, hRm⟩ hP hPm hS

set_option maxHeartbeats 8000000 in
set_option maxRecDepth 100000 in
theorem law_log {p : Program} {l : Launch} {e : Env} {s : State} {m : MethodId} {below : List Frame} {meth : Method} {c : Code} {Q : State → Prop} {b N : Nat} {xs : Nat → Int32} {G : va_G} {cy : Nat → ClassId} {ad : Nat → Nat} (hLX : LX p s m c b N xs G cy ad) {o om kk : Nat} (hkk : 5 * kk + 5 ≤ N) (hNN : N ≤ 2560) {L Lm : List Nat} {F Fm : Nat → va_E} {H : Heap} {locs : List Loc} {cells slots : Nat} (hcells : cells + 1 ≤ 600000) (hslots : slots + 3 ≤ 7302250) (hI : LI s cy o om L Lm F Fm) (hP : va_P G vwCl (va_pl L F) H) (hPm : va_P G vwCl (va_pl Lm Fm) H) (hS : va_S (LA s) s.heap H locs) {ls : Array Slot} (hl : lv_has ls 4 [(3, .int (nI (5 * kk))), (2, .ref om), (1, .ref o), (0, .ref b)])
    (KK : ∀ (L1 : List Nat) (F1 Fm1 : Nat → va_E) (H1 : Heap) (locs1 : List Loc), LI s cy o om L1 Lm F1 Fm1 → va_P G vwCl (va_pl L1 F1) H1 → va_P G vwCl (va_pl Lm Fm1) H1 → va_S (LA s) s.heap H1 locs1 → W p l e room_1 s m #[Value.ref b] below meth c H1 locs1 (cells + 1) (slots + 3) Q (F0 m 1153 ls [])) : W p l e room_1 s m #[Value.ref b] below meth c H locs cells slots Q (F0 m 513 ls []) := by
  obtain ⟨hx, hb, hml, hown, hts, hX, hbl, hK, hE, hN⟩ := hLX
  obtain ⟨hD, hDm, hdis, qa, qm, Mm, Dd, Sl, Pp, Kr, Bk, Xx, hR, hRm⟩ := hI
  have hA : ∀ q : Nat, s.heap.size ≤ q → LA s q := fun _ h => h
  have hbA : ¬ LA s b := Nat.not_le.mpr hbl
  have hV := hR.val
  obtain ⟨th0, oc0, hom⟩ := hRm.1
  have hPm0 := hPm
  refine lv_aload_n hx hb dL_law_513 rfl (lv_at hl 2 rfl) ?_
  refine lv_aload_n hx hb dL_law_514 rfl (lv_at hl 3 rfl) ?_
  refine lv_iload_n hx hb dL_law_515 rfl (lv_at hl 0 rfl) ?_
  refine lv_iconst (v := 1) hx hb dL_law_516 (by decide) ?_
  refine lv_iadd hx hb dL_law_517 ?_
  refine lv_topi (fun v1 ev1 => ?_)
  rw [show nI (5 * kk) + (1 : Int32) = nI (5 * kk + 1) from nI_ad5 _ _] at ev1
  subst ev1
  refine va_sld (i := nI (5 * kk + 1)) hx hb hX hbl hbA hS (vp_in_nI (by omega) (by omega)) dL_law_518 ?_
  rw [nI_clamp (by omega)]
  refine lv_aload_n hx hb dL_law_519 rfl (lv_at hl 3 rfl) ?_
  refine lv_iload_n hx hb dL_law_520 rfl (lv_at hl 0 rfl) ?_
  refine lv_iconst (v := 2) hx hb dL_law_521 (by decide) ?_
  refine lv_iadd hx hb dL_law_522 ?_
  refine lv_topi (fun v2 ev2 => ?_)
  rw [show nI (5 * kk) + (2 : Int32) = nI (5 * kk + 2) from nI_ad5 _ _] at ev2
  subst ev2
  refine va_sld (i := nI (5 * kk + 2)) hx hb hX hbl hbA hS (vp_in_nI (by omega) (by omega)) dL_law_523 ?_
  rw [nI_clamp (by omega)]
  refine va_calli (va_runV (As := [.int (xs (5 * kk + 1)), .int (xs (5 * kk + 2))]) (rest := []) ⟨hx, hb, hml, hown, hts⟩ (m_log l G cy L F ad H.size o qa Mm Dd Sl Pp Kr Bk Xx hR (xs (5 * kk + 1)) (xs (5 * kk + 2))) (cwV 2 hts gL_law_X8_log rfl rfl rfl (by decide +kernel) ⟨Nat.le_of_ble_eq_true rfl, Nat.le_of_ble_eq_true rfl⟩) (preV_of okQE (⟨⟨rfl, hP, hK, hD.top⟩, (hE.kept hS.2.1).narrow (fun q h => pl_free hD hS hA q h), hN⟩) (pl_recv hK hP (ci := 7) rfl hR.1.1.1 hR.1.1.2)) rfl rfl hl.1 rfl (lv_room (Nat.le_of_ble_eq_true rfl)) dL_law_524 ⟨by show _ ≤ 600000; omega, by show _ ≤ 7302250; omega⟩) hS (fun q _ h => pl_free hD hS hA q h) (pl_free hD hS hA) (fun r3 F4 t H1 locs ht hvm hw hP1 hz1 hk1 hS1 => ?_)
  have hPm := pm_keep hPm hdis hk1
  obtain ⟨hqr3, hR⟩ := hw
  have hP1 : va_P G vwCl (va_pl L F4) t.heap := hP1
  rw [ht] at hP1
  have hP := hP1
  have hS := hS1
  clear hS1
  generalize H1 = H at hP hPm hS ⊢
  refine lv_aload_n hx hb dL_law_527 rfl (lv_at hl 1 rfl) ?_
  refine lv_aload_n hx hb dL_law_528 rfl (lv_at hl 3 rfl) ?_
  refine lv_iload_n hx hb dL_law_529 rfl (lv_at hl 0 rfl) ?_
  refine lv_iconst (v := 1) hx hb dL_law_530 (by decide) ?_
  refine lv_iadd hx hb dL_law_531 ?_
  refine lv_topi (fun v5 ev5 => ?_)
  rw [show nI (5 * kk) + (1 : Int32) = nI (5 * kk + 1) from nI_ad5 _ _] at ev5
  subst ev5
  refine va_sld (i := nI (5 * kk + 1)) hx hb hX hbl hbA hS (vp_in_nI (by omega) (by omega)) dL_law_532 ?_
  rw [nI_clamp (by omega)]
  refine lv_aload_n hx hb dL_law_533 rfl (lv_at hl 3 rfl) ?_
  refine lv_iload_n hx hb dL_law_534 rfl (lv_at hl 0 rfl) ?_
  refine lv_iconst (v := 2) hx hb dL_law_535 (by decide) ?_
  refine lv_iadd hx hb dL_law_536 ?_
  refine lv_topi (fun v6 ev6 => ?_)
  rw [show nI (5 * kk) + (2 : Int32) = nI (5 * kk + 2) from nI_ad5 _ _] at ev6
  subst ev6
  refine va_sld (i := nI (5 * kk + 2)) hx hb hX hbl hbA hS (vp_in_nI (by omega) (by omega)) dL_law_537 ?_
  rw [nI_clamp (by omega)]
  refine va_calli (va_runV (As := [.int (xs (5 * kk + 1)), .int (xs (5 * kk + 2))]) (rest := [.int r3]) ⟨hx, hb, hml, hown, hts⟩ (n_log l G cy Lm Fm H.size om qm Mm Dd Sl Pp Kr Bk Xx hRm hV (xs (5 * kk + 1)) (xs (5 * kk + 2))) (cwV 2 hts gL_law_X9_log rfl rfl rfl (by decide +kernel) ⟨Nat.le_of_ble_eq_true rfl, Nat.le_of_ble_eq_true rfl⟩) (preV_of okQ (⟨rfl, hPm, hK, hDm.top⟩) (pl_recv hK hPm (ci := 8) rfl hom.1 hom.2)) rfl rfl hl.1 rfl (lv_room (Nat.le_of_ble_eq_true rfl)) dL_law_538 ⟨by show _ ≤ 600000; omega, by show _ ≤ 7302250; omega⟩) hS (fun q _ h => pl_free hDm hS hA q h) (pl_free hDm hS hA) (fun r7 F8 t H1 locs ht hvm hw hP1 hz1 hk1 hS1 => ?_)
  have hP := pm_keep hP (pd_flip hdis) hk1
  obtain ⟨hqr7, hRm⟩ := hw
  have hP1 : va_P G vwCl (va_pl Lm F8) t.heap := hP1
  rw [ht] at hP1
  have hPm := hP1
  have hS := hS1
  clear hS1
  generalize H1 = H at hP hPm hS ⊢
  refine lv_icmp_eq (tgt := 1153) hx hb dL_law_541 (by decide) (fun c9 => ?_) (fun c9 => absurd (by rw [hqr3, hqr7]) c9)
  refine W.widen (k := cells + 1) (n := slots + 3) (by omega) (by omega) ?_
  exact KK L F4 F8 H _ ⟨hD, hDm, hdis, qa, qm, _, _, _, _, _, _, _, hR, hRm⟩ hP hPm hS
