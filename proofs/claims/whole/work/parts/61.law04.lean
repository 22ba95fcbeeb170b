set_option maxHeartbeats 8000000 in
set_option maxRecDepth 100000 in
theorem law_reckon {p : Program} {l : Launch} {e : Env} {s : State} {m : MethodId} {below : List Frame} {meth : Method} {c : Code} {Q : State → Prop} {b N : Nat} {xs : Nat → Int32} {G : va_G} {cy : Nat → ClassId} {ad : Nat → Nat} (hLX : LX p s m c b N xs G cy ad) {o om kk : Nat} (hkk : 5 * kk + 5 ≤ N) (hNN : N ≤ 2560) {L Lm : List Nat} {F Fm : Nat → va_E} {H : Heap} {locs : List Loc} {cells slots : Nat} (hcells : cells + 1 ≤ 600000) (hslots : slots + 3 ≤ 7302250) (hI : LI s cy o om L Lm F Fm) (hP : va_P G vwCl (va_pl L F) H) (hPm : va_P G vwCl (va_pl Lm Fm) H) (hS : va_S (LA s) s.heap H locs) {ls : Array Slot} (hl : lv_has ls 4 [(3, .int (nI (5 * kk))), (2, .ref om), (1, .ref o), (0, .ref b)])
    (KK : ∀ (L1 : List Nat) (F1 Fm1 : Nat → va_E) (H1 : Heap) (locs1 : List Loc), LI s cy o om L1 Lm F1 Fm1 → va_P G vwCl (va_pl L1 F1) H1 → va_P G vwCl (va_pl Lm Fm1) H1 → va_S (LA s) s.heap H1 locs1 → W p l e room_1 s m #[Value.ref b] below meth c H1 locs1 (cells + 1) (slots + 3) Q (F0 m 1153 ls [])) : W p l e room_1 s m #[Value.ref b] below meth c H locs cells slots Q (F0 m 297 ls []) := by
  obtain ⟨hx, hb, hml, hown, hts, hX, hbl, hK, hE, hN⟩ := hLX
  obtain ⟨hD, hDm, hdis, qa, qm, Mm, Dd, Sl, Pp, Kr, Bk, Xx, hR, hRm⟩ := hI
  have hA : ∀ q : Nat, s.heap.size ≤ q → LA s q := fun _ h => h
  have hbA : ¬ LA s b := Nat.not_le.mpr hbl
  have hV := hR.val
  obtain ⟨th0, oc0, hom⟩ := hRm.1
  have hPm0 := hPm
  rcases actc (xs (5 * kk + 1)) with hlit | hlit | hlit | hlit | hlit | hno
  · refine lv_aload_n hx hb dL_law_297 rfl (lv_at hl 2 rfl) ?_
    refine lv_aload_n hx hb dL_law_298 rfl (lv_at hl 3 rfl) ?_
    refine lv_iload_n hx hb dL_law_299 rfl (lv_at hl 0 rfl) ?_
    refine lv_iconst (v := 1) hx hb dL_law_300 (by decide) ?_
    refine lv_iadd hx hb dL_law_301 ?_
    refine lv_topi (fun v1 ev1 => ?_)
    rw [show nI (5 * kk) + (1 : Int32) = nI (5 * kk + 1) from nI_ad5 _ _] at ev1
    subst ev1
    refine va_sld (i := nI (5 * kk + 1)) hx hb hX hbl hbA hS (vp_in_nI (by omega) (by omega)) dL_law_302 ?_
    rw [nI_clamp (by omega)]
    rw [hlit]
    refine lv_aload_n hx hb dL_law_303 rfl (lv_at hl 3 rfl) ?_
    refine lv_iload_n hx hb dL_law_304 rfl (lv_at hl 0 rfl) ?_
    refine lv_iconst (v := 2) hx hb dL_law_305 (by decide) ?_
    refine lv_iadd hx hb dL_law_306 ?_
    refine lv_topi (fun v2 ev2 => ?_)
    rw [show nI (5 * kk) + (2 : Int32) = nI (5 * kk + 2) from nI_ad5 _ _] at ev2
    subst ev2
    refine va_sld (i := nI (5 * kk + 2)) hx hb hX hbl hbA hS (vp_in_nI (by omega) (by omega)) dL_law_307 ?_
    rw [nI_clamp (by omega)]
    refine lv_aload_n hx hb dL_law_308 rfl (lv_at hl 3 rfl) ?_
    refine lv_iload_n hx hb dL_law_309 rfl (lv_at hl 0 rfl) ?_
    refine lv_iconst (v := 3) hx hb dL_law_310 (by decide) ?_
    refine lv_iadd hx hb dL_law_311 ?_
    refine lv_topi (fun v3 ev3 => ?_)
    rw [show nI (5 * kk) + (3 : Int32) = nI (5 * kk + 3) from nI_ad5 _ _] at ev3
    subst ev3
    refine va_sld (i := nI (5 * kk + 3)) hx hb hX hbl hbA hS (vp_in_nI (by omega) (by omega)) dL_law_312 ?_
    rw [nI_clamp (by omega)]
    refine lv_aload_n hx hb dL_law_313 rfl (lv_at hl 3 rfl) ?_
    refine lv_iload_n hx hb dL_law_314 rfl (lv_at hl 0 rfl) ?_
    refine lv_iconst (v := 4) hx hb dL_law_315 (by decide) ?_
    refine lv_iadd hx hb dL_law_316 ?_
    refine lv_topi (fun v4 ev4 => ?_)
    rw [show nI (5 * kk) + (4 : Int32) = nI (5 * kk + 4) from nI_ad5 _ _] at ev4
    subst ev4
    refine va_sld (i := nI (5 * kk + 4)) hx hb hX hbl hbA hS (vp_in_nI (by omega) (by omega)) dL_law_317 ?_
    rw [nI_clamp (by omega)]
    refine va_calli (va_runV (As := [.int 0, .int (xs (5 * kk + 2)), .int (xs (5 * kk + 3)), .int (xs (5 * kk + 4))]) (rest := []) ⟨hx, hb, hml, hown, hts⟩ (m_reckon_0 l G cy L F ad H.size o qa Mm Dd Sl Pp Kr Bk Xx hR (xs (5 * kk + 2)) (xs (5 * kk + 3)) (xs (5 * kk + 4))) (cwV 4 hts gL_law_X8_reckon rfl rfl rfl (by decide +kernel) ⟨Nat.le_of_ble_eq_true rfl, Nat.le_of_ble_eq_true rfl⟩) (preV_of okQE (⟨⟨rfl, hP, hK, hD.top⟩, (hE.kept hS.2.1).narrow (fun q h => pl_free hD hS hA q h), hN⟩) (pl_recv hK hP (ci := 7) rfl hR.1.1.1 hR.1.1.2)) rfl rfl hl.1 rfl (lv_room (Nat.le_of_ble_eq_true rfl)) dL_law_318 ⟨by show _ ≤ 600000; omega, by show _ ≤ 7302250; omega⟩) hS (fun q _ h => pl_free hD hS hA q h) (pl_free hD hS hA) (fun r5 F6 t H1 locs ht hvm hw hP1 hz1 hk1 hS1 => ?_)
    have hPm := pm_keep hPm hdis hk1
    obtain ⟨hqr5, hR⟩ := hw
    have hP1 : va_P G vwCl (va_pl L F6) t.heap := hP1
    rw [ht] at hP1
    have hP := hP1
    have hS := hS1
    clear hS1
    generalize H1 = H at hP hPm hS ⊢
    refine lv_aload_n hx hb dL_law_321 rfl (lv_at hl 1 rfl) ?_
    refine lv_aload_n hx hb dL_law_322 rfl (lv_at hl 3 rfl) ?_
    refine lv_iload_n hx hb dL_law_323 rfl (lv_at hl 0 rfl) ?_
    refine lv_iconst (v := 1) hx hb dL_law_324 (by decide) ?_
    refine lv_iadd hx hb dL_law_325 ?_
    refine lv_topi (fun v7 ev7 => ?_)
    rw [show nI (5 * kk) + (1 : Int32) = nI (5 * kk + 1) from nI_ad5 _ _] at ev7
    subst ev7
    refine va_sld (i := nI (5 * kk + 1)) hx hb hX hbl hbA hS (vp_in_nI (by omega) (by omega)) dL_law_326 ?_
    rw [nI_clamp (by omega)]
    rw [hlit]
    refine lv_aload_n hx hb dL_law_327 rfl (lv_at hl 3 rfl) ?_
    refine lv_iload_n hx hb dL_law_328 rfl (lv_at hl 0 rfl) ?_
    refine lv_iconst (v := 2) hx hb dL_law_329 (by decide) ?_
    refine lv_iadd hx hb dL_law_330 ?_
    refine lv_topi (fun v8 ev8 => ?_)
    rw [show nI (5 * kk) + (2 : Int32) = nI (5 * kk + 2) from nI_ad5 _ _] at ev8
    subst ev8
    refine va_sld (i := nI (5 * kk + 2)) hx hb hX hbl hbA hS (vp_in_nI (by omega) (by omega)) dL_law_331 ?_
    rw [nI_clamp (by omega)]
    refine lv_aload_n hx hb dL_law_332 rfl (lv_at hl 3 rfl) ?_
    refine lv_iload_n hx hb dL_law_333 rfl (lv_at hl 0 rfl) ?_
    refine lv_iconst (v := 3) hx hb dL_law_334 (by decide) ?_
    refine lv_iadd hx hb dL_law_335 ?_
    refine lv_topi (fun v9 ev9 => ?_)
    rw [show nI (5 * kk) + (3 : Int32) = nI (5 * kk + 3) from nI_ad5 _ _] at ev9
    subst ev9
    refine va_sld (i := nI (5 * kk + 3)) hx hb hX hbl hbA hS (vp_in_nI (by omega) (by omega)) dL_law_336 ?_
    rw [nI_clamp (by omega)]
    refine lv_aload_n hx hb dL_law_337 rfl (lv_at hl 3 rfl) ?_
    refine lv_iload_n hx hb dL_law_338 rfl (lv_at hl 0 rfl) ?_
    refine lv_iconst (v := 4) hx hb dL_law_339 (by decide) ?_
    refine lv_iadd hx hb dL_law_340 ?_
    refine lv_topi (fun v10 ev10 => ?_)
    rw [show nI (5 * kk) + (4 : Int32) = nI (5 * kk + 4) from nI_ad5 _ _] at ev10
    subst ev10
    refine va_sld (i := nI (5 * kk + 4)) hx hb hX hbl hbA hS (vp_in_nI (by omega) (by omega)) dL_law_341 ?_
    rw [nI_clamp (by omega)]
    refine va_calli (va_runV (As := [.int 0, .int (xs (5 * kk + 2)), .int (xs (5 * kk + 3)), .int (xs (5 * kk + 4))]) (rest := [.int r5]) ⟨hx, hb, hml, hown, hts⟩ (n_reckon_0 l G cy Lm Fm H.size om qm Mm Dd Sl Pp Kr Bk Xx hRm hV (xs (5 * kk + 2)) (xs (5 * kk + 3)) (xs (5 * kk + 4))) (cwV 4 hts gL_law_X9_reckon rfl rfl rfl (by decide +kernel) ⟨Nat.le_of_ble_eq_true rfl, Nat.le_of_ble_eq_true rfl⟩) (preV_of okQ (⟨rfl, hPm, hK, hDm.top⟩) (pl_recv hK hPm (ci := 8) rfl hom.1 hom.2)) rfl rfl hl.1 rfl (lv_room (Nat.le_of_ble_eq_true rfl)) dL_law_342 ⟨by show _ ≤ 600000; omega, by show _ ≤ 7302250; omega⟩) hS (fun q _ h => pl_free hDm hS hA q h) (pl_free hDm hS hA) (fun r11 F12 t H1 locs ht hvm hw hP1 hz1 hk1 hS1 => ?_)
    have hP := pm_keep hP (pd_flip hdis) hk1
    obtain ⟨hqr11, hRm⟩ := hw
    have hP1 : va_P G vwCl (va_pl Lm F12) t.heap := hP1
    rw [ht] at hP1
    have hPm := hP1
    have hS := hS1
    clear hS1
    generalize H1 = H at hP hPm hS ⊢
    refine lv_icmp_eq (tgt := 1153) hx hb dL_law_345 (by decide) (fun c13 => ?_) (fun c13 => absurd (by rw [hqr5, hqr11]) c13)
    refine W.widen (k := cells + 1) (n := slots + 3) (by omega) (by omega) ?_
    exact KK L F6 F12 H _ ⟨hD, hDm, hdis, qa, qm, _, _, _, _, _, _, _, hR, hRm⟩ hP hPm hS
  · refine lv_aload_n hx hb dL_law_297 rfl (lv_at hl 2 rfl) ?_
    refine lv_aload_n hx hb dL_law_298 rfl (lv_at hl 3 rfl) ?_
    refine lv_iload_n hx hb dL_law_299 rfl (lv_at hl 0 rfl) ?_
    refine lv_iconst (v := 1) hx hb dL_law_300 (by decide) ?_
    refine lv_iadd hx hb dL_law_301 ?_
    refine lv_topi (fun v14 ev14 => ?_)
    rw [show nI (5 * kk) + (1 : Int32) = nI (5 * kk + 1) from nI_ad5 _ _] at ev14
    subst ev14
    refine va_sld (i := nI (5 * kk + 1)) hx hb hX hbl hbA hS (vp_in_nI (by omega) (by omega)) dL_law_302 ?_
    rw [nI_clamp (by omega)]
    rw [hlit]
    refine lv_aload_n hx hb dL_law_303 rfl (lv_at hl 3 rfl) ?_
    refine lv_iload_n hx hb dL_law_304 rfl (lv_at hl 0 rfl) ?_
    refine lv_iconst (v := 2) hx hb dL_law_305 (by decide) ?_
    refine lv_iadd hx hb dL_law_306 ?_
    refine lv_topi (fun v15 ev15 => ?_)
    rw [show nI (5 * kk) + (2 : Int32) = nI (5 * kk + 2) from nI_ad5 _ _] at ev15
    subst ev15
    refine va_sld (i := nI (5 * kk + 2)) hx hb hX hbl hbA hS (vp_in_nI (by omega) (by omega)) dL_law_307 ?_
    rw [nI_clamp (by omega)]
    refine lv_aload_n hx hb dL_law_308 rfl (lv_at hl 3 rfl) ?_
    refine lv_iload_n hx hb dL_law_309 rfl (lv_at hl 0 rfl) ?_
    refine lv_iconst (v := 3) hx hb dL_law_310 (by decide) ?_
    refine lv_iadd hx hb dL_law_311 ?_
    refine lv_topi (fun v16 ev16 => ?_)
    rw [show nI (5 * kk) + (3 : Int32) = nI (5 * kk + 3) from nI_ad5 _ _] at ev16
    subst ev16
    refine va_sld (i := nI (5 * kk + 3)) hx hb hX hbl hbA hS (vp_in_nI (by omega) (by omega)) dL_law_312 ?_
    rw [nI_clamp (by omega)]
    refine lv_aload_n hx hb dL_law_313 rfl (lv_at hl 3 rfl) ?_
    refine lv_iload_n hx hb dL_law_314 rfl (lv_at hl 0 rfl) ?_
    refine lv_iconst (v := 4) hx hb dL_law_315 (by decide) ?_
    refine lv_iadd hx hb dL_law_316 ?_
    refine lv_topi (fun v17 ev17 => ?_)
    rw [show nI (5 * kk) + (4 : Int32) = nI (5 * kk + 4) from nI_ad5 _ _] at ev17
    subst ev17
    refine va_sld (i := nI (5 * kk + 4)) hx hb hX hbl hbA hS (vp_in_nI (by omega) (by omega)) dL_law_317 ?_
    rw [nI_clamp (by omega)]
    refine va_calli (va_runV (As := [.int 1, .int (xs (5 * kk + 2)), .int (xs (5 * kk + 3)), .int (xs (5 * kk + 4))]) (rest := []) ⟨hx, hb, hml, hown, hts⟩ (m_reckon_1 l G cy L F ad H.size o qa Mm Dd Sl Pp Kr Bk Xx hR (xs (5 * kk + 2)) (xs (5 * kk + 3)) (xs (5 * kk + 4))) (cwV 4 hts gL_law_X8_reckon rfl rfl rfl (by decide +kernel) ⟨Nat.le_of_ble_eq_true rfl, Nat.le_of_ble_eq_true rfl⟩) (preV_of okQE (⟨⟨rfl, hP, hK, hD.top⟩, (hE.kept hS.2.1).narrow (fun q h => pl_free hD hS hA q h), hN⟩) (pl_recv hK hP (ci := 7) rfl hR.1.1.1 hR.1.1.2)) rfl rfl hl.1 rfl (lv_room (Nat.le_of_ble_eq_true rfl)) dL_law_318 ⟨by show _ ≤ 600000; omega, by show _ ≤ 7302250; omega⟩) hS (fun q _ h => pl_free hD hS hA q h) (pl_free hD hS hA) (fun r18 F19 t H1 locs ht hvm hw hP1 hz1 hk1 hS1 => ?_)
    have hPm := pm_keep hPm hdis hk1
    obtain ⟨hqr18, hR⟩ := hw
    have hP1 : va_P G vwCl (va_pl L F19) t.heap := hP1
    rw [ht] at hP1
    have hP := hP1
    have hS := hS1
    clear hS1
    generalize H1 = H at hP hPm hS ⊢
    refine lv_aload_n hx hb dL_law_321 rfl (lv_at hl 1 rfl) ?_
    refine lv_aload_n hx hb dL_law_322 rfl (lv_at hl 3 rfl) ?_
    refine lv_iload_n hx hb dL_law_323 rfl (lv_at hl 0 rfl) ?_
    refine lv_iconst (v := 1) hx hb dL_law_324 (by decide) ?_
    refine lv_iadd hx hb dL_law_325 ?_
    refine lv_topi (fun v20 ev20 => ?_)
    rw [show nI (5 * kk) + (1 : Int32) = nI (5 * kk + 1) from nI_ad5 _ _] at ev20
    subst ev20
    refine va_sld (i := nI (5 * kk + 1)) hx hb hX hbl hbA hS (vp_in_nI (by omega) (by omega)) dL_law_326 ?_
    rw [nI_clamp (by omega)]
    rw [hlit]
    refine lv_aload_n hx hb dL_law_327 rfl (lv_at hl 3 rfl) ?_
    refine lv_iload_n hx hb dL_law_328 rfl (lv_at hl 0 rfl) ?_
    refine lv_iconst (v := 2) hx hb dL_law_329 (by decide) ?_
    refine lv_iadd hx hb dL_law_330 ?_
    refine lv_topi (fun v21 ev21 => ?_)
    rw [show nI (5 * kk) + (2 : Int32) = nI (5 * kk + 2) from nI_ad5 _ _] at ev21
    subst ev21
    refine va_sld (i := nI (5 * kk + 2)) hx hb hX hbl hbA hS (vp_in_nI (by omega) (by omega)) dL_law_331 ?_
    rw [nI_clamp (by omega)]
    refine lv_aload_n hx hb dL_law_332 rfl (lv_at hl 3 rfl) ?_
    refine lv_iload_n hx hb dL_law_333 rfl (lv_at hl 0 rfl) ?_
    refine lv_iconst (v := 3) hx hb dL_law_334 (by decide) ?_
    refine lv_iadd hx hb dL_law_335 ?_
    refine lv_topi (fun v22 ev22 => ?_)
    rw [show nI (5 * kk) + (3 : Int32) = nI (5 * kk + 3) from nI_ad5 _ _] at ev22
    subst ev22
    refine va_sld (i := nI (5 * kk + 3)) hx hb hX hbl hbA hS (vp_in_nI (by omega) (by omega)) dL_law_336 ?_
    rw [nI_clamp (by omega)]
    refine lv_aload_n hx hb dL_law_337 rfl (lv_at hl 3 rfl) ?_
    refine lv_iload_n hx hb dL_law_338 rfl (lv_at hl 0 rfl) ?_
    refine lv_iconst (v := 4) hx hb dL_law_339 (by decide) ?_
    refine lv_iadd hx hb dL_law_340 ?_
    refine lv_topi (fun v23 ev23 => ?_)
    rw [show nI (5 * kk) + (4 : Int32) = nI (5 * kk + 4) from nI_ad5 _ _] at ev23
    subst ev23
    refine va_sld (i := nI (5 * kk + 4)) hx hb hX hbl hbA hS (vp_in_nI (by omega) (by omega)) dL_law_341 ?_
    rw [nI_clamp (by omega)]
    refine va_calli (va_runV (As := [.int 1, .int (xs (5 * kk + 2)), .int (xs (5 * kk + 3)), .int (xs (5 * kk + 4))]) (rest := [.int r18]) ⟨hx, hb, hml, hown, hts⟩ (n_reckon_1 l G cy Lm Fm H.size om qm Mm Dd Sl Pp Kr Bk Xx hRm hV (xs (5 * kk + 2)) (xs (5 * kk + 3)) (xs (5 * kk + 4))) (cwV 4 hts gL_law_X9_reckon rfl rfl rfl (by decide +kernel) ⟨Nat.le_of_ble_eq_true rfl, Nat.le_of_ble_eq_true rfl⟩) (preV_of okQ (⟨rfl, hPm, hK, hDm.top⟩) (pl_recv hK hPm (ci := 8) rfl hom.1 hom.2)) rfl rfl hl.1 rfl (lv_room (Nat.le_of_ble_eq_true rfl)) dL_law_342 ⟨by show _ ≤ 600000; omega, by show _ ≤ 7302250; omega⟩) hS (fun q _ h => pl_free hDm hS hA q h) (pl_free hDm hS hA) (fun r24 F25 t H1 locs ht hvm hw hP1 hz1 hk1 hS1 => ?_)
    have hP := pm_keep hP (pd_flip hdis) hk1
    obtain ⟨hqr24, hRm⟩ := hw
    have hP1 : va_P G vwCl (va_pl Lm F25) t.heap := hP1
    rw [ht] at hP1
    have hPm := hP1
    have hS := hS1
    clear hS1
    generalize H1 = H at hP hPm hS ⊢
    refine lv_icmp_eq (tgt := 1153) hx hb dL_law_345 (by decide) (fun c26 => ?_) (fun c26 => absurd (by rw [hqr18, hqr24]) c26)
    refine W.widen (k := cells + 1) (n := slots + 3) (by omega) (by omega) ?_
    exact KK L F19 F25 H _ ⟨hD, hDm, hdis, qa, qm, _, _, _, _, _, _, _, hR, hRm⟩ hP hPm hS
  · refine lv_aload_n hx hb dL_law_297 rfl (lv_at hl 2 rfl) ?_
    refine lv_aload_n hx hb dL_law_298 rfl (lv_at hl 3 rfl) ?_
    refine lv_iload_n hx hb dL_law_299 rfl (lv_at hl 0 rfl) ?_
    refine lv_iconst (v := 1) hx hb dL_law_300 (by decide) ?_
    refine lv_iadd hx hb dL_law_301 ?_
    refine lv_topi (fun v27 ev27 => ?_)
    rw [show nI (5 * kk) + (1 : Int32) = nI (5 * kk + 1) from nI_ad5 _ _] at ev27
    subst ev27
    refine va_sld (i := nI (5 * kk + 1)) hx hb hX hbl hbA hS (vp_in_nI (by omega) (by omega)) dL_law_302 ?_
    rw [nI_clamp (by omega)]
    rw [hlit]
    refine lv_aload_n hx hb dL_law_303 rfl (lv_at hl 3 rfl) ?_
    refine lv_iload_n hx hb dL_law_304 rfl (lv_at hl 0 rfl) ?_
    refine lv_iconst (v := 2) hx hb dL_law_305 (by decide) ?_
    refine lv_iadd hx hb dL_law_306 ?_
    refine lv_topi (fun v28 ev28 => ?_)
    rw [show nI (5 * kk) + (2 : Int32) = nI (5 * kk + 2) from nI_ad5 _ _] at ev28
    subst ev28
    refine va_sld (i := nI (5 * kk + 2)) hx hb hX hbl hbA hS (vp_in_nI (by omega) (by omega)) dL_law_307 ?_
    rw [nI_clamp (by omega)]
    refine lv_aload_n hx hb dL_law_308 rfl (lv_at hl 3 rfl) ?_
    refine lv_iload_n hx hb dL_law_309 rfl (lv_at hl 0 rfl) ?_
    refine lv_iconst (v := 3) hx hb dL_law_310 (by decide) ?_
    refine lv_iadd hx hb dL_law_311 ?_
    refine lv_topi (fun v29 ev29 => ?_)
    rw [show nI (5 * kk) + (3 : Int32) = nI (5 * kk + 3) from nI_ad5 _ _] at ev29
    subst ev29
    refine va_sld (i := nI (5 * kk + 3)) hx hb hX hbl hbA hS (vp_in_nI (by omega) (by omega)) dL_law_312 ?_
    rw [nI_clamp (by omega)]
    refine lv_aload_n hx hb dL_law_313 rfl (lv_at hl 3 rfl) ?_
    refine lv_iload_n hx hb dL_law_314 rfl (lv_at hl 0 rfl) ?_
    refine lv_iconst (v := 4) hx hb dL_law_315 (by decide) ?_
    refine lv_iadd hx hb dL_law_316 ?_
    refine lv_topi (fun v30 ev30 => ?_)
    rw [show nI (5 * kk) + (4 : Int32) = nI (5 * kk + 4) from nI_ad5 _ _] at ev30
    subst ev30
    refine va_sld (i := nI (5 * kk + 4)) hx hb hX hbl hbA hS (vp_in_nI (by omega) (by omega)) dL_law_317 ?_
    rw [nI_clamp (by omega)]
    refine va_calli (va_runV (As := [.int 2, .int (xs (5 * kk + 2)), .int (xs (5 * kk + 3)), .int (xs (5 * kk + 4))]) (rest := []) ⟨hx, hb, hml, hown, hts⟩ (m_reckon_2 l G cy L F ad H.size o qa Mm Dd Sl Pp Kr Bk Xx hR (xs (5 * kk + 2)) (xs (5 * kk + 3)) (xs (5 * kk + 4))) (cwV 4 hts gL_law_X8_reckon rfl rfl rfl (by decide +kernel) ⟨Nat.le_of_ble_eq_true rfl, Nat.le_of_ble_eq_true rfl⟩) (preV_of okQE (⟨⟨rfl, hP, hK, hD.top⟩, (hE.kept hS.2.1).narrow (fun q h => pl_free hD hS hA q h), hN⟩) (pl_recv hK hP (ci := 7) rfl hR.1.1.1 hR.1.1.2)) rfl rfl hl.1 rfl (lv_room (Nat.le_of_ble_eq_true rfl)) dL_law_318 ⟨by show _ ≤ 600000; omega, by show _ ≤ 7302250; omega⟩) hS (fun q _ h => pl_free hD hS hA q h) (pl_free hD hS hA) (fun r31 F32 t H1 locs ht hvm hw hP1 hz1 hk1 hS1 => ?_)
    have hPm := pm_keep hPm hdis hk1
    obtain ⟨hqr31, hR⟩ := hw
    have hP1 : va_P G vwCl (va_pl L F32) t.heap := hP1
    rw [ht] at hP1
    have hP := hP1
    have hS := hS1
    clear hS1
    generalize H1 = H at hP hPm hS ⊢
    refine lv_aload_n hx hb dL_law_321 rfl (lv_at hl 1 rfl) ?_
    refine lv_aload_n hx hb dL_law_322 rfl (lv_at hl 3 rfl) ?_
    refine lv_iload_n hx hb dL_law_323 rfl (lv_at hl 0 rfl) ?_
    refine lv_iconst (v := 1) hx hb dL_law_324 (by decide) ?_
    refine lv_iadd hx hb dL_law_325 ?_
    refine lv_topi (fun v33 ev33 => ?_)
    rw [show nI (5 * kk) + (1 : Int32) = nI (5 * kk + 1) from nI_ad5 _ _] at ev33
    subst ev33
    refine va_sld (i := nI (5 * kk + 1)) hx hb hX hbl hbA hS (vp_in_nI (by omega) (by omega)) dL_law_326 ?_
    rw [nI_clamp (by omega)]
    rw [hlit]
    refine lv_aload_n hx hb dL_law_327 rfl (lv_at hl 3 rfl) ?_
    refine lv_iload_n hx hb dL_law_328 rfl (lv_at hl 0 rfl) ?_
    refine lv_iconst (v := 2) hx hb dL_law_329 (by decide) ?_
    refine lv_iadd hx hb dL_law_330 ?_
    refine lv_topi (fun v34 ev34 => ?_)
    rw [show nI (5 * kk) + (2 : Int32) = nI (5 * kk + 2) from nI_ad5 _ _] at ev34
    subst ev34
    refine va_sld (i := nI (5 * kk + 2)) hx hb hX hbl hbA hS (vp_in_nI (by omega) (by omega)) dL_law_331 ?_
    rw [nI_clamp (by omega)]
    refine lv_aload_n hx hb dL_law_332 rfl (lv_at hl 3 rfl) ?_
    refine lv_iload_n hx hb dL_law_333 rfl (lv_at hl 0 rfl) ?_
    refine lv_iconst (v := 3) hx hb dL_law_334 (by decide) ?_
    refine lv_iadd hx hb dL_law_335 ?_
    refine lv_topi (fun v35 ev35 => ?_)
    rw [show nI (5 * kk) + (3 : Int32) = nI (5 * kk + 3) from nI_ad5 _ _] at ev35
    subst ev35
    refine va_sld (i := nI (5 * kk + 3)) hx hb hX hbl hbA hS (vp_in_nI (by omega) (by omega)) dL_law_336 ?_
    rw [nI_clamp (by omega)]
    refine lv_aload_n hx hb dL_law_337 rfl (lv_at hl 3 rfl) ?_
    refine lv_iload_n hx hb dL_law_338 rfl (lv_at hl 0 rfl) ?_
    refine lv_iconst (v := 4) hx hb dL_law_339 (by decide) ?_
    refine lv_iadd hx hb dL_law_340 ?_
    refine lv_topi (fun v36 ev36 => ?_)
    rw [show nI (5 * kk) + (4 : Int32) = nI (5 * kk + 4) from nI_ad5 _ _] at ev36
    subst ev36
    refine va_sld (i := nI (5 * kk + 4)) hx hb hX hbl hbA hS (vp_in_nI (by omega) (by omega)) dL_law_341 ?_
    rw [nI_clamp (by omega)]
    refine va_calli (va_runV (As := [.int 2, .int (xs (5 * kk + 2)), .int (xs (5 * kk + 3)), .int (xs (5 * kk + 4))]) (rest := [.int r31]) ⟨hx, hb, hml, hown, hts⟩ (n_reckon_2 l G cy Lm Fm H.size om qm Mm Dd Sl Pp Kr Bk Xx hRm hV (xs (5 * kk + 2)) (xs (5 * kk + 3)) (xs (5 * kk + 4))) (cwV 4 hts gL_law_X9_reckon rfl rfl rfl (by decide +kernel) ⟨Nat.le_of_ble_eq_true rfl, Nat.le_of_ble_eq_true rfl⟩) (preV_of okQ (⟨rfl, hPm, hK, hDm.top⟩) (pl_recv hK hPm (ci := 8) rfl hom.1 hom.2)) rfl rfl hl.1 rfl (lv_room (Nat.le_of_ble_eq_true rfl)) dL_law_342 ⟨by show _ ≤ 600000; omega, by show _ ≤ 7302250; omega⟩) hS (fun q _ h => pl_free hDm hS hA q h) (pl_free hDm hS hA) (fun r37 F38 t H1 locs ht hvm hw hP1 hz1 hk1 hS1 => ?_)
    have hP := pm_keep hP (pd_flip hdis) hk1
    obtain ⟨hqr37, hRm⟩ := hw
    have hP1 : va_P G vwCl (va_pl Lm F38) t.heap := hP1
    rw [ht] at hP1
    have hPm := hP1
    have hS := hS1
    clear hS1
    generalize H1 = H at hP hPm hS ⊢
    refine lv_icmp_eq (tgt := 1153) hx hb dL_law_345 (by decide) (fun c39 => ?_) (fun c39 => absurd (by rw [hqr31, hqr37]) c39)
    refine W.widen (k := cells + 1) (n := slots + 3) (by omega) (by omega) ?_
    exact KK L F32 F38 H _ ⟨hD, hDm, hdis, qa, qm, _, _, _, _, _, _, _, hR, hRm⟩ hP hPm hS
  · refine lv_aload_n hx hb dL_law_297 rfl (lv_at hl 2 rfl) ?_
    refine lv_aload_n hx hb dL_law_298 rfl (lv_at hl 3 rfl) ?_
    refine lv_iload_n hx hb dL_law_299 rfl (lv_at hl 0 rfl) ?_
    refine lv_iconst (v := 1) hx hb dL_law_300 (by decide) ?_
    refine lv_iadd hx hb dL_law_301 ?_
    refine lv_topi (fun v40 ev40 => ?_)
    rw [show nI (5 * kk) + (1 : Int32) = nI (5 * kk + 1) from nI_ad5 _ _] at ev40
    subst ev40
    refine va_sld (i := nI (5 * kk + 1)) hx hb hX hbl hbA hS (vp_in_nI (by omega) (by omega)) dL_law_302 ?_
    rw [nI_clamp (by omega)]
    rw [hlit]
    refine lv_aload_n hx hb dL_law_303 rfl (lv_at hl 3 rfl) ?_
    refine lv_iload_n hx hb dL_law_304 rfl (lv_at hl 0 rfl) ?_
    refine lv_iconst (v := 2) hx hb dL_law_305 (by decide) ?_
    refine lv_iadd hx hb dL_law_306 ?_
    refine lv_topi (fun v41 ev41 => ?_)
    rw [show nI (5 * kk) + (2 : Int32) = nI (5 * kk + 2) from nI_ad5 _ _] at ev41
    subst ev41
    refine va_sld (i := nI (5 * kk + 2)) hx hb hX hbl hbA hS (vp_in_nI (by omega) (by omega)) dL_law_307 ?_
    rw [nI_clamp (by omega)]
    refine lv_aload_n hx hb dL_law_308 rfl (lv_at hl 3 rfl) ?_
    refine lv_iload_n hx hb dL_law_309 rfl (lv_at hl 0 rfl) ?_
    refine lv_iconst (v := 3) hx hb dL_law_310 (by decide) ?_
    refine lv_iadd hx hb dL_law_311 ?_
    refine lv_topi (fun v42 ev42 => ?_)
    rw [show nI (5 * kk) + (3 : Int32) = nI (5 * kk + 3) from nI_ad5 _ _] at ev42
    subst ev42
    refine va_sld (i := nI (5 * kk + 3)) hx hb hX hbl hbA hS (vp_in_nI (by omega) (by omega)) dL_law_312 ?_
    rw [nI_clamp (by omega)]
    refine lv_aload_n hx hb dL_law_313 rfl (lv_at hl 3 rfl) ?_
    refine lv_iload_n hx hb dL_law_314 rfl (lv_at hl 0 rfl) ?_
    refine lv_iconst (v := 4) hx hb dL_law_315 (by decide) ?_
    refine lv_iadd hx hb dL_law_316 ?_
    refine lv_topi (fun v43 ev43 => ?_)
    rw [show nI (5 * kk) + (4 : Int32) = nI (5 * kk + 4) from nI_ad5 _ _] at ev43
    subst ev43
    refine va_sld (i := nI (5 * kk + 4)) hx hb hX hbl hbA hS (vp_in_nI (by omega) (by omega)) dL_law_317 ?_
    rw [nI_clamp (by omega)]
    refine va_calli (va_runV (As := [.int 3, .int (xs (5 * kk + 2)), .int (xs (5 * kk + 3)), .int (xs (5 * kk + 4))]) (rest := []) ⟨hx, hb, hml, hown, hts⟩ (m_reckon_3 l G cy L F ad H.size o qa Mm Dd Sl Pp Kr Bk Xx hR (xs (5 * kk + 2)) (xs (5 * kk + 3)) (xs (5 * kk + 4))) (cwV 4 hts gL_law_X8_reckon rfl rfl rfl (by decide +kernel) ⟨Nat.le_of_ble_eq_true rfl, Nat.le_of_ble_eq_true rfl⟩) (preV_of okQE (⟨⟨rfl, hP, hK, hD.top⟩, (hE.kept hS.2.1).narrow (fun q h => pl_free hD hS hA q h), hN⟩) (pl_recv hK hP (ci := 7) rfl hR.1.1.1 hR.1.1.2)) rfl rfl hl.1 rfl (lv_room (Nat.le_of_ble_eq_true rfl)) dL_law_318 ⟨by show _ ≤ 600000; omega, by show _ ≤ 7302250; omega⟩) hS (fun q _ h => pl_free hD hS hA q h) (pl_free hD hS hA) (fun r44 F45 t H1 locs ht hvm hw hP1 hz1 hk1 hS1 => ?_)
    have hPm := pm_keep hPm hdis hk1
    obtain ⟨hqr44, hR⟩ := hw
    have hP1 : va_P G vwCl (va_pl L F45) t.heap := hP1
    rw [ht] at hP1
    have hP := hP1
    have hS := hS1
    clear hS1
    generalize H1 = H at hP hPm hS ⊢
    refine lv_aload_n hx hb dL_law_321 rfl (lv_at hl 1 rfl) ?_
    refine lv_aload_n hx hb dL_law_322 rfl (lv_at hl 3 rfl) ?_
    refine lv_iload_n hx hb dL_law_323 rfl (lv_at hl 0 rfl) ?_
    refine lv_iconst (v := 1) hx hb dL_law_324 (by decide) ?_
    refine lv_iadd hx hb dL_law_325 ?_
    refine lv_topi (fun v46 ev46 => ?_)
    rw [show nI (5 * kk) + (1 : Int32) = nI (5 * kk + 1) from nI_ad5 _ _] at ev46
    subst ev46
    refine va_sld (i := nI (5 * kk + 1)) hx hb hX hbl hbA hS (vp_in_nI (by omega) (by omega)) dL_law_326 ?_
    rw [nI_clamp (by omega)]
    rw [hlit]
    refine lv_aload_n hx hb dL_law_327 rfl (lv_at hl 3 rfl) ?_
    refine lv_iload_n hx hb dL_law_328 rfl (lv_at hl 0 rfl) ?_
    refine lv_iconst (v := 2) hx hb dL_law_329 (by decide) ?_
    refine lv_iadd hx hb dL_law_330 ?_
    refine lv_topi (fun v47 ev47 => ?_)
    rw [show nI (5 * kk) + (2 : Int32) = nI (5 * kk + 2) from nI_ad5 _ _] at ev47
    subst ev47
    refine va_sld (i := nI (5 * kk + 2)) hx hb hX hbl hbA hS (vp_in_nI (by omega) (by omega)) dL_law_331 ?_
    rw [nI_clamp (by omega)]
    refine lv_aload_n hx hb dL_law_332 rfl (lv_at hl 3 rfl) ?_
    refine lv_iload_n hx hb dL_law_333 rfl (lv_at hl 0 rfl) ?_
    refine lv_iconst (v := 3) hx hb dL_law_334 (by decide) ?_
    refine lv_iadd hx hb dL_law_335 ?_
    refine lv_topi (fun v48 ev48 => ?_)
    rw [show nI (5 * kk) + (3 : Int32) = nI (5 * kk + 3) from nI_ad5 _ _] at ev48
    subst ev48
    refine va_sld (i := nI (5 * kk + 3)) hx hb hX hbl hbA hS (vp_in_nI (by omega) (by omega)) dL_law_336 ?_
    rw [nI_clamp (by omega)]
    refine lv_aload_n hx hb dL_law_337 rfl (lv_at hl 3 rfl) ?_
    refine lv_iload_n hx hb dL_law_338 rfl (lv_at hl 0 rfl) ?_
    refine lv_iconst (v := 4) hx hb dL_law_339 (by decide) ?_
    refine lv_iadd hx hb dL_law_340 ?_
    refine lv_topi (fun v49 ev49 => ?_)
    rw [show nI (5 * kk) + (4 : Int32) = nI (5 * kk + 4) from nI_ad5 _ _] at ev49
    subst ev49
    refine va_sld (i := nI (5 * kk + 4)) hx hb hX hbl hbA hS (vp_in_nI (by omega) (by omega)) dL_law_341 ?_
    rw [nI_clamp (by omega)]
    refine va_calli (va_runV (As := [.int 3, .int (xs (5 * kk + 2)), .int (xs (5 * kk + 3)), .int (xs (5 * kk + 4))]) (rest := [.int r44]) ⟨hx, hb, hml, hown, hts⟩ (n_reckon_3 l G cy Lm Fm H.size om qm Mm Dd Sl Pp Kr Bk Xx hRm hV (xs (5 * kk + 2)) (xs (5 * kk + 3)) (xs (5 * kk + 4))) (cwV 4 hts gL_law_X9_reckon rfl rfl rfl (by decide +kernel) ⟨Nat.le_of_ble_eq_true rfl, Nat.le_of_ble_eq_true rfl⟩) (preV_of okQ (⟨rfl, hPm, hK, hDm.top⟩) (pl_recv hK hPm (ci := 8) rfl hom.1 hom.2)) rfl rfl hl.1 rfl (lv_room (Nat.le_of_ble_eq_true rfl)) dL_law_342 ⟨by show _ ≤ 600000; omega, by show _ ≤ 7302250; omega⟩) hS (fun q _ h => pl_free hDm hS hA q h) (pl_free hDm hS hA) (fun r50 F51 t H1 locs ht hvm hw hP1 hz1 hk1 hS1 => ?_)
    have hP := pm_keep hP (pd_flip hdis) hk1
    obtain ⟨hqr50, hRm⟩ := hw
    have hP1 : va_P G vwCl (va_pl Lm F51) t.heap := hP1
    rw [ht] at hP1
    have hPm := hP1
    have hS := hS1
    clear hS1
    generalize H1 = H at hP hPm hS ⊢
    refine lv_icmp_eq (tgt := 1153) hx hb dL_law_345 (by decide) (fun c52 => ?_) (fun c52 => absurd (by rw [hqr44, hqr50]) c52)
    refine W.widen (k := cells + 1) (n := slots + 3) (by omega) (by omega) ?_
    exact KK L F45 F51 H _ ⟨hD, hDm, hdis, qa, qm, _, _, _, _, _, _, _, hR, hRm⟩ hP hPm hS
  · refine lv_aload_n hx hb dL_law_297 rfl (lv_at hl 2 rfl) ?_
    refine lv_aload_n hx hb dL_law_298 rfl (lv_at hl 3 rfl) ?_
    refine lv_iload_n hx hb dL_law_299 rfl (lv_at hl 0 rfl) ?_
    refine lv_iconst (v := 1) hx hb dL_law_300 (by decide) ?_
    refine lv_iadd hx hb dL_law_301 ?_
    refine lv_topi (fun v53 ev53 => ?_)
    rw [show nI (5 * kk) + (1 : Int32) = nI (5 * kk + 1) from nI_ad5 _ _] at ev53
    subst ev53
    refine va_sld (i := nI (5 * kk + 1)) hx hb hX hbl hbA hS (vp_in_nI (by omega) (by omega)) dL_law_302 ?_
    rw [nI_clamp (by omega)]
    rw [hlit]
    refine lv_aload_n hx hb dL_law_303 rfl (lv_at hl 3 rfl) ?_
    refine lv_iload_n hx hb dL_law_304 rfl (lv_at hl 0 rfl) ?_
    refine lv_iconst (v := 2) hx hb dL_law_305 (by decide) ?_
    refine lv_iadd hx hb dL_law_306 ?_
    refine lv_topi (fun v54 ev54 => ?_)
    rw [show nI (5 * kk) + (2 : Int32) = nI (5 * kk + 2) from nI_ad5 _ _] at ev54
    subst ev54
    refine va_sld (i := nI (5 * kk + 2)) hx hb hX hbl hbA hS (vp_in_nI (by omega) (by omega)) dL_law_307 ?_
    rw [nI_clamp (by omega)]
    refine lv_aload_n hx hb dL_law_308 rfl (lv_at hl 3 rfl) ?_
    refine lv_iload_n hx hb dL_law_309 rfl (lv_at hl 0 rfl) ?_
    refine lv_iconst (v := 3) hx hb dL_law_310 (by decide) ?_
    refine lv_iadd hx hb dL_law_311 ?_
    refine lv_topi (fun v55 ev55 => ?_)
    rw [show nI (5 * kk) + (3 : Int32) = nI (5 * kk + 3) from nI_ad5 _ _] at ev55
    subst ev55
    refine va_sld (i := nI (5 * kk + 3)) hx hb hX hbl hbA hS (vp_in_nI (by omega) (by omega)) dL_law_312 ?_
    rw [nI_clamp (by omega)]
    refine lv_aload_n hx hb dL_law_313 rfl (lv_at hl 3 rfl) ?_
    refine lv_iload_n hx hb dL_law_314 rfl (lv_at hl 0 rfl) ?_
    refine lv_iconst (v := 4) hx hb dL_law_315 (by decide) ?_
    refine lv_iadd hx hb dL_law_316 ?_
    refine lv_topi (fun v56 ev56 => ?_)
    rw [show nI (5 * kk) + (4 : Int32) = nI (5 * kk + 4) from nI_ad5 _ _] at ev56
    subst ev56
    refine va_sld (i := nI (5 * kk + 4)) hx hb hX hbl hbA hS (vp_in_nI (by omega) (by omega)) dL_law_317 ?_
    rw [nI_clamp (by omega)]
    refine va_calli (va_runV (As := [.int 4, .int (xs (5 * kk + 2)), .int (xs (5 * kk + 3)), .int (xs (5 * kk + 4))]) (rest := []) ⟨hx, hb, hml, hown, hts⟩ (m_reckon_4 l G cy L F ad H.size o qa Mm Dd Sl Pp Kr Bk Xx hR (xs (5 * kk + 2)) (xs (5 * kk + 3)) (xs (5 * kk + 4))) (cwV 4 hts gL_law_X8_reckon rfl rfl rfl (by decide +kernel) ⟨Nat.le_of_ble_eq_true rfl, Nat.le_of_ble_eq_true rfl⟩) (preV_of okQE (⟨⟨rfl, hP, hK, hD.top⟩, (hE.kept hS.2.1).narrow (fun q h => pl_free hD hS hA q h), hN⟩) (pl_recv hK hP (ci := 7) rfl hR.1.1.1 hR.1.1.2)) rfl rfl hl.1 rfl (lv_room (Nat.le_of_ble_eq_true rfl)) dL_law_318 ⟨by show _ ≤ 600000; omega, by show _ ≤ 7302250; omega⟩) hS (fun q _ h => pl_free hD hS hA q h) (pl_free hD hS hA) (fun r57 F58 t H1 locs ht hvm hw hP1 hz1 hk1 hS1 => ?_)
    have hPm := pm_keep hPm hdis hk1
    obtain ⟨hqr57, hR⟩ := hw
    have hP1 : va_P G vwCl (va_pl L F58) t.heap := hP1
    rw [ht] at hP1
    have hP := hP1
    have hS := hS1
    clear hS1
    generalize H1 = H at hP hPm hS ⊢
    refine lv_aload_n hx hb dL_law_321 rfl (lv_at hl 1 rfl) ?_
    refine lv_aload_n hx hb dL_law_322 rfl (lv_at hl 3 rfl) ?_
    refine lv_iload_n hx hb dL_law_323 rfl (lv_at hl 0 rfl) ?_
    refine lv_iconst (v := 1) hx hb dL_law_324 (by decide) ?_
    refine lv_iadd hx hb dL_law_325 ?_
    refine lv_topi (fun v59 ev59 => ?_)
    rw [show nI (5 * kk) + (1 : Int32) = nI (5 * kk + 1) from nI_ad5 _ _] at ev59
    subst ev59
    refine va_sld (i := nI (5 * kk + 1)) hx hb hX hbl hbA hS (vp_in_nI (by omega) (by omega)) dL_law_326 ?_
    rw [nI_clamp (by omega)]
    rw [hlit]
    refine lv_aload_n hx hb dL_law_327 rfl (lv_at hl 3 rfl) ?_
    refine lv_iload_n hx hb dL_law_328 rfl (lv_at hl 0 rfl) ?_
    refine lv_iconst (v := 2) hx hb dL_law_329 (by decide) ?_
    refine lv_iadd hx hb dL_law_330 ?_
    refine lv_topi (fun v60 ev60 => ?_)
    rw [show nI (5 * kk) + (2 : Int32) = nI (5 * kk + 2) from nI_ad5 _ _] at ev60
    subst ev60
    refine va_sld (i := nI (5 * kk + 2)) hx hb hX hbl hbA hS (vp_in_nI (by omega) (by omega)) dL_law_331 ?_
    rw [nI_clamp (by omega)]
    refine lv_aload_n hx hb dL_law_332 rfl (lv_at hl 3 rfl) ?_
    refine lv_iload_n hx hb dL_law_333 rfl (lv_at hl 0 rfl) ?_
    refine lv_iconst (v := 3) hx hb dL_law_334 (by decide) ?_
    refine lv_iadd hx hb dL_law_335 ?_
    refine lv_topi (fun v61 ev61 => ?_)
    rw [show nI (5 * kk) + (3 : Int32) = nI (5 * kk + 3) from nI_ad5 _ _] at ev61
    subst ev61
    refine va_sld (i := nI (5 * kk + 3)) hx hb hX hbl hbA hS (vp_in_nI (by omega) (by omega)) dL_law_336 ?_
    rw [nI_clamp (by omega)]
    refine lv_aload_n hx hb dL_law_337 rfl (lv_at hl 3 rfl) ?_
    refine lv_iload_n hx hb dL_law_338 rfl (lv_at hl 0 rfl) ?_
    refine lv_iconst (v := 4) hx hb dL_law_339 (by decide) ?_
    refine lv_iadd hx hb dL_law_340 ?_
    refine lv_topi (fun v62 ev62 => ?_)
    rw [show nI (5 * kk) + (4 : Int32) = nI (5 * kk + 4) from nI_ad5 _ _] at ev62
    subst ev62
    refine va_sld (i := nI (5 * kk + 4)) hx hb hX hbl hbA hS (vp_in_nI (by omega) (by omega)) dL_law_341 ?_
    rw [nI_clamp (by omega)]
    refine va_calli (va_runV (As := [.int 4, .int (xs (5 * kk + 2)), .int (xs (5 * kk + 3)), .int (xs (5 * kk + 4))]) (rest := [.int r57]) ⟨hx, hb, hml, hown, hts⟩ (n_reckon_4 l G cy Lm Fm H.size om qm Mm Dd Sl Pp Kr Bk Xx hRm hV (xs (5 * kk + 2)) (xs (5 * kk + 3)) (xs (5 * kk + 4))) (cwV 4 hts gL_law_X9_reckon rfl rfl rfl (by decide +kernel) ⟨Nat.le_of_ble_eq_true rfl, Nat.le_of_ble_eq_true rfl⟩) (preV_of okQ (⟨rfl, hPm, hK, hDm.top⟩) (pl_recv hK hPm (ci := 8) rfl hom.1 hom.2)) rfl rfl hl.1 rfl (lv_room (Nat.le_of_ble_eq_true rfl)) dL_law_342 ⟨by show _ ≤ 600000; omega, by show _ ≤ 7302250; omega⟩) hS (fun q _ h => pl_free hDm hS hA q h) (pl_free hDm hS hA) (fun r63 F64 t H1 locs ht hvm hw hP1 hz1 hk1 hS1 => ?_)
    have hP := pm_keep hP (pd_flip hdis) hk1
    obtain ⟨hqr63, hRm⟩ := hw
    have hP1 : va_P G vwCl (va_pl Lm F64) t.heap := hP1
    rw [ht] at hP1
    have hPm := hP1
    have hS := hS1
    clear hS1
    generalize H1 = H at hP hPm hS ⊢
    refine lv_icmp_eq (tgt := 1153) hx hb dL_law_345 (by decide) (fun c65 => ?_) (fun c65 => absurd (by rw [hqr57, hqr63]) c65)
    refine W.widen (k := cells + 1) (n := slots + 3) (by omega) (by omega) ?_
    exact KK L F58 F64 H _ ⟨hD, hDm, hdis, qa, qm, _, _, _, _, _, _, _, hR, hRm⟩ hP hPm hS
  · refine lv_aload_n hx hb dL_law_297 rfl (lv_at hl 2 rfl) ?_
    refine lv_aload_n hx hb dL_law_298 rfl (lv_at hl 3 rfl) ?_
    refine lv_iload_n hx hb dL_law_299 rfl (lv_at hl 0 rfl) ?_
    refine lv_iconst (v := 1) hx hb dL_law_300 (by decide) ?_
    refine lv_iadd hx hb dL_law_301 ?_
    refine lv_topi (fun v66 ev66 => ?_)
    rw [show nI (5 * kk) + (1 : Int32) = nI (5 * kk + 1) from nI_ad5 _ _] at ev66
    subst ev66
    refine va_sld (i := nI (5 * kk + 1)) hx hb hX hbl hbA hS (vp_in_nI (by omega) (by omega)) dL_law_302 ?_
    rw [nI_clamp (by omega)]
    refine lv_aload_n hx hb dL_law_303 rfl (lv_at hl 3 rfl) ?_
    refine lv_iload_n hx hb dL_law_304 rfl (lv_at hl 0 rfl) ?_
    refine lv_iconst (v := 2) hx hb dL_law_305 (by decide) ?_
    refine lv_iadd hx hb dL_law_306 ?_
    refine lv_topi (fun v67 ev67 => ?_)
    rw [show nI (5 * kk) + (2 : Int32) = nI (5 * kk + 2) from nI_ad5 _ _] at ev67
    subst ev67
    refine va_sld (i := nI (5 * kk + 2)) hx hb hX hbl hbA hS (vp_in_nI (by omega) (by omega)) dL_law_307 ?_
    rw [nI_clamp (by omega)]
    refine lv_aload_n hx hb dL_law_308 rfl (lv_at hl 3 rfl) ?_
    refine lv_iload_n hx hb dL_law_309 rfl (lv_at hl 0 rfl) ?_
    refine lv_iconst (v := 3) hx hb dL_law_310 (by decide) ?_
    refine lv_iadd hx hb dL_law_311 ?_
    refine lv_topi (fun v68 ev68 => ?_)
    rw [show nI (5 * kk) + (3 : Int32) = nI (5 * kk + 3) from nI_ad5 _ _] at ev68
    subst ev68
    refine va_sld (i := nI (5 * kk + 3)) hx hb hX hbl hbA hS (vp_in_nI (by omega) (by omega)) dL_law_312 ?_
    rw [nI_clamp (by omega)]
    refine lv_aload_n hx hb dL_law_313 rfl (lv_at hl 3 rfl) ?_
    refine lv_iload_n hx hb dL_law_314 rfl (lv_at hl 0 rfl) ?_
    refine lv_iconst (v := 4) hx hb dL_law_315 (by decide) ?_
    refine lv_iadd hx hb dL_law_316 ?_
    refine lv_topi (fun v69 ev69 => ?_)
    rw [show nI (5 * kk) + (4 : Int32) = nI (5 * kk + 4) from nI_ad5 _ _] at ev69
    subst ev69
    refine va_sld (i := nI (5 * kk + 4)) hx hb hX hbl hbA hS (vp_in_nI (by omega) (by omega)) dL_law_317 ?_
    rw [nI_clamp (by omega)]
    refine va_calli (va_runV (As := [.int (xs (5 * kk + 1)), .int (xs (5 * kk + 2)), .int (xs (5 * kk + 3)), .int (xs (5 * kk + 4))]) (rest := []) ⟨hx, hb, hml, hown, hts⟩ (m_reckon_no l G cy L F ad H.size o qa Mm Dd Sl Pp Kr Bk Xx hR (xs (5 * kk + 1)) (xs (5 * kk + 2)) (xs (5 * kk + 3)) (xs (5 * kk + 4)) hno) (cwV 4 hts gL_law_X8_reckon rfl rfl rfl (by decide +kernel) ⟨Nat.le_of_ble_eq_true rfl, Nat.le_of_ble_eq_true rfl⟩) (preV_of okQE (⟨⟨rfl, hP, hK, hD.top⟩, (hE.kept hS.2.1).narrow (fun q h => pl_free hD hS hA q h), hN⟩) (pl_recv hK hP (ci := 7) rfl hR.1.1.1 hR.1.1.2)) rfl rfl hl.1 rfl (lv_room (Nat.le_of_ble_eq_true rfl)) dL_law_318 ⟨by show _ ≤ 600000; omega, by show _ ≤ 7302250; omega⟩) hS (fun q _ h => pl_free hD hS hA q h) (pl_free hD hS hA) (fun r70 F71 t H1 locs ht hvm hw hP1 hz1 hk1 hS1 => ?_)
    have hPm := pm_keep hPm hdis hk1
    obtain ⟨hqr70, hR⟩ := hw
    have hP1 : va_P G vwCl (va_pl L F71) t.heap := hP1
    rw [ht] at hP1
    have hP := hP1
    have hS := hS1
    clear hS1
    generalize H1 = H at hP hPm hS ⊢
    refine lv_aload_n hx hb dL_law_321 rfl (lv_at hl 1 rfl) ?_
    refine lv_aload_n hx hb dL_law_322 rfl (lv_at hl 3 rfl) ?_
    refine lv_iload_n hx hb dL_law_323 rfl (lv_at hl 0 rfl) ?_
    refine lv_iconst (v := 1) hx hb dL_law_324 (by decide) ?_
    refine lv_iadd hx hb dL_law_325 ?_
    refine lv_topi (fun v72 ev72 => ?_)
    rw [show nI (5 * kk) + (1 : Int32) = nI (5 * kk + 1) from nI_ad5 _ _] at ev72
    subst ev72
    refine va_sld (i := nI (5 * kk + 1)) hx hb hX hbl hbA hS (vp_in_nI (by omega) (by omega)) dL_law_326 ?_
    rw [nI_clamp (by omega)]
    refine lv_aload_n hx hb dL_law_327 rfl (lv_at hl 3 rfl) ?_
    refine lv_iload_n hx hb dL_law_328 rfl (lv_at hl 0 rfl) ?_
    refine lv_iconst (v := 2) hx hb dL_law_329 (by decide) ?_
    refine lv_iadd hx hb dL_law_330 ?_
    refine lv_topi (fun v73 ev73 => ?_)
    rw [show nI (5 * kk) + (2 : Int32) = nI (5 * kk + 2) from nI_ad5 _ _] at ev73
    subst ev73
    refine va_sld (i := nI (5 * kk + 2)) hx hb hX hbl hbA hS (vp_in_nI (by omega) (by omega)) dL_law_331 ?_
    rw [nI_clamp (by omega)]
    refine lv_aload_n hx hb dL_law_332 rfl (lv_at hl 3 rfl) ?_
    refine lv_iload_n hx hb dL_law_333 rfl (lv_at hl 0 rfl) ?_
    refine lv_iconst (v := 3) hx hb dL_law_334 (by decide) ?_
    refine lv_iadd hx hb dL_law_335 ?_
    refine lv_topi (fun v74 ev74 => ?_)
    rw [show nI (5 * kk) + (3 : Int32) = nI (5 * kk + 3) from nI_ad5 _ _] at ev74
    subst ev74
    refine va_sld (i := nI (5 * kk + 3)) hx hb hX hbl hbA hS (vp_in_nI (by omega) (by omega)) dL_law_336 ?_
    rw [nI_clamp (by omega)]
    refine lv_aload_n hx hb dL_law_337 rfl (lv_at hl 3 rfl) ?_
    refine lv_iload_n hx hb dL_law_338 rfl (lv_at hl 0 rfl) ?_
    refine lv_iconst (v := 4) hx hb dL_law_339 (by decide) ?_
    refine lv_iadd hx hb dL_law_340 ?_
    refine lv_topi (fun v75 ev75 => ?_)
    rw [show nI (5 * kk) + (4 : Int32) = nI (5 * kk + 4) from nI_ad5 _ _] at ev75
    subst ev75
    refine va_sld (i := nI (5 * kk + 4)) hx hb hX hbl hbA hS (vp_in_nI (by omega) (by omega)) dL_law_341 ?_
    rw [nI_clamp (by omega)]
    refine va_calli (va_runV (As := [.int (xs (5 * kk + 1)), .int (xs (5 * kk + 2)), .int (xs (5 * kk + 3)), .int (xs (5 * kk + 4))]) (rest := [.int r70]) ⟨hx, hb, hml, hown, hts⟩ (n_reckon_no l G cy Lm Fm H.size om qm Mm Dd Sl Pp Kr Bk Xx hRm hV (xs (5 * kk + 1)) (xs (5 * kk + 2)) (xs (5 * kk + 3)) (xs (5 * kk + 4)) hno) (cwV 4 hts gL_law_X9_reckon rfl rfl rfl (by decide +kernel) ⟨Nat.le_of_ble_eq_true rfl, Nat.le_of_ble_eq_true rfl⟩) (preV_of okQ (⟨rfl, hPm, hK, hDm.top⟩) (pl_recv hK hPm (ci := 8) rfl hom.1 hom.2)) rfl rfl hl.1 rfl (lv_room (Nat.le_of_ble_eq_true rfl)) dL_law_342 ⟨by show _ ≤ 600000; omega, by show _ ≤ 7302250; omega⟩) hS (fun q _ h => pl_free hDm hS hA q h) (pl_free hDm hS hA) (fun r76 F77 t H1 locs ht hvm hw hP1 hz1 hk1 hS1 => ?_)
    have hP := pm_keep hP (pd_flip hdis) hk1
    obtain ⟨hqr76, hRm⟩ := hw
    have hP1 : va_P G vwCl (va_pl Lm F77) t.heap := hP1
    rw [ht] at hP1
    have hPm := hP1
    have hS := hS1
    clear hS1
    generalize H1 = H at hP hPm hS ⊢
    refine lv_icmp_eq (tgt := 1153) hx hb dL_law_345 (by decide) (fun c78 => ?_) (fun c78 => absurd (by rw [hqr70, hqr76]) c78)
    refine W.widen (k := cells + 1) (n := slots + 3) (by omega) (by omega) ?_
    exact KK L F71 F77 H _ ⟨hD, hDm, hdis, qa, qm, _, _, _, _, _, _, _, hR, hRm⟩ hP hPm hS
