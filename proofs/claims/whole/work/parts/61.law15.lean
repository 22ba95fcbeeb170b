set_option maxHeartbeats 8000000 in
set_option maxRecDepth 100000 in
theorem law_spool {p : Program} {l : Launch} {e : Env} {s : State} {m : MethodId} {below : List Frame} {meth : Method} {c : Code} {Q : State → Prop} {b N : Nat} {xs : Nat → Int32} {G : va_G} {cy : Nat → ClassId} {ad : Nat → Nat} (hLX : LX p s m c b N xs G cy ad) {o om kk : Nat} (hkk : 5 * kk + 5 ≤ N) (hNN : N ≤ 2560) {L Lm : List Nat} {F Fm : Nat → va_E} {H : Heap} {locs : List Loc} {cells slots : Nat} (hcells : cells + 1 ≤ 600000) (hslots : slots + 3 ≤ 7302250) (hI : LI s cy o om L Lm F Fm) (hP : va_P G vwCl (va_pl L F) H) (hPm : va_P G vwCl (va_pl Lm Fm) H) (hS : va_S (LA s) s.heap H locs) {ls : Array Slot} (hl : lv_has ls 4 [(3, .int (nI (5 * kk))), (2, .ref om), (1, .ref o), (0, .ref b)])
    (KK : ∀ (L1 : List Nat) (F1 Fm1 : Nat → va_E) (H1 : Heap) (locs1 : List Loc), LI s cy o om L1 Lm F1 Fm1 → va_P G vwCl (va_pl L1 F1) H1 → va_P G vwCl (va_pl Lm Fm1) H1 → va_S (LA s) s.heap H1 locs1 → W p l e room_1 s m #[Value.ref b] below meth c H1 locs1 (cells + 1) (slots + 3) Q (F0 m 1153 ls [])) : W p l e room_1 s m #[Value.ref b] below meth c H locs cells slots Q (F0 m 768 ls []) := by
  obtain ⟨hx, hb, hml, hown, hts, hX, hbl, hK, hE, hN⟩ := hLX
  obtain ⟨hD, hDm, hdis, qa, qm, Mm, Dd, Sl, Pp, Kr, Bk, Xx, hR, hRm⟩ := hI
  have hA : ∀ q : Nat, s.heap.size ≤ q → LA s q := fun _ h => h
  have hbA : ¬ LA s b := Nat.not_le.mpr hbl
  have hV := hR.val
  obtain ⟨th0, oc0, hom⟩ := hRm.1
  have hPm0 := hPm
  refine lv_aload_n hx hb dL_law_768 rfl (lv_at hl 2 rfl) ?_
  refine lv_aload_n hx hb dL_law_769 rfl (lv_at hl 3 rfl) ?_
  refine lv_iload_n hx hb dL_law_770 rfl (lv_at hl 0 rfl) ?_
  refine lv_iconst (v := 1) hx hb dL_law_771 (by decide) ?_
  refine lv_iadd hx hb dL_law_772 ?_
  refine lv_topi (fun v1 ev1 => ?_)
  rw [show nI (5 * kk) + (1 : Int32) = nI (5 * kk + 1) from nI_ad5 _ _] at ev1
  subst ev1
  refine va_sld (i := nI (5 * kk + 1)) hx hb hX hbl hbA hS (vp_in_nI (by omega) (by omega)) dL_law_773 ?_
  rw [nI_clamp (by omega)]
  refine lv_aload_n hx hb dL_law_774 rfl (lv_at hl 3 rfl) ?_
  refine lv_iload_n hx hb dL_law_775 rfl (lv_at hl 0 rfl) ?_
  refine lv_iconst (v := 2) hx hb dL_law_776 (by decide) ?_
  refine lv_iadd hx hb dL_law_777 ?_
  refine lv_topi (fun v2 ev2 => ?_)
  rw [show nI (5 * kk) + (2 : Int32) = nI (5 * kk + 2) from nI_ad5 _ _] at ev2
  subst ev2
  refine va_sld (i := nI (5 * kk + 2)) hx hb hX hbl hbA hS (vp_in_nI (by omega) (by omega)) dL_law_778 ?_
  rw [nI_clamp (by omega)]
  refine lv_if_eq (tgt := 786) hx hb dL_law_779 (by decide) (fun c3 => ?_) (fun c3 => ?_)
  · refine lv_iconst (v := 0) hx hb dL_law_786 (by decide) ?_
    refine va_calli (va_runV (As := [.int (xs (5 * kk + 1)), .int 0]) (rest := []) ⟨hx, hb, hml, hown, hts⟩ (m_spool l G cy L F H.size o qa Mm Dd Sl Pp Kr Bk Xx hR (xs (5 * kk + 1)) 0 (Or.inl rfl)) (cwV 2 hts gL_law_X8_spool rfl rfl rfl (by decide +kernel) ⟨Nat.le_of_ble_eq_true rfl, Nat.le_of_ble_eq_true rfl⟩) (preV_of okQ (⟨rfl, hP, hK, hD.top⟩) (pl_recv hK hP (ci := 7) rfl hR.1.1.1 hR.1.1.2)) rfl rfl hl.1 rfl (lv_room (Nat.le_of_ble_eq_true rfl)) dL_law_787 ⟨by show _ ≤ 600000; omega, by show _ ≤ 7302250; omega⟩) hS (fun q _ h => pl_free hD hS hA q h) (pl_free hD hS hA) (fun r4 F5 t H1 locs ht hvm hw hP1 hz1 hk1 hS1 => ?_)
    have hPm := pm_keep hPm hdis hk1
    obtain ⟨L6, F7⟩ := F5
    obtain ⟨qa, ⟨hqr4, hR⟩, hD1⟩ := hw
    have hD1 : pD _ L6 := hD1
    have hR : Rep cy L6 o qa _ _ _ _ _ _ _ F7 := hR
    have hdis := pd_grow (A := LA s) hPm0 hdis hD1
    have hD : pD (LA s) L6 := hD1.mono (pl_free hD hS hA)
    have hP1 : va_P G vwCl (va_pl L6 F7) t.heap := hP1
    rw [ht] at hP1
    have hP := hP1
    have hS := hS1
    clear hS1
    generalize H1 = H at hP hPm hS ⊢
    refine lv_aload_n hx hb dL_law_790 rfl (lv_at hl 1 rfl) ?_
    refine lv_aload_n hx hb dL_law_791 rfl (lv_at hl 3 rfl) ?_
    refine lv_iload_n hx hb dL_law_792 rfl (lv_at hl 0 rfl) ?_
    refine lv_iconst (v := 1) hx hb dL_law_793 (by decide) ?_
    refine lv_iadd hx hb dL_law_794 ?_
    refine lv_topi (fun v8 ev8 => ?_)
    rw [show nI (5 * kk) + (1 : Int32) = nI (5 * kk + 1) from nI_ad5 _ _] at ev8
    subst ev8
    refine va_sld (i := nI (5 * kk + 1)) hx hb hX hbl hbA hS (vp_in_nI (by omega) (by omega)) dL_law_795 ?_
    rw [nI_clamp (by omega)]
    refine lv_aload_n hx hb dL_law_796 rfl (lv_at hl 3 rfl) ?_
    refine lv_iload_n hx hb dL_law_797 rfl (lv_at hl 0 rfl) ?_
    refine lv_iconst (v := 2) hx hb dL_law_798 (by decide) ?_
    refine lv_iadd hx hb dL_law_799 ?_
    refine lv_topi (fun v9 ev9 => ?_)
    rw [show nI (5 * kk) + (2 : Int32) = nI (5 * kk + 2) from nI_ad5 _ _] at ev9
    subst ev9
    refine va_sld (i := nI (5 * kk + 2)) hx hb hX hbl hbA hS (vp_in_nI (by omega) (by omega)) dL_law_800 ?_
    rw [nI_clamp (by omega)]
    refine lv_if_eq (tgt := 808) hx hb dL_law_801 (by decide) (fun c10 => ?_) (fun c10 => absurd (c3) c10)
    refine lv_iconst (v := 0) hx hb dL_law_808 (by decide) ?_
    refine va_calli (va_runV (As := [.int (xs (5 * kk + 1)), .int 0]) (rest := [.int r4]) ⟨hx, hb, hml, hown, hts⟩ (n_spool l G cy Lm Fm H.size om qm Mm Dd Sl Pp Kr Bk Xx hRm hV (xs (5 * kk + 1)) 0 (Or.inl rfl)) (cwV 2 hts gL_law_X9_spool rfl rfl rfl (by decide +kernel) ⟨Nat.le_of_ble_eq_true rfl, Nat.le_of_ble_eq_true rfl⟩) (preV_of okQ (⟨rfl, hPm, hK, hDm.top⟩) (pl_recv hK hPm (ci := 8) rfl hom.1 hom.2)) rfl rfl hl.1 rfl (lv_room (Nat.le_of_ble_eq_true rfl)) dL_law_809 ⟨by show _ ≤ 600000; omega, by show _ ≤ 7302250; omega⟩) hS (fun q _ h => pl_free hDm hS hA q h) (pl_free hDm hS hA) (fun r11 F12 t H1 locs ht hvm hw hP1 hz1 hk1 hS1 => ?_)
    have hP := pm_keep hP (pd_flip hdis) hk1
    obtain ⟨hqr11, hRm⟩ := hw
    have hP1 : va_P G vwCl (va_pl Lm F12) t.heap := hP1
    rw [ht] at hP1
    have hPm := hP1
    have hS := hS1
    clear hS1
    generalize H1 = H at hP hPm hS ⊢
    refine lv_icmp_eq (tgt := 1153) hx hb dL_law_812 (by decide) (fun c13 => ?_) (fun c13 => absurd (by rw [hqr4, hqr11]) c13)
    refine W.widen (k := cells + 1) (n := slots + 3) (by omega) (by omega) ?_
    exact KK L6 F7 F12 H _ ⟨hD, hDm, hdis, qa, qm, _, _, _, _, _, _, _, hR, hRm⟩ hP hPm hS
  · refine lv_iconst (v := 1) hx hb dL_law_782 (by decide) ?_
    refine lv_goto (tgt := 787) hx hb dL_law_783 (by decide) ?_
    refine va_calli (va_runV (As := [.int (xs (5 * kk + 1)), .int 1]) (rest := []) ⟨hx, hb, hml, hown, hts⟩ (m_spool l G cy L F H.size o qa Mm Dd Sl Pp Kr Bk Xx hR (xs (5 * kk + 1)) 1 (Or.inr rfl)) (cwV 2 hts gL_law_X8_spool rfl rfl rfl (by decide +kernel) ⟨Nat.le_of_ble_eq_true rfl, Nat.le_of_ble_eq_true rfl⟩) (preV_of okQ (⟨rfl, hP, hK, hD.top⟩) (pl_recv hK hP (ci := 7) rfl hR.1.1.1 hR.1.1.2)) rfl rfl hl.1 rfl (lv_room (Nat.le_of_ble_eq_true rfl)) dL_law_787 ⟨by show _ ≤ 600000; omega, by show _ ≤ 7302250; omega⟩) hS (fun q _ h => pl_free hD hS hA q h) (pl_free hD hS hA) (fun r14 F15 t H1 locs ht hvm hw hP1 hz1 hk1 hS1 => ?_)
    have hPm := pm_keep hPm hdis hk1
    obtain ⟨L16, F17⟩ := F15
    obtain ⟨qa, ⟨hqr14, hR⟩, hD1⟩ := hw
    have hD1 : pD _ L16 := hD1
    have hR : Rep cy L16 o qa _ _ _ _ _ _ _ F17 := hR
    have hdis := pd_grow (A := LA s) hPm0 hdis hD1
    have hD : pD (LA s) L16 := hD1.mono (pl_free hD hS hA)
    have hP1 : va_P G vwCl (va_pl L16 F17) t.heap := hP1
    rw [ht] at hP1
    have hP := hP1
    have hS := hS1
    clear hS1
    generalize H1 = H at hP hPm hS ⊢
    refine lv_aload_n hx hb dL_law_790 rfl (lv_at hl 1 rfl) ?_
    refine lv_aload_n hx hb dL_law_791 rfl (lv_at hl 3 rfl) ?_
    refine lv_iload_n hx hb dL_law_792 rfl (lv_at hl 0 rfl) ?_
    refine lv_iconst (v := 1) hx hb dL_law_793 (by decide) ?_
    refine lv_iadd hx hb dL_law_794 ?_
    refine lv_topi (fun v18 ev18 => ?_)
    rw [show nI (5 * kk) + (1 : Int32) = nI (5 * kk + 1) from nI_ad5 _ _] at ev18
    subst ev18
    refine va_sld (i := nI (5 * kk + 1)) hx hb hX hbl hbA hS (vp_in_nI (by omega) (by omega)) dL_law_795 ?_
    rw [nI_clamp (by omega)]
    refine lv_aload_n hx hb dL_law_796 rfl (lv_at hl 3 rfl) ?_
    refine lv_iload_n hx hb dL_law_797 rfl (lv_at hl 0 rfl) ?_
    refine lv_iconst (v := 2) hx hb dL_law_798 (by decide) ?_
    refine lv_iadd hx hb dL_law_799 ?_
    refine lv_topi (fun v19 ev19 => ?_)
    rw [show nI (5 * kk) + (2 : Int32) = nI (5 * kk + 2) from nI_ad5 _ _] at ev19
    subst ev19
    refine va_sld (i := nI (5 * kk + 2)) hx hb hX hbl hbA hS (vp_in_nI (by omega) (by omega)) dL_law_800 ?_
    rw [nI_clamp (by omega)]
    refine lv_if_eq (tgt := 808) hx hb dL_law_801 (by decide) (fun c20 => absurd c20 (c3)) (fun c20 => ?_)
    refine lv_iconst (v := 1) hx hb dL_law_804 (by decide) ?_
    refine lv_goto (tgt := 809) hx hb dL_law_805 (by decide) ?_
    refine va_calli (va_runV (As := [.int (xs (5 * kk + 1)), .int 1]) (rest := [.int r14]) ⟨hx, hb, hml, hown, hts⟩ (n_spool l G cy Lm Fm H.size om qm Mm Dd Sl Pp Kr Bk Xx hRm hV (xs (5 * kk + 1)) 1 (Or.inr rfl)) (cwV 2 hts gL_law_X9_spool rfl rfl rfl (by decide +kernel) ⟨Nat.le_of_ble_eq_true rfl, Nat.le_of_ble_eq_true rfl⟩) (preV_of okQ (⟨rfl, hPm, hK, hDm.top⟩) (pl_recv hK hPm (ci := 8) rfl hom.1 hom.2)) rfl rfl hl.1 rfl (lv_room (Nat.le_of_ble_eq_true rfl)) dL_law_809 ⟨by show _ ≤ 600000; omega, by show _ ≤ 7302250; omega⟩) hS (fun q _ h => pl_free hDm hS hA q h) (pl_free hDm hS hA) (fun r21 F22 t H1 locs ht hvm hw hP1 hz1 hk1 hS1 => ?_)
    have hP := pm_keep hP (pd_flip hdis) hk1
    obtain ⟨hqr21, hRm⟩ := hw
    have hP1 : va_P G vwCl (va_pl Lm F22) t.heap := hP1
    rw [ht] at hP1
    have hPm := hP1
    have hS := hS1
    clear hS1
    generalize H1 = H at hP hPm hS ⊢
    refine lv_icmp_eq (tgt := 1153) hx hb dL_law_812 (by decide) (fun c23 => ?_) (fun c23 => absurd (by rw [hqr14, hqr21]) c23)
    refine W.widen (k := cells + 1) (n := slots + 3) (by omega) (by omega) ?_
    exact KK L16 F17 F22 H _ ⟨hD, hDm, hdis, qa, qm, _, _, _, _, _, _, _, hR, hRm⟩ hP hPm hS

set_option maxHeartbeats 8000000 in
set_option maxRecDepth 100000 in
theorem law_rack {p : Program} {l : Launch} {e : Env} {s : State} {m : MethodId} {below : List Frame} {meth : Method} {c : Code} {Q : State → Prop} {b N : Nat} {xs : Nat → Int32} {G : va_G} {cy : Nat → ClassId} {ad : Nat → Nat} (hLX : LX p s m c b N xs G cy ad) {o om kk : Nat} (hkk : 5 * kk + 5 ≤ N) (hNN : N ≤ 2560) {L Lm : List Nat} {F Fm : Nat → va_E} {H : Heap} {locs : List Loc} {cells slots : Nat} (hcells : cells + 1 ≤ 600000) (hslots : slots + 3 ≤ 7302250) (hI : LI s cy o om L Lm F Fm) (hP : va_P G vwCl (va_pl L F) H) (hPm : va_P G vwCl (va_pl Lm Fm) H) (hS : va_S (LA s) s.heap H locs) {ls : Array Slot} (hl : lv_has ls 4 [(3, .int (nI (5 * kk))), (2, .ref om), (1, .ref o), (0, .ref b)])
    (KK : ∀ (L1 : List Nat) (F1 Fm1 : Nat → va_E) (H1 : Heap) (locs1 : List Loc), LI s cy o om L1 Lm F1 Fm1 → va_P G vwCl (va_pl L1 F1) H1 → va_P G vwCl (va_pl Lm Fm1) H1 → va_S (LA s) s.heap H1 locs1 → W p l e room_1 s m #[Value.ref b] below meth c H1 locs1 (cells + 1) (slots + 3) Q (F0 m 1153 ls [])) : W p l e room_1 s m #[Value.ref b] below meth c H locs cells slots Q (F0 m 817 ls []) := by
  obtain ⟨hx, hb, hml, hown, hts, hX, hbl, hK, hE, hN⟩ := hLX
  obtain ⟨hD, hDm, hdis, qa, qm, Mm, Dd, Sl, Pp, Kr, Bk, Xx, hR, hRm⟩ := hI
  have hA : ∀ q : Nat, s.heap.size ≤ q → LA s q := fun _ h => h
  have hbA : ¬ LA s b := Nat.not_le.mpr hbl
  have hV := hR.val
  obtain ⟨th0, oc0, hom⟩ := hRm.1
  have hPm0 := hPm
  refine lv_aload_n hx hb dL_law_817 rfl (lv_at hl 2 rfl) ?_
  refine lv_aload_n hx hb dL_law_818 rfl (lv_at hl 3 rfl) ?_
  refine lv_iload_n hx hb dL_law_819 rfl (lv_at hl 0 rfl) ?_
  refine lv_iconst (v := 1) hx hb dL_law_820 (by decide) ?_
  refine lv_iadd hx hb dL_law_821 ?_
  refine lv_topi (fun v1 ev1 => ?_)
  rw [show nI (5 * kk) + (1 : Int32) = nI (5 * kk + 1) from nI_ad5 _ _] at ev1
  subst ev1
  refine va_sld (i := nI (5 * kk + 1)) hx hb hX hbl hbA hS (vp_in_nI (by omega) (by omega)) dL_law_822 ?_
  rw [nI_clamp (by omega)]
  refine lv_aload_n hx hb dL_law_823 rfl (lv_at hl 3 rfl) ?_
  refine lv_iload_n hx hb dL_law_824 rfl (lv_at hl 0 rfl) ?_
  refine lv_iconst (v := 2) hx hb dL_law_825 (by decide) ?_
  refine lv_iadd hx hb dL_law_826 ?_
  refine lv_topi (fun v2 ev2 => ?_)
  rw [show nI (5 * kk) + (2 : Int32) = nI (5 * kk + 2) from nI_ad5 _ _] at ev2
  subst ev2
  refine va_sld (i := nI (5 * kk + 2)) hx hb hX hbl hbA hS (vp_in_nI (by omega) (by omega)) dL_law_827 ?_
  rw [nI_clamp (by omega)]
  refine lv_if_eq (tgt := 835) hx hb dL_law_828 (by decide) (fun c3 => ?_) (fun c3 => ?_)
  · refine lv_iconst (v := 0) hx hb dL_law_835 (by decide) ?_
    refine lv_aload_n hx hb dL_law_836 rfl (lv_at hl 3 rfl) ?_
    refine lv_iload_n hx hb dL_law_837 rfl (lv_at hl 0 rfl) ?_
    refine lv_iconst (v := 3) hx hb dL_law_838 (by decide) ?_
    refine lv_iadd hx hb dL_law_839 ?_
    refine lv_topi (fun v4 ev4 => ?_)
    rw [show nI (5 * kk) + (3 : Int32) = nI (5 * kk + 3) from nI_ad5 _ _] at ev4
    subst ev4
    refine va_sld (i := nI (5 * kk + 3)) hx hb hX hbl hbA hS (vp_in_nI (by omega) (by omega)) dL_law_840 ?_
    rw [nI_clamp (by omega)]
    refine va_calli (va_runV (As := [.int (xs (5 * kk + 1)), .int 0, .int (xs (5 * kk + 3))]) (rest := []) ⟨hx, hb, hml, hown, hts⟩ (m_rack l G cy L F ad H.size o qa Mm Dd Sl Pp Kr Bk Xx hR (xs (5 * kk + 1)) 0 (xs (5 * kk + 3)) (Or.inl rfl)) (cwV 3 hts gL_law_X8_rack rfl rfl rfl (by decide +kernel) ⟨Nat.le_of_ble_eq_true rfl, Nat.le_of_ble_eq_true rfl⟩) (preV_of okQE (⟨⟨rfl, hP, hK, hD.top⟩, (hE.kept hS.2.1).narrow (fun q h => pl_free hD hS hA q h), hN⟩) (pl_recv hK hP (ci := 7) rfl hR.1.1.1 hR.1.1.2)) rfl rfl hl.1 rfl (lv_room (Nat.le_of_ble_eq_true rfl)) dL_law_841 ⟨by show _ ≤ 600000; omega, by show _ ≤ 7302250; omega⟩) hS (fun q _ h => pl_free hD hS hA q h) (pl_free hD hS hA) (fun r5 F6 t H1 locs ht hvm hw hP1 hz1 hk1 hS1 => ?_)
    have hPm := pm_keep hPm hdis hk1
    obtain ⟨hqr5, hR⟩ := hw
    have hP1 : va_P G vwCl (va_pl L F6) t.heap := hP1
    rw [ht] at hP1
    have hP := hP1
    have hS := hS1
    clear hS1
    generalize H1 = H at hP hPm hS ⊢
    refine lv_aload_n hx hb dL_law_844 rfl (lv_at hl 1 rfl) ?_
    refine lv_aload_n hx hb dL_law_845 rfl (lv_at hl 3 rfl) ?_
    refine lv_iload_n hx hb dL_law_846 rfl (lv_at hl 0 rfl) ?_
    refine lv_iconst (v := 1) hx hb dL_law_847 (by decide) ?_
    refine lv_iadd hx hb dL_law_848 ?_
    refine lv_topi (fun v7 ev7 => ?_)
    rw [show nI (5 * kk) + (1 : Int32) = nI (5 * kk + 1) from nI_ad5 _ _] at ev7
    subst ev7
    refine va_sld (i := nI (5 * kk + 1)) hx hb hX hbl hbA hS (vp_in_nI (by omega) (by omega)) dL_law_849 ?_
    rw [nI_clamp (by omega)]
    refine lv_aload_n hx hb dL_law_850 rfl (lv_at hl 3 rfl) ?_
    refine lv_iload_n hx hb dL_law_851 rfl (lv_at hl 0 rfl) ?_
    refine lv_iconst (v := 2) hx hb dL_law_852 (by decide) ?_
    refine lv_iadd hx hb dL_law_853 ?_
    refine lv_topi (fun v8 ev8 => ?_)
    rw [show nI (5 * kk) + (2 : Int32) = nI (5 * kk + 2) from nI_ad5 _ _] at ev8
    subst ev8
    refine va_sld (i := nI (5 * kk + 2)) hx hb hX hbl hbA hS (vp_in_nI (by omega) (by omega)) dL_law_854 ?_
    rw [nI_clamp (by omega)]
    refine lv_if_eq (tgt := 862) hx hb dL_law_855 (by decide) (fun c9 => ?_) (fun c9 => absurd (c3) c9)
    refine lv_iconst (v := 0) hx hb dL_law_862 (by decide) ?_
    refine lv_aload_n hx hb dL_law_863 rfl (lv_at hl 3 rfl) ?_
    refine lv_iload_n hx hb dL_law_864 rfl (lv_at hl 0 rfl) ?_
    refine lv_iconst (v := 3) hx hb dL_law_865 (by decide) ?_
    refine lv_iadd hx hb dL_law_866 ?_
    refine lv_topi (fun v10 ev10 => ?_)
    rw [show nI (5 * kk) + (3 : Int32) = nI (5 * kk + 3) from nI_ad5 _ _] at ev10
    subst ev10
    refine va_sld (i := nI (5 * kk + 3)) hx hb hX hbl hbA hS (vp_in_nI (by omega) (by omega)) dL_law_867 ?_
    rw [nI_clamp (by omega)]
    refine va_calli (va_runV (As := [.int (xs (5 * kk + 1)), .int 0, .int (xs (5 * kk + 3))]) (rest := [.int r5]) ⟨hx, hb, hml, hown, hts⟩ (n_rack l G cy Lm Fm H.size om qm Mm Dd Sl Pp Kr Bk Xx hRm hV (xs (5 * kk + 1)) 0 (xs (5 * kk + 3)) (Or.inl rfl)) (cwV 3 hts gL_law_X9_rack rfl rfl rfl (by decide +kernel) ⟨Nat.le_of_ble_eq_true rfl, Nat.le_of_ble_eq_true rfl⟩) (preV_of okQ (⟨rfl, hPm, hK, hDm.top⟩) (pl_recv hK hPm (ci := 8) rfl hom.1 hom.2)) rfl rfl hl.1 rfl (lv_room (Nat.le_of_ble_eq_true rfl)) dL_law_868 ⟨by show _ ≤ 600000; omega, by show _ ≤ 7302250; omega⟩) hS (fun q _ h => pl_free hDm hS hA q h) (pl_free hDm hS hA) (fun r11 F12 t H1 locs ht hvm hw hP1 hz1 hk1 hS1 => ?_)
    have hP := pm_keep hP (pd_flip hdis) hk1
    obtain ⟨hqr11, hRm⟩ := hw
    have hP1 : va_P G vwCl (va_pl Lm F12) t.heap := hP1
    rw [ht] at hP1
    have hPm := hP1
    have hS := hS1
    clear hS1
    generalize H1 = H at hP hPm hS ⊢
    refine lv_icmp_eq (tgt := 1153) hx hb dL_law_871 (by decide) (fun c13 => ?_) (fun c13 => absurd (by rw [hqr5, hqr11]) c13)
    refine W.widen (k := cells + 1) (n := slots + 3) (by omega) (by omega) ?_
    exact KK L F6 F12 H _ ⟨hD, hDm, hdis, qa, qm, _, _, _, _, _, _, _, hR, hRm⟩ hP hPm hS
  · refine lv_iconst (v := 1) hx hb dL_law_831 (by decide) ?_
    refine lv_goto (tgt := 836) hx hb dL_law_832 (by decide) ?_
    refine lv_aload_n hx hb dL_law_836 rfl (lv_at hl 3 rfl) ?_
    refine lv_iload_n hx hb dL_law_837 rfl (lv_at hl 0 rfl) ?_
    refine lv_iconst (v := 3) hx hb dL_law_838 (by decide) ?_
    refine lv_iadd hx hb dL_law_839 ?_
    refine lv_topi (fun v14 ev14 => ?_)
    rw [show nI (5 * kk) + (3 : Int32) = nI (5 * kk + 3) from nI_ad5 _ _] at ev14
    subst ev14
    refine va_sld (i := nI (5 * kk + 3)) hx hb hX hbl hbA hS (vp_in_nI (by omega) (by omega)) dL_law_840 ?_
    rw [nI_clamp (by omega)]
    refine va_calli (va_runV (As := [.int (xs (5 * kk + 1)), .int 1, .int (xs (5 * kk + 3))]) (rest := []) ⟨hx, hb, hml, hown, hts⟩ (m_rack l G cy L F ad H.size o qa Mm Dd Sl Pp Kr Bk Xx hR (xs (5 * kk + 1)) 1 (xs (5 * kk + 3)) (Or.inr rfl)) (cwV 3 hts gL_law_X8_rack rfl rfl rfl (by decide +kernel) ⟨Nat.le_of_ble_eq_true rfl, Nat.le_of_ble_eq_true rfl⟩) (preV_of okQE (⟨⟨rfl, hP, hK, hD.top⟩, (hE.kept hS.2.1).narrow (fun q h => pl_free hD hS hA q h), hN⟩) (pl_recv hK hP (ci := 7) rfl hR.1.1.1 hR.1.1.2)) rfl rfl hl.1 rfl (lv_room (Nat.le_of_ble_eq_true rfl)) dL_law_841 ⟨by show _ ≤ 600000; omega, by show _ ≤ 7302250; omega⟩) hS (fun q _ h => pl_free hD hS hA q h) (pl_free hD hS hA) (fun r15 F16 t H1 locs ht hvm hw hP1 hz1 hk1 hS1 => ?_)
    have hPm := pm_keep hPm hdis hk1
    obtain ⟨hqr15, hR⟩ := hw
    have hP1 : va_P G vwCl (va_pl L F16) t.heap := hP1
    rw [ht] at hP1
    have hP := hP1
    have hS := hS1
    clear hS1
    generalize H1 = H at hP hPm hS ⊢
    refine lv_aload_n hx hb dL_law_844 rfl (lv_at hl 1 rfl) ?_
    refine lv_aload_n hx hb dL_law_845 rfl (lv_at hl 3 rfl) ?_
    refine lv_iload_n hx hb dL_law_846 rfl (lv_at hl 0 rfl) ?_
    refine lv_iconst (v := 1) hx hb dL_law_847 (by decide) ?_
    refine lv_iadd hx hb dL_law_848 ?_
    refine lv_topi (fun v17 ev17 => ?_)
    rw [show nI (5 * kk) + (1 : Int32) = nI (5 * kk + 1) from nI_ad5 _ _] at ev17
    subst ev17
    refine va_sld (i := nI (5 * kk + 1)) hx hb hX hbl hbA hS (vp_in_nI (by omega) (by omega)) dL_law_849 ?_
    rw [nI_clamp (by omega)]
    refine lv_aload_n hx hb dL_law_850 rfl (lv_at hl 3 rfl) ?_
    refine lv_iload_n hx hb dL_law_851 rfl (lv_at hl 0 rfl) ?_
    refine lv_iconst (v := 2) hx hb dL_law_852 (by decide) ?_
    refine lv_iadd hx hb dL_law_853 ?_
    refine lv_topi (fun v18 ev18 => ?_)
    rw [show nI (5 * kk) + (2 : Int32) = nI (5 * kk + 2) from nI_ad5 _ _] at ev18
    subst ev18
    refine va_sld (i := nI (5 * kk + 2)) hx hb hX hbl hbA hS (vp_in_nI (by omega) (by omega)) dL_law_854 ?_
    rw [nI_clamp (by omega)]
    refine lv_if_eq (tgt := 862) hx hb dL_law_855 (by decide) (fun c19 => absurd c19 (c3)) (fun c19 => ?_)
    refine lv_iconst (v := 1) hx hb dL_law_858 (by decide) ?_
    refine lv_goto (tgt := 863) hx hb dL_law_859 (by decide) ?_
    refine lv_aload_n hx hb dL_law_863 rfl (lv_at hl 3 rfl) ?_
    refine lv_iload_n hx hb dL_law_864 rfl (lv_at hl 0 rfl) ?_
    refine lv_iconst (v := 3) hx hb dL_law_865 (by decide) ?_
    refine lv_iadd hx hb dL_law_866 ?_
    refine lv_topi (fun v20 ev20 => ?_)
    rw [show nI (5 * kk) + (3 : Int32) = nI (5 * kk + 3) from nI_ad5 _ _] at ev20
    subst ev20
    refine va_sld (i := nI (5 * kk + 3)) hx hb hX hbl hbA hS (vp_in_nI (by omega) (by omega)) dL_law_867 ?_
    rw [nI_clamp (by omega)]
    refine va_calli (va_runV (As := [.int (xs (5 * kk + 1)), .int 1, .int (xs (5 * kk + 3))]) (rest := [.int r15]) ⟨hx, hb, hml, hown, hts⟩ (n_rack l G cy Lm Fm H.size om qm Mm Dd Sl Pp Kr Bk Xx hRm hV (xs (5 * kk + 1)) 1 (xs (5 * kk + 3)) (Or.inr rfl)) (cwV 3 hts gL_law_X9_rack rfl rfl rfl (by decide +kernel) ⟨Nat.le_of_ble_eq_true rfl, Nat.le_of_ble_eq_true rfl⟩) (preV_of okQ (⟨rfl, hPm, hK, hDm.top⟩) (pl_recv hK hPm (ci := 8) rfl hom.1 hom.2)) rfl rfl hl.1 rfl (lv_room (Nat.le_of_ble_eq_true rfl)) dL_law_868 ⟨by show _ ≤ 600000; omega, by show _ ≤ 7302250; omega⟩) hS (fun q _ h => pl_free hDm hS hA q h) (pl_free hDm hS hA) (fun r21 F22 t H1 locs ht hvm hw hP1 hz1 hk1 hS1 => ?_)
    have hP := pm_keep hP (pd_flip hdis) hk1
    obtain ⟨hqr21, hRm⟩ := hw
    have hP1 : va_P G vwCl (va_pl Lm F22) t.heap := hP1
    rw [ht] at hP1
    have hPm := hP1
    have hS := hS1
    clear hS1
    generalize H1 = H at hP hPm hS ⊢
    refine lv_icmp_eq (tgt := 1153) hx hb dL_law_871 (by decide) (fun c23 => ?_) (fun c23 => absurd (by rw [hqr15, hqr21]) c23)
    refine W.widen (k := cells + 1) (n := slots + 3) (by omega) (by omega) ?_
    exact KK L F16 F22 H _ ⟨hD, hDm, hdis, qa, qm, _, _, _, _, _, _, _, hR, hRm⟩ hP hPm hS

set_option maxHeartbeats 8000000 in
set_option maxRecDepth 100000 in
theorem law_put {p : Program} {l : Launch} {e : Env} {s : State} {m : MethodId} {below : List Frame} {meth : Method} {c : Code} {Q : State → Prop} {b N : Nat} {xs : Nat → Int32} {G : va_G} {cy : Nat → ClassId} {ad : Nat → Nat} (hLX : LX p s m c b N xs G cy ad) {o om kk : Nat} (hkk : 5 * kk + 5 ≤ N) (hNN : N ≤ 2560) {L Lm : List Nat} {F Fm : Nat → va_E} {H : Heap} {locs : List Loc} {cells slots : Nat} (hcells : cells + 1 ≤ 600000) (hslots : slots + 3 ≤ 7302250) (hI : LI s cy o om L Lm F Fm) (hP : va_P G vwCl (va_pl L F) H) (hPm : va_P G vwCl (va_pl Lm Fm) H) (hS : va_S (LA s) s.heap H locs) {ls : Array Slot} (hl : lv_has ls 4 [(3, .int (nI (5 * kk))), (2, .ref om), (1, .ref o), (0, .ref b)])
    (KK : ∀ (L1 : List Nat) (F1 Fm1 : Nat → va_E) (H1 : Heap) (locs1 : List Loc), LI s cy o om L1 Lm F1 Fm1 → va_P G vwCl (va_pl L1 F1) H1 → va_P G vwCl (va_pl Lm Fm1) H1 → va_S (LA s) s.heap H1 locs1 → W p l e room_1 s m #[Value.ref b] below meth c H1 locs1 (cells + 1) (slots + 3) Q (F0 m 1153 ls [])) : W p l e room_1 s m #[Value.ref b] below meth c H locs cells slots Q (F0 m 876 ls []) := by
  obtain ⟨hx, hb, hml, hown, hts, hX, hbl, hK, hE, hN⟩ := hLX
  obtain ⟨hD, hDm, hdis, qa, qm, Mm, Dd, Sl, Pp, Kr, Bk, Xx, hR, hRm⟩ := hI
  have hA : ∀ q : Nat, s.heap.size ≤ q → LA s q := fun _ h => h
  have hbA : ¬ LA s b := Nat.not_le.mpr hbl
  have hV := hR.val
  obtain ⟨th0, oc0, hom⟩ := hRm.1
  have hPm0 := hPm
  refine lv_aload_n hx hb dL_law_876 rfl (lv_at hl 2 rfl) ?_
  refine lv_aload_n hx hb dL_law_877 rfl (lv_at hl 3 rfl) ?_
  refine lv_iload_n hx hb dL_law_878 rfl (lv_at hl 0 rfl) ?_
  refine lv_iconst (v := 1) hx hb dL_law_879 (by decide) ?_
  refine lv_iadd hx hb dL_law_880 ?_
  refine lv_topi (fun v1 ev1 => ?_)
  rw [show nI (5 * kk) + (1 : Int32) = nI (5 * kk + 1) from nI_ad5 _ _] at ev1
  subst ev1
  refine va_sld (i := nI (5 * kk + 1)) hx hb hX hbl hbA hS (vp_in_nI (by omega) (by omega)) dL_law_881 ?_
  rw [nI_clamp (by omega)]
  refine lv_aload_n hx hb dL_law_882 rfl (lv_at hl 3 rfl) ?_
  refine lv_iload_n hx hb dL_law_883 rfl (lv_at hl 0 rfl) ?_
  refine lv_iconst (v := 2) hx hb dL_law_884 (by decide) ?_
  refine lv_iadd hx hb dL_law_885 ?_
  refine lv_topi (fun v2 ev2 => ?_)
  rw [show nI (5 * kk) + (2 : Int32) = nI (5 * kk + 2) from nI_ad5 _ _] at ev2
  subst ev2
  refine va_sld (i := nI (5 * kk + 2)) hx hb hX hbl hbA hS (vp_in_nI (by omega) (by omega)) dL_law_886 ?_
  rw [nI_clamp (by omega)]
  refine lv_aload_n hx hb dL_law_887 rfl (lv_at hl 3 rfl) ?_
  refine lv_iload_n hx hb dL_law_888 rfl (lv_at hl 0 rfl) ?_
  refine lv_iconst (v := 3) hx hb dL_law_889 (by decide) ?_
  refine lv_iadd hx hb dL_law_890 ?_
  refine lv_topi (fun v3 ev3 => ?_)
  rw [show nI (5 * kk) + (3 : Int32) = nI (5 * kk + 3) from nI_ad5 _ _] at ev3
  subst ev3
  refine va_sld (i := nI (5 * kk + 3)) hx hb hX hbl hbA hS (vp_in_nI (by omega) (by omega)) dL_law_891 ?_
  rw [nI_clamp (by omega)]
  refine va_calli (va_runV (As := [.int (xs (5 * kk + 1)), .int (xs (5 * kk + 2)), .int (xs (5 * kk + 3))]) (rest := []) ⟨hx, hb, hml, hown, hts⟩ (m_put l G cy L F ad H.size o qa Mm Dd Sl Pp Kr Bk Xx hR (xs (5 * kk + 1)) (xs (5 * kk + 2)) (xs (5 * kk + 3))) (cwV 3 hts gL_law_X8_put rfl rfl rfl (by decide +kernel) ⟨Nat.le_of_ble_eq_true rfl, Nat.le_of_ble_eq_true rfl⟩) (preV_of okQE (⟨⟨rfl, hP, hK, hD.top⟩, (hE.kept hS.2.1).narrow (fun q h => pl_free hD hS hA q h), hN⟩) (pl_recv hK hP (ci := 7) rfl hR.1.1.1 hR.1.1.2)) rfl rfl hl.1 rfl (lv_room (Nat.le_of_ble_eq_true rfl)) dL_law_892 ⟨by show _ ≤ 600000; omega, by show _ ≤ 7302250; omega⟩) hS (fun q _ h => pl_free hD hS hA q h) (pl_free hD hS hA) (fun r4 F5 t H1 locs ht hvm hw hP1 hz1 hk1 hS1 => ?_)
  have hPm := pm_keep hPm hdis hk1
  obtain ⟨hqr4, hR⟩ := hw
  have hP1 : va_P G vwCl (va_pl L F5) t.heap := hP1
  rw [ht] at hP1
  have hP := hP1
  have hS := hS1
  clear hS1
  generalize H1 = H at hP hPm hS ⊢
  refine lv_aload_n hx hb dL_law_895 rfl (lv_at hl 1 rfl) ?_
  refine lv_aload_n hx hb dL_law_896 rfl (lv_at hl 3 rfl) ?_
  refine lv_iload_n hx hb dL_law_897 rfl (lv_at hl 0 rfl) ?_
  refine lv_iconst (v := 1) hx hb dL_law_898 (by decide) ?_
  refine lv_iadd hx hb dL_law_899 ?_
  refine lv_topi (fun v6 ev6 => ?_)
  rw [show nI (5 * kk) + (1 : Int32) = nI (5 * kk + 1) from nI_ad5 _ _] at ev6
  subst ev6
  refine va_sld (i := nI (5 * kk + 1)) hx hb hX hbl hbA hS (vp_in_nI (by omega) (by omega)) dL_law_900 ?_
  rw [nI_clamp (by omega)]
  refine lv_aload_n hx hb dL_law_901 rfl (lv_at hl 3 rfl) ?_
  refine lv_iload_n hx hb dL_law_902 rfl (lv_at hl 0 rfl) ?_
  refine lv_iconst (v := 2) hx hb dL_law_903 (by decide) ?_
  refine lv_iadd hx hb dL_law_904 ?_
  refine lv_topi (fun v7 ev7 => ?_)
  rw [show nI (5 * kk) + (2 : Int32) = nI (5 * kk + 2) from nI_ad5 _ _] at ev7
  subst ev7
  refine va_sld (i := nI (5 * kk + 2)) hx hb hX hbl hbA hS (vp_in_nI (by omega) (by omega)) dL_law_905 ?_
  rw [nI_clamp (by omega)]
  refine lv_aload_n hx hb dL_law_906 rfl (lv_at hl 3 rfl) ?_
  refine lv_iload_n hx hb dL_law_907 rfl (lv_at hl 0 rfl) ?_
  refine lv_iconst (v := 3) hx hb dL_law_908 (by decide) ?_
  refine lv_iadd hx hb dL_law_909 ?_
  refine lv_topi (fun v8 ev8 => ?_)
  rw [show nI (5 * kk) + (3 : Int32) = nI (5 * kk + 3) from nI_ad5 _ _] at ev8
  subst ev8
  refine va_sld (i := nI (5 * kk + 3)) hx hb hX hbl hbA hS (vp_in_nI (by omega) (by omega)) dL_law_910 ?_
  rw [nI_clamp (by omega)]
  refine va_calli (va_runV (As := [.int (xs (5 * kk + 1)), .int (xs (5 * kk + 2)), .int (xs (5 * kk + 3))]) (rest := [.int r4]) ⟨hx, hb, hml, hown, hts⟩ (n_put l G cy Lm Fm H.size om qm Mm Dd Sl Pp Kr Bk Xx hRm hV (xs (5 * kk + 1)) (xs (5 * kk + 2)) (xs (5 * kk + 3))) (cwV 3 hts gL_law_X9_put rfl rfl rfl (by decide +kernel) ⟨Nat.le_of_ble_eq_true rfl, Nat.le_of_ble_eq_true rfl⟩) (preV_of okQ (⟨rfl, hPm, hK, hDm.top⟩) (pl_recv hK hPm (ci := 8) rfl hom.1 hom.2)) rfl rfl hl.1 rfl (lv_room (Nat.le_of_ble_eq_true rfl)) dL_law_911 ⟨by show _ ≤ 600000; omega, by show _ ≤ 7302250; omega⟩) hS (fun q _ h => pl_free hDm hS hA q h) (pl_free hDm hS hA) (fun r9 F10 t H1 locs ht hvm hw hP1 hz1 hk1 hS1 => ?_)
  have hP := pm_keep hP (pd_flip hdis) hk1
  obtain ⟨hqr9, hRm⟩ := hw
  have hP1 : va_P G vwCl (va_pl Lm F10) t.heap := hP1
  rw [ht] at hP1
  have hPm := hP1
  have hS := hS1
  clear hS1
  generalize H1 = H at hP hPm hS ⊢
  refine lv_icmp_eq (tgt := 1153) hx hb dL_law_914 (by decide) (fun c11 => ?_) (fun c11 => absurd (by rw [hqr4, hqr9]) c11)
  refine W.widen (k := cells + 1) (n := slots + 3) (by omega) (by omega) ?_
  exact KK L F5 F10 H _ ⟨hD, hDm, hdis, qa, qm, _, _, _, _, _, _, _, hR, hRm⟩ hP hPm hS

set_option maxHeartbeats 8000000 in
set_option maxRecDepth 100000 in
theorem law_at {p : Program} {l : Launch} {e : Env} {s : State} {m : MethodId} {below : List Frame} {meth : Method} {c : Code} {Q : State → Prop} {b N : Nat} {xs : Nat → Int32} {G : va_G} {cy : Nat → ClassId} {ad : Nat → Nat} (hLX : LX p s m c b N xs G cy ad) {o om kk : Nat} (hkk : 5 * kk + 5 ≤ N) (hNN : N ≤ 2560) {L Lm : List Nat} {F Fm : Nat → va_E} {H : Heap} {locs : List Loc} {cells slots : Nat} (hcells : cells + 1 ≤ 600000) (hslots : slots + 3 ≤ 7302250) (hI : LI s cy o om L Lm F Fm) (hP : va_P G vwCl (va_pl L F) H) (hPm : va_P G vwCl (va_pl Lm Fm) H) (hS : va_S (LA s) s.heap H locs) {ls : Array Slot} (hl : lv_has ls 4 [(3, .int (nI (5 * kk))), (2, .ref om), (1, .ref o), (0, .ref b)])
    (KK : ∀ (L1 : List Nat) (F1 Fm1 : Nat → va_E) (H1 : Heap) (locs1 : List Loc), LI s cy o om L1 Lm F1 Fm1 → va_P G vwCl (va_pl L1 F1) H1 → va_P G vwCl (va_pl Lm Fm1) H1 → va_S (LA s) s.heap H1 locs1 → W p l e room_1 s m #[Value.ref b] below meth c H1 locs1 (cells + 1) (slots + 3) Q (F0 m 1153 ls [])) : W p l e room_1 s m #[Value.ref b] below meth c H locs cells slots Q (F0 m 919 ls []) := by
  obtain ⟨hx, hb, hml, hown, hts, hX, hbl, hK, hE, hN⟩ := hLX
  obtain ⟨hD, hDm, hdis, qa, qm, Mm, Dd, Sl, Pp, Kr, Bk, Xx, hR, hRm⟩ := hI
  have hA : ∀ q : Nat, s.heap.size ≤ q → LA s q := fun _ h => h
  have hbA : ¬ LA s b := Nat.not_le.mpr hbl
  have hV := hR.val
  obtain ⟨th0, oc0, hom⟩ := hRm.1
  have hPm0 := hPm
  refine lv_aload_n hx hb dL_law_919 rfl (lv_at hl 2 rfl) ?_
  refine lv_aload_n hx hb dL_law_920 rfl (lv_at hl 3 rfl) ?_
  refine lv_iload_n hx hb dL_law_921 rfl (lv_at hl 0 rfl) ?_
  refine lv_iconst (v := 1) hx hb dL_law_922 (by decide) ?_
  refine lv_iadd hx hb dL_law_923 ?_
  refine lv_topi (fun v1 ev1 => ?_)
  rw [show nI (5 * kk) + (1 : Int32) = nI (5 * kk + 1) from nI_ad5 _ _] at ev1
  subst ev1
  refine va_sld (i := nI (5 * kk + 1)) hx hb hX hbl hbA hS (vp_in_nI (by omega) (by omega)) dL_law_924 ?_
  rw [nI_clamp (by omega)]
  refine lv_aload_n hx hb dL_law_925 rfl (lv_at hl 3 rfl) ?_
  refine lv_iload_n hx hb dL_law_926 rfl (lv_at hl 0 rfl) ?_
  refine lv_iconst (v := 2) hx hb dL_law_927 (by decide) ?_
  refine lv_iadd hx hb dL_law_928 ?_
  refine lv_topi (fun v2 ev2 => ?_)
  rw [show nI (5 * kk) + (2 : Int32) = nI (5 * kk + 2) from nI_ad5 _ _] at ev2
  subst ev2
  refine va_sld (i := nI (5 * kk + 2)) hx hb hX hbl hbA hS (vp_in_nI (by omega) (by omega)) dL_law_929 ?_
  rw [nI_clamp (by omega)]
  refine va_calli (va_runV (As := [.int (xs (5 * kk + 1)), .int (xs (5 * kk + 2))]) (rest := []) ⟨hx, hb, hml, hown, hts⟩ (m_at l G cy L F ad H.size o qa Mm Dd Sl Pp Kr Bk Xx hR (xs (5 * kk + 1)) (xs (5 * kk + 2))) (cwV 2 hts gL_law_X8_at rfl rfl rfl (by decide +kernel) ⟨Nat.le_of_ble_eq_true rfl, Nat.le_of_ble_eq_true rfl⟩) (preV_of okQE (⟨⟨rfl, hP, hK, hD.top⟩, (hE.kept hS.2.1).narrow (fun q h => pl_free hD hS hA q h), hN⟩) (pl_recv hK hP (ci := 7) rfl hR.1.1.1 hR.1.1.2)) rfl rfl hl.1 rfl (lv_room (Nat.le_of_ble_eq_true rfl)) dL_law_930 ⟨by show _ ≤ 600000; omega, by show _ ≤ 7302250; omega⟩) hS (fun q _ h => pl_free hD hS hA q h) (pl_free hD hS hA) (fun r3 F4 t H1 locs ht hvm hw hP1 hz1 hk1 hS1 => ?_)
  have hPm := pm_keep hPm hdis hk1
  obtain ⟨hqr3, hR⟩ := hw
  have hP1 : va_P G vwCl (va_pl L F4) t.heap := hP1
  rw [ht] at hP1
  have hP := hP1
  have hS := hS1
  clear hS1
  generalize H1 = H at hP hPm hS ⊢
  refine lv_aload_n hx hb dL_law_933 rfl (lv_at hl 1 rfl) ?_
  refine lv_aload_n hx hb dL_law_934 rfl (lv_at hl 3 rfl) ?_
  refine lv_iload_n hx hb dL_law_935 rfl (lv_at hl 0 rfl) ?_
  refine lv_iconst (v := 1) hx hb dL_law_936 (by decide) ?_
  refine lv_iadd hx hb dL_law_937 ?_
  refine lv_topi (fun v5 ev5 => ?_)
  rw [show nI (5 * kk) + (1 : Int32) = nI (5 * kk + 1) from nI_ad5 _ _] at ev5
  subst ev5
  refine va_sld (i := nI (5 * kk + 1)) hx hb hX hbl hbA hS (vp_in_nI (by omega) (by omega)) dL_law_938 ?_
  rw [nI_clamp (by omega)]
  refine lv_aload_n hx hb dL_law_939 rfl (lv_at hl 3 rfl) ?_
  refine lv_iload_n hx hb dL_law_940 rfl (lv_at hl 0 rfl) ?_
  refine lv_iconst (v := 2) hx hb dL_law_941 (by decide) ?_
  refine lv_iadd hx hb dL_law_942 ?_
  refine lv_topi (fun v6 ev6 => ?_)
  rw [show nI (5 * kk) + (2 : Int32) = nI (5 * kk + 2) from nI_ad5 _ _] at ev6
  subst ev6
  refine va_sld (i := nI (5 * kk + 2)) hx hb hX hbl hbA hS (vp_in_nI (by omega) (by omega)) dL_law_943 ?_
  rw [nI_clamp (by omega)]
  refine va_calli (va_runV (As := [.int (xs (5 * kk + 1)), .int (xs (5 * kk + 2))]) (rest := [.int r3]) ⟨hx, hb, hml, hown, hts⟩ (n_at l G cy Lm Fm H.size om qm Mm Dd Sl Pp Kr Bk Xx hRm hV (xs (5 * kk + 1)) (xs (5 * kk + 2))) (cwV 2 hts gL_law_X9_at rfl rfl rfl (by decide +kernel) ⟨Nat.le_of_ble_eq_true rfl, Nat.le_of_ble_eq_true rfl⟩) (preV_of okQ (⟨rfl, hPm, hK, hDm.top⟩) (pl_recv hK hPm (ci := 8) rfl hom.1 hom.2)) rfl rfl hl.1 rfl (lv_room (Nat.le_of_ble_eq_true rfl)) dL_law_944 ⟨by show _ ≤ 600000; omega, by show _ ≤ 7302250; omega⟩) hS (fun q _ h => pl_free hDm hS hA q h) (pl_free hDm hS hA) (fun r7 F8 t H1 locs ht hvm hw hP1 hz1 hk1 hS1 => ?_)
  have hP := pm_keep hP (pd_flip hdis) hk1
  obtain ⟨hqr7, hRm⟩ := hw
  have hP1 : va_P G vwCl (va_pl Lm F8) t.heap := hP1
  rw [ht] at hP1
  have hPm := hP1
  have hS := hS1
  clear hS1
  generalize H1 = H at hP hPm hS ⊢
  refine lv_icmp_eq (tgt := 1153) hx hb dL_law_947 (by decide) (fun c9 => ?_) (fun c9 => absurd (by rw [hqr3, hqr7]) c9)
  refine W.widen (k := cells + 1) (n := slots + 3) (by omega) (by omega) ?_
  exact KK L F4 F8 H _ ⟨hD, hDm, hdis, qa, qm, _, _, _, _, _, _, _, hR, hRm⟩ hP hPm hS

set_option maxHeartbeats 8000000 in
set_option maxRecDepth 100000 in
theorem law_weight {p : Program} {l : Launch} {e : Env} {s : State} {m : MethodId} {below : List Frame} {meth : Method} {c : Code} {Q : State → Prop} {b N : Nat} {xs : Nat → Int32} {G : va_G} {cy : Nat → ClassId} {ad : Nat → Nat} (hLX : LX p s m c b N xs G cy ad) {o om kk : Nat} (hkk : 5 * kk + 5 ≤ N) (hNN : N ≤ 2560) {L Lm : List Nat} {F Fm : Nat → va_E} {H : Heap} {locs : List Loc} {cells slots : Nat} (hcells : cells + 1 ≤ 600000) (hslots : slots + 3 ≤ 7302250) (hI : LI s cy o om L Lm F Fm) (hP : va_P G vwCl (va_pl L F) H) (hPm : va_P G vwCl (va_pl Lm Fm) H) (hS : va_S (LA s) s.heap H locs) {ls : Array Slot} (hl : lv_has ls 4 [(3, .int (nI (5 * kk))), (2, .ref om), (1, .ref o), (0, .ref b)])
    (KK : ∀ (L1 : List Nat) (F1 Fm1 : Nat → va_E) (H1 : Heap) (locs1 : List Loc), LI s cy o om L1 Lm F1 Fm1 → va_P G vwCl (va_pl L1 F1) H1 → va_P G vwCl (va_pl Lm Fm1) H1 → va_S (LA s) s.heap H1 locs1 → W p l e room_1 s m #[Value.ref b] below meth c H1 locs1 (cells + 1) (slots + 3) Q (F0 m 1153 ls [])) : W p l e room_1 s m #[Value.ref b] below meth c H locs cells slots Q (F0 m 952 ls []) := by
  obtain ⟨hx, hb, hml, hown, hts, hX, hbl, hK, hE, hN⟩ := hLX
  obtain ⟨hD, hDm, hdis, qa, qm, Mm, Dd, Sl, Pp, Kr, Bk, Xx, hR, hRm⟩ := hI
  have hA : ∀ q : Nat, s.heap.size ≤ q → LA s q := fun _ h => h
  have hbA : ¬ LA s b := Nat.not_le.mpr hbl
  have hV := hR.val
  obtain ⟨th0, oc0, hom⟩ := hRm.1
  have hPm0 := hPm
  refine lv_aload_n hx hb dL_law_952 rfl (lv_at hl 2 rfl) ?_
  refine lv_aload_n hx hb dL_law_953 rfl (lv_at hl 3 rfl) ?_
  refine lv_iload_n hx hb dL_law_954 rfl (lv_at hl 0 rfl) ?_
  refine lv_iconst (v := 1) hx hb dL_law_955 (by decide) ?_
  refine lv_iadd hx hb dL_law_956 ?_
  refine lv_topi (fun v1 ev1 => ?_)
  rw [show nI (5 * kk) + (1 : Int32) = nI (5 * kk + 1) from nI_ad5 _ _] at ev1
  subst ev1
  refine va_sld (i := nI (5 * kk + 1)) hx hb hX hbl hbA hS (vp_in_nI (by omega) (by omega)) dL_law_957 ?_
  rw [nI_clamp (by omega)]
  refine lv_aload_n hx hb dL_law_958 rfl (lv_at hl 3 rfl) ?_
  refine lv_iload_n hx hb dL_law_959 rfl (lv_at hl 0 rfl) ?_
  refine lv_iconst (v := 2) hx hb dL_law_960 (by decide) ?_
  refine lv_iadd hx hb dL_law_961 ?_
  refine lv_topi (fun v2 ev2 => ?_)
  rw [show nI (5 * kk) + (2 : Int32) = nI (5 * kk + 2) from nI_ad5 _ _] at ev2
  subst ev2
  refine va_sld (i := nI (5 * kk + 2)) hx hb hX hbl hbA hS (vp_in_nI (by omega) (by omega)) dL_law_962 ?_
  rw [nI_clamp (by omega)]
  refine lv_aload_n hx hb dL_law_963 rfl (lv_at hl 3 rfl) ?_
  refine lv_iload_n hx hb dL_law_964 rfl (lv_at hl 0 rfl) ?_
  refine lv_iconst (v := 3) hx hb dL_law_965 (by decide) ?_
  refine lv_iadd hx hb dL_law_966 ?_
  refine lv_topi (fun v3 ev3 => ?_)
  rw [show nI (5 * kk) + (3 : Int32) = nI (5 * kk + 3) from nI_ad5 _ _] at ev3
  subst ev3
  refine va_sld (i := nI (5 * kk + 3)) hx hb hX hbl hbA hS (vp_in_nI (by omega) (by omega)) dL_law_967 ?_
  rw [nI_clamp (by omega)]
  refine lv_if_eq (tgt := 975) hx hb dL_law_968 (by decide) (fun c4 => ?_) (fun c4 => ?_)
  · refine lv_iconst (v := 0) hx hb dL_law_975 (by decide) ?_
    refine va_calli (va_runV (As := [.int (xs (5 * kk + 1)), .int (xs (5 * kk + 2)), .int 0]) (rest := []) ⟨hx, hb, hml, hown, hts⟩ (m_weight l G cy L F ad H.size o qa Mm Dd Sl Pp Kr Bk Xx hR (xs (5 * kk + 1)) (xs (5 * kk + 2)) 0) (cwV 3 hts gL_law_X8_weight rfl rfl rfl (by decide +kernel) ⟨Nat.le_of_ble_eq_true rfl, Nat.le_of_ble_eq_true rfl⟩) (preV_of okQE (⟨⟨rfl, hP, hK, hD.top⟩, (hE.kept hS.2.1).narrow (fun q h => pl_free hD hS hA q h), hN⟩) (pl_recv hK hP (ci := 7) rfl hR.1.1.1 hR.1.1.2)) rfl rfl hl.1 rfl (lv_room (Nat.le_of_ble_eq_true rfl)) dL_law_976 ⟨by show _ ≤ 600000; omega, by show _ ≤ 7302250; omega⟩) hS (fun q _ h => pl_free hD hS hA q h) (pl_free hD hS hA) (fun r5 F6 t H1 locs ht hvm hw hP1 hz1 hk1 hS1 => ?_)
    have hPm := pm_keep hPm hdis hk1
    obtain ⟨hqr5, hR⟩ := hw
    have hP1 : va_P G vwCl (va_pl L F6) t.heap := hP1
    rw [ht] at hP1
    have hP := hP1
    have hS := hS1
    clear hS1
    generalize H1 = H at hP hPm hS ⊢
    refine lv_aload_n hx hb dL_law_979 rfl (lv_at hl 1 rfl) ?_
    refine lv_aload_n hx hb dL_law_980 rfl (lv_at hl 3 rfl) ?_
    refine lv_iload_n hx hb dL_law_981 rfl (lv_at hl 0 rfl) ?_
    refine lv_iconst (v := 1) hx hb dL_law_982 (by decide) ?_
    refine lv_iadd hx hb dL_law_983 ?_
    refine lv_topi (fun v7 ev7 => ?_)
    rw [show nI (5 * kk) + (1 : Int32) = nI (5 * kk + 1) from nI_ad5 _ _] at ev7
    subst ev7
    refine va_sld (i := nI (5 * kk + 1)) hx hb hX hbl hbA hS (vp_in_nI (by omega) (by omega)) dL_law_984 ?_
    rw [nI_clamp (by omega)]
    refine lv_aload_n hx hb dL_law_985 rfl (lv_at hl 3 rfl) ?_
    refine lv_iload_n hx hb dL_law_986 rfl (lv_at hl 0 rfl) ?_
    refine lv_iconst (v := 2) hx hb dL_law_987 (by decide) ?_
    refine lv_iadd hx hb dL_law_988 ?_
    refine lv_topi (fun v8 ev8 => ?_)
    rw [show nI (5 * kk) + (2 : Int32) = nI (5 * kk + 2) from nI_ad5 _ _] at ev8
    subst ev8
    refine va_sld (i := nI (5 * kk + 2)) hx hb hX hbl hbA hS (vp_in_nI (by omega) (by omega)) dL_law_989 ?_
    rw [nI_clamp (by omega)]
    refine lv_aload_n hx hb dL_law_990 rfl (lv_at hl 3 rfl) ?_
    refine lv_iload_n hx hb dL_law_991 rfl (lv_at hl 0 rfl) ?_
    refine lv_iconst (v := 3) hx hb dL_law_992 (by decide) ?_
    refine lv_iadd hx hb dL_law_993 ?_
    refine lv_topi (fun v9 ev9 => ?_)
    rw [show nI (5 * kk) + (3 : Int32) = nI (5 * kk + 3) from nI_ad5 _ _] at ev9
    subst ev9
    refine va_sld (i := nI (5 * kk + 3)) hx hb hX hbl hbA hS (vp_in_nI (by omega) (by omega)) dL_law_994 ?_
    rw [nI_clamp (by omega)]
    refine lv_if_eq (tgt := 1002) hx hb dL_law_995 (by decide) (fun c10 => ?_) (fun c10 => absurd (c4) c10)
    refine lv_iconst (v := 0) hx hb dL_law_1002 (by decide) ?_
    refine va_calli (va_runV (As := [.int (xs (5 * kk + 1)), .int (xs (5 * kk + 2)), .int 0]) (rest := [.int r5]) ⟨hx, hb, hml, hown, hts⟩ (n_weight l G cy Lm Fm H.size om qm Mm Dd Sl Pp Kr Bk Xx hRm hV (xs (5 * kk + 1)) (xs (5 * kk + 2)) 0) (cwV 3 hts gL_law_X9_weight rfl rfl rfl (by decide +kernel) ⟨Nat.le_of_ble_eq_true rfl, Nat.le_of_ble_eq_true rfl⟩) (preV_of okQ (⟨rfl, hPm, hK, hDm.top⟩) (pl_recv hK hPm (ci := 8) rfl hom.1 hom.2)) rfl rfl hl.1 rfl (lv_room (Nat.le_of_ble_eq_true rfl)) dL_law_1003 ⟨by show _ ≤ 600000; omega, by show _ ≤ 7302250; omega⟩) hS (fun q _ h => pl_free hDm hS hA q h) (pl_free hDm hS hA) (fun r11 F12 t H1 locs ht hvm hw hP1 hz1 hk1 hS1 => ?_)
    have hP := pm_keep hP (pd_flip hdis) hk1
    obtain ⟨hqr11, hRm⟩ := hw
    have hP1 : va_P G vwCl (va_pl Lm F12) t.heap := hP1
    rw [ht] at hP1
    have hPm := hP1
    have hS := hS1
    clear hS1
    generalize H1 = H at hP hPm hS ⊢
    refine lv_icmp_eq (tgt := 1153) hx hb dL_law_1006 (by decide) (fun c13 => ?_) (fun c13 => absurd (by rw [hqr5, hqr11]) c13)
    refine W.widen (k := cells + 1) (n := slots + 3) (by omega) (by omega) ?_
    exact KK L F6 F12 H _ ⟨hD, hDm, hdis, qa, qm, _, _, _, _, _, _, _, hR, hRm⟩ hP hPm hS
  · refine lv_iconst (v := 1) hx hb dL_law_971 (by decide) ?_
    refine lv_goto (tgt := 976) hx hb dL_law_972 (by decide) ?_
    refine va_calli (va_runV (As := [.int (xs (5 * kk + 1)), .int (xs (5 * kk + 2)), .int 1]) (rest := []) ⟨hx, hb, hml, hown, hts⟩ (m_weight l G cy L F ad H.size o qa Mm Dd Sl Pp Kr Bk Xx hR (xs (5 * kk + 1)) (xs (5 * kk + 2)) 1) (cwV 3 hts gL_law_X8_weight rfl rfl rfl (by decide +kernel) ⟨Nat.le_of_ble_eq_true rfl, Nat.le_of_ble_eq_true rfl⟩) (preV_of okQE (⟨⟨rfl, hP, hK, hD.top⟩, (hE.kept hS.2.1).narrow (fun q h => pl_free hD hS hA q h), hN⟩) (pl_recv hK hP (ci := 7) rfl hR.1.1.1 hR.1.1.2)) rfl rfl hl.1 rfl (lv_room (Nat.le_of_ble_eq_true rfl)) dL_law_976 ⟨by show _ ≤ 600000; omega, by show _ ≤ 7302250; omega⟩) hS (fun q _ h => pl_free hD hS hA q h) (pl_free hD hS hA) (fun r14 F15 t H1 locs ht hvm hw hP1 hz1 hk1 hS1 => ?_)
    have hPm := pm_keep hPm hdis hk1
    obtain ⟨hqr14, hR⟩ := hw
    have hP1 : va_P G vwCl (va_pl L F15) t.heap := hP1
    rw [ht] at hP1
    have hP := hP1
    have hS := hS1
    clear hS1
    generalize H1 = H at hP hPm hS ⊢
    refine lv_aload_n hx hb dL_law_979 rfl (lv_at hl 1 rfl) ?_
    refine lv_aload_n hx hb dL_law_980 rfl (lv_at hl 3 rfl) ?_
    refine lv_iload_n hx hb dL_law_981 rfl (lv_at hl 0 rfl) ?_
    refine lv_iconst (v := 1) hx hb dL_law_982 (by decide) ?_
    refine lv_iadd hx hb dL_law_983 ?_
    refine lv_topi (fun v16 ev16 => ?_)
    rw [show nI (5 * kk) + (1 : Int32) = nI (5 * kk + 1) from nI_ad5 _ _] at ev16
    subst ev16
    refine va_sld (i := nI (5 * kk + 1)) hx hb hX hbl hbA hS (vp_in_nI (by omega) (by omega)) dL_law_984 ?_
    rw [nI_clamp (by omega)]
    refine lv_aload_n hx hb dL_law_985 rfl (lv_at hl 3 rfl) ?_
    refine lv_iload_n hx hb dL_law_986 rfl (lv_at hl 0 rfl) ?_
    refine lv_iconst (v := 2) hx hb dL_law_987 (by decide) ?_
    refine lv_iadd hx hb dL_law_988 ?_
    refine lv_topi (fun v17 ev17 => ?_)
    rw [show nI (5 * kk) + (2 : Int32) = nI (5 * kk + 2) from nI_ad5 _ _] at ev17
    subst ev17
    refine va_sld (i := nI (5 * kk + 2)) hx hb hX hbl hbA hS (vp_in_nI (by omega) (by omega)) dL_law_989 ?_
    rw [nI_clamp (by omega)]
    refine lv_aload_n hx hb dL_law_990 rfl (lv_at hl 3 rfl) ?_
    refine lv_iload_n hx hb dL_law_991 rfl (lv_at hl 0 rfl) ?_
    refine lv_iconst (v := 3) hx hb dL_law_992 (by decide) ?_
    refine lv_iadd hx hb dL_law_993 ?_
    refine lv_topi (fun v18 ev18 => ?_)
    rw [show nI (5 * kk) + (3 : Int32) = nI (5 * kk + 3) from nI_ad5 _ _] at ev18
    subst ev18
    refine va_sld (i := nI (5 * kk + 3)) hx hb hX hbl hbA hS (vp_in_nI (by omega) (by omega)) dL_law_994 ?_
    rw [nI_clamp (by omega)]
    refine lv_if_eq (tgt := 1002) hx hb dL_law_995 (by decide) (fun c19 => absurd c19 (c4)) (fun c19 => ?_)
    refine lv_iconst (v := 1) hx hb dL_law_998 (by decide) ?_
    refine lv_goto (tgt := 1003) hx hb dL_law_999 (by decide) ?_
    refine va_calli (va_runV (As := [.int (xs (5 * kk + 1)), .int (xs (5 * kk + 2)), .int 1]) (rest := [.int r14]) ⟨hx, hb, hml, hown, hts⟩ (n_weight l G cy Lm Fm H.size om qm Mm Dd Sl Pp Kr Bk Xx hRm hV (xs (5 * kk + 1)) (xs (5 * kk + 2)) 1) (cwV 3 hts gL_law_X9_weight rfl rfl rfl (by decide +kernel) ⟨Nat.le_of_ble_eq_true rfl, Nat.le_of_ble_eq_true rfl⟩) (preV_of okQ (⟨rfl, hPm, hK, hDm.top⟩) (pl_recv hK hPm (ci := 8) rfl hom.1 hom.2)) rfl rfl hl.1 rfl (lv_room (Nat.le_of_ble_eq_true rfl)) dL_law_1003 ⟨by show _ ≤ 600000; omega, by show _ ≤ 7302250; omega⟩) hS (fun q _ h => pl_free hDm hS hA q h) (pl_free hDm hS hA) (fun r20 F21 t H1 locs ht hvm hw hP1 hz1 hk1 hS1 => ?_)
    have hP := pm_keep hP (pd_flip hdis) hk1
    obtain ⟨hqr20, hRm⟩ := hw
    have hP1 : va_P G vwCl (va_pl Lm F21) t.heap := hP1
    rw [ht] at hP1
    have hPm := hP1
    have hS := hS1
    clear hS1
    generalize H1 = H at hP hPm hS ⊢
    refine lv_icmp_eq (tgt := 1153) hx hb dL_law_1006 (by decide) (fun c22 => ?_) (fun c22 => absurd (by rw [hqr14, hqr20]) c22)
    refine W.widen (k := cells + 1) (n := slots + 3) (by omega) (by omega) ?_
    exact KK L F15 F21 H _ ⟨hD, hDm, hdis, qa, qm, _, _, _, _, _, _, _, hR, hRm⟩ hP hPm hS
