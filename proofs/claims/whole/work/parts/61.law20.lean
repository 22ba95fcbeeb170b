set_option maxHeartbeats 8000000 in
set_option maxRecDepth 100000 in
theorem law_brake {p : Program} {l : Launch} {e : Env} {s : State} {m : MethodId} {below : List Frame} {meth : Method} {c : Code} {Q : State → Prop} {b N : Nat} {xs : Nat → Int32} {G : va_G} {cy : Nat → ClassId} {ad : Nat → Nat} (hLX : LX p s m c b N xs G cy ad) {o om kk : Nat} (hkk : 5 * kk + 5 ≤ N) (hNN : N ≤ 2560) {L Lm : List Nat} {F Fm : Nat → va_E} {H : Heap} {locs : List Loc} {cells slots : Nat} (hcells : cells + 1 ≤ 600000) (hslots : slots + 3 ≤ 7302250) (hI : LI s cy o om L Lm F Fm) (hP : va_P G vwCl (va_pl L F) H) (hPm : va_P G vwCl (va_pl Lm Fm) H) (hS : va_S (LA s) s.heap H locs) {ls : Array Slot} (hl : lv_has ls 4 [(3, .int (nI (5 * kk))), (2, .ref om), (1, .ref o), (0, .ref b)])
    (KK : ∀ (L1 : List Nat) (F1 Fm1 : Nat → va_E) (H1 : Heap) (locs1 : List Loc), LI s cy o om L1 Lm F1 Fm1 → va_P G vwCl (va_pl L1 F1) H1 → va_P G vwCl (va_pl Lm Fm1) H1 → va_S (LA s) s.heap H1 locs1 → W p l e room_1 s m #[Value.ref b] below meth c H1 locs1 (cells + 1) (slots + 3) Q (F0 m 1153 ls [])) : W p l e room_1 s m #[Value.ref b] below meth c H locs cells slots Q (F0 m 1011 ls []) := by
  obtain ⟨hx, hb, hml, hown, hts, hX, hbl, hK, hE, hN⟩ := hLX
  obtain ⟨hD, hDm, hdis, qa, qm, Mm, Dd, Sl, Pp, Kr, Bk, Xx, hR, hRm⟩ := hI
  have hA : ∀ q : Nat, s.heap.size ≤ q → LA s q := fun _ h => h
  have hbA : ¬ LA s b := Nat.not_le.mpr hbl
  have hV := hR.val
  obtain ⟨th0, oc0, hom⟩ := hRm.1
  have hPm0 := hPm
  refine lv_aload_n hx hb dL_law_1011 rfl (lv_at hl 2 rfl) ?_
  refine lv_aload_n hx hb dL_law_1012 rfl (lv_at hl 3 rfl) ?_
  refine lv_iload_n hx hb dL_law_1013 rfl (lv_at hl 0 rfl) ?_
  refine lv_iconst (v := 1) hx hb dL_law_1014 (by decide) ?_
  refine lv_iadd hx hb dL_law_1015 ?_
  refine lv_topi (fun v1 ev1 => ?_)
  rw [show nI (5 * kk) + (1 : Int32) = nI (5 * kk + 1) from nI_ad5 _ _] at ev1
  subst ev1
  refine va_sld (i := nI (5 * kk + 1)) hx hb hX hbl hbA hS (vp_in_nI (by omega) (by omega)) dL_law_1016 ?_
  rw [nI_clamp (by omega)]
  refine lv_aload_n hx hb dL_law_1017 rfl (lv_at hl 3 rfl) ?_
  refine lv_iload_n hx hb dL_law_1018 rfl (lv_at hl 0 rfl) ?_
  refine lv_iconst (v := 2) hx hb dL_law_1019 (by decide) ?_
  refine lv_iadd hx hb dL_law_1020 ?_
  refine lv_topi (fun v2 ev2 => ?_)
  rw [show nI (5 * kk) + (2 : Int32) = nI (5 * kk + 2) from nI_ad5 _ _] at ev2
  subst ev2
  refine va_sld (i := nI (5 * kk + 2)) hx hb hX hbl hbA hS (vp_in_nI (by omega) (by omega)) dL_law_1021 ?_
  rw [nI_clamp (by omega)]
  refine lv_aload_n hx hb dL_law_1022 rfl (lv_at hl 3 rfl) ?_
  refine lv_iload_n hx hb dL_law_1023 rfl (lv_at hl 0 rfl) ?_
  refine lv_iconst (v := 3) hx hb dL_law_1024 (by decide) ?_
  refine lv_iadd hx hb dL_law_1025 ?_
  refine lv_topi (fun v3 ev3 => ?_)
  rw [show nI (5 * kk) + (3 : Int32) = nI (5 * kk + 3) from nI_ad5 _ _] at ev3
  subst ev3
  refine va_sld (i := nI (5 * kk + 3)) hx hb hX hbl hbA hS (vp_in_nI (by omega) (by omega)) dL_law_1026 ?_
  rw [nI_clamp (by omega)]
  refine lv_i2l hx hb dL_law_1027 rfl ?_
  refine lv_topl (fun v4 ev4 => ?_)
  refine lv_bipush (v := 32) hx hb dL_law_1028 (by decide) ?_
  refine lv_lshl hx hb dL_law_1030 rfl ?_
  refine lv_topl (fun v5 ev5 => ?_)
  refine lv_aload_n hx hb dL_law_1031 rfl (lv_at hl 3 rfl) ?_
  refine lv_iload_n hx hb dL_law_1032 rfl (lv_at hl 0 rfl) ?_
  refine lv_iconst (v := 4) hx hb dL_law_1033 (by decide) ?_
  refine lv_iadd hx hb dL_law_1034 ?_
  refine lv_topi (fun v6 ev6 => ?_)
  rw [show nI (5 * kk) + (4 : Int32) = nI (5 * kk + 4) from nI_ad5 _ _] at ev6
  subst ev6
  refine va_sld (i := nI (5 * kk + 4)) hx hb hX hbl hbA hS (vp_in_nI (by omega) (by omega)) dL_law_1035 ?_
  rw [nI_clamp (by omega)]
  refine lv_i2l hx hb dL_law_1036 rfl ?_
  refine lv_topl (fun v7 ev7 => ?_)
  refine lv_ldc2 hx hb hown (hts (.constantLong RL 13 (4294967295)) (by decide +kernel)) dL_law_1037 ?_
  refine lv_land hx hb dL_law_1040 ?_
  refine lv_topl (fun v8 ev8 => ?_)
  refine lv_lor hx hb dL_law_1041 ?_
  refine lv_topl (fun v9 ev9 => ?_)
  rw [ev5, ev8, ev4, ev7, lj_eq] at ev9
  subst ev9
  refine va_calli (va_runV (As := [.int (xs (5 * kk + 1)), .int (xs (5 * kk + 2)), .long (lN (lj (xs (5 * kk + 3)) (xs (5 * kk + 4))))]) (rest := []) ⟨hx, hb, hml, hown, hts⟩ (m_brake l G cy L F ad H.size o qa Mm Dd Sl Pp Kr Bk Xx hR (xs (5 * kk + 1)) (xs (5 * kk + 2)) (lj (xs (5 * kk + 3)) (xs (5 * kk + 4))) (lj_lt _ _)) (cwV 3 hts gL_law_X8_brake rfl rfl rfl (by decide +kernel) ⟨Nat.le_of_ble_eq_true rfl, Nat.le_of_ble_eq_true rfl⟩) (preV_of okQE (⟨⟨rfl, hP, hK, hD.top⟩, (hE.kept hS.2.1).narrow (fun q h => pl_free hD hS hA q h), hN⟩) (pl_recv hK hP (ci := 7) rfl hR.1.1.1 hR.1.1.2)) rfl rfl hl.1 rfl (lv_room (Nat.le_of_ble_eq_true rfl)) dL_law_1042 ⟨by show _ ≤ 600000; omega, by show _ ≤ 7302250; omega⟩) hS (fun q _ h => pl_free hD hS hA q h) (pl_free hD hS hA) (fun r10 F11 t H1 locs ht hvm hw hP1 hz1 hk1 hS1 => ?_)
  have hPm := pm_keep hPm hdis hk1
  obtain ⟨hqr10, hR⟩ := hw
  have hP1 : va_P G vwCl (va_pl L F11) t.heap := hP1
  rw [ht] at hP1
  have hP := hP1
  have hS := hS1
  clear hS1
  generalize H1 = H at hP hPm hS ⊢
  refine lv_aload_n hx hb dL_law_1045 rfl (lv_at hl 1 rfl) ?_
  refine lv_aload_n hx hb dL_law_1046 rfl (lv_at hl 3 rfl) ?_
  refine lv_iload_n hx hb dL_law_1047 rfl (lv_at hl 0 rfl) ?_
  refine lv_iconst (v := 1) hx hb dL_law_1048 (by decide) ?_
  refine lv_iadd hx hb dL_law_1049 ?_
  refine lv_topi (fun v12 ev12 => ?_)
  rw [show nI (5 * kk) + (1 : Int32) = nI (5 * kk + 1) from nI_ad5 _ _] at ev12
  subst ev12
  refine va_sld (i := nI (5 * kk + 1)) hx hb hX hbl hbA hS (vp_in_nI (by omega) (by omega)) dL_law_1050 ?_
  rw [nI_clamp (by omega)]
  refine lv_aload_n hx hb dL_law_1051 rfl (lv_at hl 3 rfl) ?_
  refine lv_iload_n hx hb dL_law_1052 rfl (lv_at hl 0 rfl) ?_
  refine lv_iconst (v := 2) hx hb dL_law_1053 (by decide) ?_
  refine lv_iadd hx hb dL_law_1054 ?_
  refine lv_topi (fun v13 ev13 => ?_)
  rw [show nI (5 * kk) + (2 : Int32) = nI (5 * kk + 2) from nI_ad5 _ _] at ev13
  subst ev13
  refine va_sld (i := nI (5 * kk + 2)) hx hb hX hbl hbA hS (vp_in_nI (by omega) (by omega)) dL_law_1055 ?_
  rw [nI_clamp (by omega)]
  refine lv_aload_n hx hb dL_law_1056 rfl (lv_at hl 3 rfl) ?_
  refine lv_iload_n hx hb dL_law_1057 rfl (lv_at hl 0 rfl) ?_
  refine lv_iconst (v := 3) hx hb dL_law_1058 (by decide) ?_
  refine lv_iadd hx hb dL_law_1059 ?_
  refine lv_topi (fun v14 ev14 => ?_)
  rw [show nI (5 * kk) + (3 : Int32) = nI (5 * kk + 3) from nI_ad5 _ _] at ev14
  subst ev14
  refine va_sld (i := nI (5 * kk + 3)) hx hb hX hbl hbA hS (vp_in_nI (by omega) (by omega)) dL_law_1060 ?_
  rw [nI_clamp (by omega)]
  refine lv_i2l hx hb dL_law_1061 rfl ?_
  refine lv_topl (fun v15 ev15 => ?_)
  refine lv_bipush (v := 32) hx hb dL_law_1062 (by decide) ?_
  refine lv_lshl hx hb dL_law_1064 rfl ?_
  refine lv_topl (fun v16 ev16 => ?_)
  refine lv_aload_n hx hb dL_law_1065 rfl (lv_at hl 3 rfl) ?_
  refine lv_iload_n hx hb dL_law_1066 rfl (lv_at hl 0 rfl) ?_
  refine lv_iconst (v := 4) hx hb dL_law_1067 (by decide) ?_
  refine lv_iadd hx hb dL_law_1068 ?_
  refine lv_topi (fun v17 ev17 => ?_)
  rw [show nI (5 * kk) + (4 : Int32) = nI (5 * kk + 4) from nI_ad5 _ _] at ev17
  subst ev17
  refine va_sld (i := nI (5 * kk + 4)) hx hb hX hbl hbA hS (vp_in_nI (by omega) (by omega)) dL_law_1069 ?_
  rw [nI_clamp (by omega)]
  refine lv_i2l hx hb dL_law_1070 rfl ?_
  refine lv_topl (fun v18 ev18 => ?_)
  refine lv_ldc2 hx hb hown (hts (.constantLong RL 13 (4294967295)) (by decide +kernel)) dL_law_1071 ?_
  refine lv_land hx hb dL_law_1074 ?_
  refine lv_topl (fun v19 ev19 => ?_)
  refine lv_lor hx hb dL_law_1075 ?_
  refine lv_topl (fun v20 ev20 => ?_)
  rw [ev16, ev19, ev15, ev18, lj_eq] at ev20
  subst ev20
  refine va_calli (va_runV (As := [.int (xs (5 * kk + 1)), .int (xs (5 * kk + 2)), .long (lN (lj (xs (5 * kk + 3)) (xs (5 * kk + 4))))]) (rest := [.int r10]) ⟨hx, hb, hml, hown, hts⟩ (n_brake l G cy Lm Fm H.size om qm Mm Dd Sl Pp Kr Bk Xx hRm hV (xs (5 * kk + 1)) (xs (5 * kk + 2)) (lj (xs (5 * kk + 3)) (xs (5 * kk + 4))) (lj_lt _ _)) (cwV 3 hts gL_law_X9_brake rfl rfl rfl (by decide +kernel) ⟨Nat.le_of_ble_eq_true rfl, Nat.le_of_ble_eq_true rfl⟩) (preV_of okQ (⟨rfl, hPm, hK, hDm.top⟩) (pl_recv hK hPm (ci := 8) rfl hom.1 hom.2)) rfl rfl hl.1 rfl (lv_room (Nat.le_of_ble_eq_true rfl)) dL_law_1076 ⟨by show _ ≤ 600000; omega, by show _ ≤ 7302250; omega⟩) hS (fun q _ h => pl_free hDm hS hA q h) (pl_free hDm hS hA) (fun r21 F22 t H1 locs ht hvm hw hP1 hz1 hk1 hS1 => ?_)
  have hP := pm_keep hP (pd_flip hdis) hk1
  obtain ⟨hqr21, hRm⟩ := hw
  have hP1 : va_P G vwCl (va_pl Lm F22) t.heap := hP1
  rw [ht] at hP1
  have hPm := hP1
  have hS := hS1
  clear hS1
  generalize H1 = H at hP hPm hS ⊢
  refine lv_icmp_eq (tgt := 1153) hx hb dL_law_1079 (by decide) (fun c23 => ?_) (fun c23 => absurd (by rw [hqr10, hqr21]) c23)
  refine W.widen (k := cells + 1) (n := slots + 3) (by omega) (by omega) ?_
  exact KK L F11 F22 H _ ⟨hD, hDm, hdis, qa, qm, _, _, _, _, _, _, _, hR, hRm⟩ hP hPm hS

set_option maxHeartbeats 8000000 in
set_option maxRecDepth 100000 in
theorem law_slow {p : Program} {l : Launch} {e : Env} {s : State} {m : MethodId} {below : List Frame} {meth : Method} {c : Code} {Q : State → Prop} {b N : Nat} {xs : Nat → Int32} {G : va_G} {cy : Nat → ClassId} {ad : Nat → Nat} (hLX : LX p s m c b N xs G cy ad) {o om kk : Nat} (hkk : 5 * kk + 5 ≤ N) (hNN : N ≤ 2560) {L Lm : List Nat} {F Fm : Nat → va_E} {H : Heap} {locs : List Loc} {cells slots : Nat} (hcells : cells + 1 ≤ 600000) (hslots : slots + 3 ≤ 7302250) (hI : LI s cy o om L Lm F Fm) (hP : va_P G vwCl (va_pl L F) H) (hPm : va_P G vwCl (va_pl Lm Fm) H) (hS : va_S (LA s) s.heap H locs) {ls : Array Slot} (hl : lv_has ls 4 [(3, .int (nI (5 * kk))), (2, .ref om), (1, .ref o), (0, .ref b)])
    (KK : ∀ (L1 : List Nat) (F1 Fm1 : Nat → va_E) (H1 : Heap) (locs1 : List Loc), LI s cy o om L1 Lm F1 Fm1 → va_P G vwCl (va_pl L1 F1) H1 → va_P G vwCl (va_pl Lm Fm1) H1 → va_S (LA s) s.heap H1 locs1 → W p l e room_1 s m #[Value.ref b] below meth c H1 locs1 (cells + 1) (slots + 3) Q (F0 m 1153 ls [])) : W p l e room_1 s m #[Value.ref b] below meth c H locs cells slots Q (F0 m 1084 ls []) := by
  obtain ⟨hx, hb, hml, hown, hts, hX, hbl, hK, hE, hN⟩ := hLX
  obtain ⟨hD, hDm, hdis, qa, qm, Mm, Dd, Sl, Pp, Kr, Bk, Xx, hR, hRm⟩ := hI
  have hA : ∀ q : Nat, s.heap.size ≤ q → LA s q := fun _ h => h
  have hbA : ¬ LA s b := Nat.not_le.mpr hbl
  have hV := hR.val
  obtain ⟨th0, oc0, hom⟩ := hRm.1
  have hPm0 := hPm
  refine lv_aload_n hx hb dL_law_1084 rfl (lv_at hl 2 rfl) ?_
  refine lv_aload_n hx hb dL_law_1085 rfl (lv_at hl 3 rfl) ?_
  refine lv_iload_n hx hb dL_law_1086 rfl (lv_at hl 0 rfl) ?_
  refine lv_iconst (v := 1) hx hb dL_law_1087 (by decide) ?_
  refine lv_iadd hx hb dL_law_1088 ?_
  refine lv_topi (fun v1 ev1 => ?_)
  rw [show nI (5 * kk) + (1 : Int32) = nI (5 * kk + 1) from nI_ad5 _ _] at ev1
  subst ev1
  refine va_sld (i := nI (5 * kk + 1)) hx hb hX hbl hbA hS (vp_in_nI (by omega) (by omega)) dL_law_1089 ?_
  rw [nI_clamp (by omega)]
  refine lv_aload_n hx hb dL_law_1090 rfl (lv_at hl 3 rfl) ?_
  refine lv_iload_n hx hb dL_law_1091 rfl (lv_at hl 0 rfl) ?_
  refine lv_iconst (v := 2) hx hb dL_law_1092 (by decide) ?_
  refine lv_iadd hx hb dL_law_1093 ?_
  refine lv_topi (fun v2 ev2 => ?_)
  rw [show nI (5 * kk) + (2 : Int32) = nI (5 * kk + 2) from nI_ad5 _ _] at ev2
  subst ev2
  refine va_sld (i := nI (5 * kk + 2)) hx hb hX hbl hbA hS (vp_in_nI (by omega) (by omega)) dL_law_1094 ?_
  rw [nI_clamp (by omega)]
  refine va_calli (va_runV (As := [.int (xs (5 * kk + 1)), .int (xs (5 * kk + 2))]) (rest := []) ⟨hx, hb, hml, hown, hts⟩ (m_slow l G cy L F ad H.size o qa Mm Dd Sl Pp Kr Bk Xx hR (xs (5 * kk + 1)) (xs (5 * kk + 2))) (cwV 2 hts gL_law_X8_slow rfl rfl rfl (by decide +kernel) ⟨Nat.le_of_ble_eq_true rfl, Nat.le_of_ble_eq_true rfl⟩) (preV_of okQE (⟨⟨rfl, hP, hK, hD.top⟩, (hE.kept hS.2.1).narrow (fun q h => pl_free hD hS hA q h), hN⟩) (pl_recv hK hP (ci := 7) rfl hR.1.1.1 hR.1.1.2)) rfl rfl hl.1 rfl (lv_room (Nat.le_of_ble_eq_true rfl)) dL_law_1095 ⟨by show _ ≤ 600000; omega, by show _ ≤ 7302250; omega⟩) hS (fun q _ h => pl_free hD hS hA q h) (pl_free hD hS hA) (fun r3 F4 t H1 locs ht hvm hw hP1 hz1 hk1 hS1 => ?_)
  have hPm := pm_keep hPm hdis hk1
  obtain ⟨hqr3, hR⟩ := hw
  have hP1 : va_P G vwCl (va_pl L F4) t.heap := hP1
  rw [ht] at hP1
  have hP := hP1
  have hS := hS1
  clear hS1
  generalize H1 = H at hP hPm hS ⊢
  refine lv_aload_n hx hb dL_law_1098 rfl (lv_at hl 1 rfl) ?_
  refine lv_aload_n hx hb dL_law_1099 rfl (lv_at hl 3 rfl) ?_
  refine lv_iload_n hx hb dL_law_1100 rfl (lv_at hl 0 rfl) ?_
  refine lv_iconst (v := 1) hx hb dL_law_1101 (by decide) ?_
  refine lv_iadd hx hb dL_law_1102 ?_
  refine lv_topi (fun v5 ev5 => ?_)
  rw [show nI (5 * kk) + (1 : Int32) = nI (5 * kk + 1) from nI_ad5 _ _] at ev5
  subst ev5
  refine va_sld (i := nI (5 * kk + 1)) hx hb hX hbl hbA hS (vp_in_nI (by omega) (by omega)) dL_law_1103 ?_
  rw [nI_clamp (by omega)]
  refine lv_aload_n hx hb dL_law_1104 rfl (lv_at hl 3 rfl) ?_
  refine lv_iload_n hx hb dL_law_1105 rfl (lv_at hl 0 rfl) ?_
  refine lv_iconst (v := 2) hx hb dL_law_1106 (by decide) ?_
  refine lv_iadd hx hb dL_law_1107 ?_
  refine lv_topi (fun v6 ev6 => ?_)
  rw [show nI (5 * kk) + (2 : Int32) = nI (5 * kk + 2) from nI_ad5 _ _] at ev6
  subst ev6
  refine va_sld (i := nI (5 * kk + 2)) hx hb hX hbl hbA hS (vp_in_nI (by omega) (by omega)) dL_law_1108 ?_
  rw [nI_clamp (by omega)]
  refine va_calli (va_runV (As := [.int (xs (5 * kk + 1)), .int (xs (5 * kk + 2))]) (rest := [.int r3]) ⟨hx, hb, hml, hown, hts⟩ (n_slow l G cy Lm Fm H.size om qm Mm Dd Sl Pp Kr Bk Xx hRm hV (xs (5 * kk + 1)) (xs (5 * kk + 2))) (cwV 2 hts gL_law_X9_slow rfl rfl rfl (by decide +kernel) ⟨Nat.le_of_ble_eq_true rfl, Nat.le_of_ble_eq_true rfl⟩) (preV_of okQ (⟨rfl, hPm, hK, hDm.top⟩) (pl_recv hK hPm (ci := 8) rfl hom.1 hom.2)) rfl rfl hl.1 rfl (lv_room (Nat.le_of_ble_eq_true rfl)) dL_law_1109 ⟨by show _ ≤ 600000; omega, by show _ ≤ 7302250; omega⟩) hS (fun q _ h => pl_free hDm hS hA q h) (pl_free hDm hS hA) (fun r7 F8 t H1 locs ht hvm hw hP1 hz1 hk1 hS1 => ?_)
  have hP := pm_keep hP (pd_flip hdis) hk1
  obtain ⟨hqr7, hRm⟩ := hw
  have hP1 : va_P G vwCl (va_pl Lm F8) t.heap := hP1
  rw [ht] at hP1
  have hPm := hP1
  have hS := hS1
  clear hS1
  generalize H1 = H at hP hPm hS ⊢
  refine lv_icmp_eq (tgt := 1153) hx hb dL_law_1112 (by decide) (fun c9 => ?_) (fun c9 => absurd (by rw [hqr3, hqr7]) c9)
  refine W.widen (k := cells + 1) (n := slots + 3) (by omega) (by omega) ?_
  exact KK L F4 F8 H _ ⟨hD, hDm, hdis, qa, qm, _, _, _, _, _, _, _, hR, hRm⟩ hP hPm hS

set_option maxHeartbeats 8000000 in
set_option maxRecDepth 100000 in
theorem law_failed {p : Program} {l : Launch} {e : Env} {s : State} {m : MethodId} {below : List Frame} {meth : Method} {c : Code} {Q : State → Prop} {b N : Nat} {xs : Nat → Int32} {G : va_G} {cy : Nat → ClassId} {ad : Nat → Nat} (hLX : LX p s m c b N xs G cy ad) {o om kk : Nat} (hkk : 5 * kk + 5 ≤ N) (hNN : N ≤ 2560) {L Lm : List Nat} {F Fm : Nat → va_E} {H : Heap} {locs : List Loc} {cells slots : Nat} (hcells : cells + 1 ≤ 600000) (hslots : slots + 3 ≤ 7302250) (hI : LI s cy o om L Lm F Fm) (hP : va_P G vwCl (va_pl L F) H) (hPm : va_P G vwCl (va_pl Lm Fm) H) (hS : va_S (LA s) s.heap H locs) {ls : Array Slot} (hl : lv_has ls 4 [(3, .int (nI (5 * kk))), (2, .ref om), (1, .ref o), (0, .ref b)])
    (KK : ∀ (L1 : List Nat) (F1 Fm1 : Nat → va_E) (H1 : Heap) (locs1 : List Loc), LI s cy o om L1 Lm F1 Fm1 → va_P G vwCl (va_pl L1 F1) H1 → va_P G vwCl (va_pl Lm Fm1) H1 → va_S (LA s) s.heap H1 locs1 → W p l e room_1 s m #[Value.ref b] below meth c H1 locs1 (cells + 1) (slots + 3) Q (F0 m 1153 ls [])) : W p l e room_1 s m #[Value.ref b] below meth c H locs cells slots Q (F0 m 1117 ls []) := by
  obtain ⟨hx, hb, hml, hown, hts, hX, hbl, hK, hE, hN⟩ := hLX
  obtain ⟨hD, hDm, hdis, qa, qm, Mm, Dd, Sl, Pp, Kr, Bk, Xx, hR, hRm⟩ := hI
  have hA : ∀ q : Nat, s.heap.size ≤ q → LA s q := fun _ h => h
  have hbA : ¬ LA s b := Nat.not_le.mpr hbl
  have hV := hR.val
  obtain ⟨th0, oc0, hom⟩ := hRm.1
  have hPm0 := hPm
  refine lv_aload_n hx hb dL_law_1117 rfl (lv_at hl 2 rfl) ?_
  refine va_calli (va_runV (As := []) (rest := []) ⟨hx, hb, hml, hown, hts⟩ (m_failed l G cy L F ad H.size o qa Mm Dd Sl Pp Kr Bk Xx hR ) (cwV 0 hts gL_law_X8_failed rfl rfl rfl (by decide +kernel) ⟨Nat.le_of_ble_eq_true rfl, Nat.le_of_ble_eq_true rfl⟩) (preV_of okQE (⟨⟨rfl, hP, hK, hD.top⟩, (hE.kept hS.2.1).narrow (fun q h => pl_free hD hS hA q h), hN⟩) (pl_recv hK hP (ci := 7) rfl hR.1.1.1 hR.1.1.2)) rfl rfl hl.1 rfl (lv_room (Nat.le_of_ble_eq_true rfl)) dL_law_1118 ⟨by show _ ≤ 600000; omega, by show _ ≤ 7302250; omega⟩) hS (fun q _ h => pl_free hD hS hA q h) (pl_free hD hS hA) (fun r1 F2 t H1 locs ht hvm hw hP1 hz1 hk1 hS1 => ?_)
  have hPm := pm_keep hPm hdis hk1
  obtain ⟨hqr1, hR⟩ := hw
  have hP1 : va_P G vwCl (va_pl L F2) t.heap := hP1
  rw [ht] at hP1
  have hP := hP1
  have hS := hS1
  clear hS1
  generalize H1 = H at hP hPm hS ⊢
  refine lv_aload_n hx hb dL_law_1121 rfl (lv_at hl 1 rfl) ?_
  refine va_calli (va_runV (As := []) (rest := [.int r1]) ⟨hx, hb, hml, hown, hts⟩ (n_failed l G cy Lm Fm H.size om qm Mm Dd Sl Pp Kr Bk Xx hRm hV ) (cwV 0 hts gL_law_X9_failed rfl rfl rfl (by decide +kernel) ⟨Nat.le_of_ble_eq_true rfl, Nat.le_of_ble_eq_true rfl⟩) (preV_of okQ (⟨rfl, hPm, hK, hDm.top⟩) (pl_recv hK hPm (ci := 8) rfl hom.1 hom.2)) rfl rfl hl.1 rfl (lv_room (Nat.le_of_ble_eq_true rfl)) dL_law_1122 ⟨by show _ ≤ 600000; omega, by show _ ≤ 7302250; omega⟩) hS (fun q _ h => pl_free hDm hS hA q h) (pl_free hDm hS hA) (fun r3 F4 t H1 locs ht hvm hw hP1 hz1 hk1 hS1 => ?_)
  have hP := pm_keep hP (pd_flip hdis) hk1
  obtain ⟨hqr3, hRm⟩ := hw
  have hP1 : va_P G vwCl (va_pl Lm F4) t.heap := hP1
  rw [ht] at hP1
  have hPm := hP1
  have hS := hS1
  clear hS1
  generalize H1 = H at hP hPm hS ⊢
  refine lv_icmp_eq (tgt := 1153) hx hb dL_law_1125 (by decide) (fun c5 => ?_) (fun c5 => absurd (by rw [hqr1, hqr3]) c5)
  refine W.widen (k := cells + 1) (n := slots + 3) (by omega) (by omega) ?_
  exact KK L F2 F4 H _ ⟨hD, hDm, hdis, qa, qm, _, _, _, _, _, _, _, hR, hRm⟩ hP hPm hS

set_option maxHeartbeats 8000000 in
set_option maxRecDepth 100000 in
theorem law_count {p : Program} {l : Launch} {e : Env} {s : State} {m : MethodId} {below : List Frame} {meth : Method} {c : Code} {Q : State → Prop} {b N : Nat} {xs : Nat → Int32} {G : va_G} {cy : Nat → ClassId} {ad : Nat → Nat} (hLX : LX p s m c b N xs G cy ad) {o om kk : Nat} (hkk : 5 * kk + 5 ≤ N) (hNN : N ≤ 2560) {L Lm : List Nat} {F Fm : Nat → va_E} {H : Heap} {locs : List Loc} {cells slots : Nat} (hcells : cells + 1 ≤ 600000) (hslots : slots + 3 ≤ 7302250) (hI : LI s cy o om L Lm F Fm) (hP : va_P G vwCl (va_pl L F) H) (hPm : va_P G vwCl (va_pl Lm Fm) H) (hS : va_S (LA s) s.heap H locs) {ls : Array Slot} (hl : lv_has ls 4 [(3, .int (nI (5 * kk))), (2, .ref om), (1, .ref o), (0, .ref b)])
    (KK : ∀ (L1 : List Nat) (F1 Fm1 : Nat → va_E) (H1 : Heap) (locs1 : List Loc), LI s cy o om L1 Lm F1 Fm1 → va_P G vwCl (va_pl L1 F1) H1 → va_P G vwCl (va_pl Lm Fm1) H1 → va_S (LA s) s.heap H1 locs1 → W p l e room_1 s m #[Value.ref b] below meth c H1 locs1 (cells + 1) (slots + 3) Q (F0 m 1153 ls [])) : W p l e room_1 s m #[Value.ref b] below meth c H locs cells slots Q (F0 m 1130 ls []) := by
  obtain ⟨hx, hb, hml, hown, hts, hX, hbl, hK, hE, hN⟩ := hLX
  obtain ⟨hD, hDm, hdis, qa, qm, Mm, Dd, Sl, Pp, Kr, Bk, Xx, hR, hRm⟩ := hI
  have hA : ∀ q : Nat, s.heap.size ≤ q → LA s q := fun _ h => h
  have hbA : ¬ LA s b := Nat.not_le.mpr hbl
  have hV := hR.val
  obtain ⟨th0, oc0, hom⟩ := hRm.1
  have hPm0 := hPm
  refine lv_aload_n hx hb dL_law_1130 rfl (lv_at hl 2 rfl) ?_
  refine lv_aload_n hx hb dL_law_1131 rfl (lv_at hl 3 rfl) ?_
  refine lv_iload_n hx hb dL_law_1132 rfl (lv_at hl 0 rfl) ?_
  refine lv_iconst (v := 1) hx hb dL_law_1133 (by decide) ?_
  refine lv_iadd hx hb dL_law_1134 ?_
  refine lv_topi (fun v1 ev1 => ?_)
  rw [show nI (5 * kk) + (1 : Int32) = nI (5 * kk + 1) from nI_ad5 _ _] at ev1
  subst ev1
  refine va_sld (i := nI (5 * kk + 1)) hx hb hX hbl hbA hS (vp_in_nI (by omega) (by omega)) dL_law_1135 ?_
  rw [nI_clamp (by omega)]
  refine va_calli (va_runV (As := [.int (xs (5 * kk + 1))]) (rest := []) ⟨hx, hb, hml, hown, hts⟩ (m_count l G cy L F ad H.size o qa Mm Dd Sl Pp Kr Bk Xx hR (xs (5 * kk + 1))) (cwV 1 hts gL_law_X8_count rfl rfl rfl (by decide +kernel) ⟨Nat.le_of_ble_eq_true rfl, Nat.le_of_ble_eq_true rfl⟩) (preV_of okQE (⟨⟨rfl, hP, hK, hD.top⟩, (hE.kept hS.2.1).narrow (fun q h => pl_free hD hS hA q h), hN⟩) (pl_recv hK hP (ci := 7) rfl hR.1.1.1 hR.1.1.2)) rfl rfl hl.1 rfl (lv_room (Nat.le_of_ble_eq_true rfl)) dL_law_1136 ⟨by show _ ≤ 600000; omega, by show _ ≤ 7302250; omega⟩) hS (fun q _ h => pl_free hD hS hA q h) (pl_free hD hS hA) (fun r2 F3 t H1 locs ht hvm hw hP1 hz1 hk1 hS1 => ?_)
  have hPm := pm_keep hPm hdis hk1
  obtain ⟨hqr2, hR⟩ := hw
  have hP1 : va_P G vwCl (va_pl L F3) t.heap := hP1
  rw [ht] at hP1
  have hP := hP1
  have hS := hS1
  clear hS1
  generalize H1 = H at hP hPm hS ⊢
  refine lv_aload_n hx hb dL_law_1139 rfl (lv_at hl 1 rfl) ?_
  refine lv_aload_n hx hb dL_law_1140 rfl (lv_at hl 3 rfl) ?_
  refine lv_iload_n hx hb dL_law_1141 rfl (lv_at hl 0 rfl) ?_
  refine lv_iconst (v := 1) hx hb dL_law_1142 (by decide) ?_
  refine lv_iadd hx hb dL_law_1143 ?_
  refine lv_topi (fun v4 ev4 => ?_)
  rw [show nI (5 * kk) + (1 : Int32) = nI (5 * kk + 1) from nI_ad5 _ _] at ev4
  subst ev4
  refine va_sld (i := nI (5 * kk + 1)) hx hb hX hbl hbA hS (vp_in_nI (by omega) (by omega)) dL_law_1144 ?_
  rw [nI_clamp (by omega)]
  refine va_calli (va_runV (As := [.int (xs (5 * kk + 1))]) (rest := [.int r2]) ⟨hx, hb, hml, hown, hts⟩ (n_count l G cy Lm Fm H.size om qm Mm Dd Sl Pp Kr Bk Xx hRm hV (xs (5 * kk + 1))) (cwV 1 hts gL_law_X9_count rfl rfl rfl (by decide +kernel) ⟨Nat.le_of_ble_eq_true rfl, Nat.le_of_ble_eq_true rfl⟩) (preV_of okQ (⟨rfl, hPm, hK, hDm.top⟩) (pl_recv hK hPm (ci := 8) rfl hom.1 hom.2)) rfl rfl hl.1 rfl (lv_room (Nat.le_of_ble_eq_true rfl)) dL_law_1145 ⟨by show _ ≤ 600000; omega, by show _ ≤ 7302250; omega⟩) hS (fun q _ h => pl_free hDm hS hA q h) (pl_free hDm hS hA) (fun r5 F6 t H1 locs ht hvm hw hP1 hz1 hk1 hS1 => ?_)
  have hP := pm_keep hP (pd_flip hdis) hk1
  obtain ⟨hqr5, hRm⟩ := hw
  have hP1 : va_P G vwCl (va_pl Lm F6) t.heap := hP1
  rw [ht] at hP1
  have hPm := hP1
  have hS := hS1
  clear hS1
  generalize H1 = H at hP hPm hS ⊢
  refine lv_icmp_eq (tgt := 1153) hx hb dL_law_1148 (by decide) (fun c7 => ?_) (fun c7 => absurd (by rw [hqr2, hqr5]) c7)
  refine W.widen (k := cells + 1) (n := slots + 3) (by omega) (by omega) ?_
  exact KK L F3 F6 H _ ⟨hD, hDm, hdis, qa, qm, _, _, _, _, _, _, _, hR, hRm⟩ hP hPm hS
