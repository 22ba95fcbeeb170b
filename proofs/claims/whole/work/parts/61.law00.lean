set_option maxHeartbeats 8000000 in
set_option maxRecDepth 100000 in
theorem law_set {p : Program} {l : Launch} {e : Env} {s : State} {m : MethodId} {below : List Frame} {meth : Method} {c : Code} {Q : State → Prop} {b N : Nat} {xs : Nat → Int32} {G : va_G} {cy : Nat → ClassId} {ad : Nat → Nat} (hLX : LX p s m c b N xs G cy ad) {o om kk : Nat} (hkk : 5 * kk + 5 ≤ N) (hNN : N ≤ 2560) {L Lm : List Nat} {F Fm : Nat → va_E} {H : Heap} {locs : List Loc} {cells slots : Nat} (hcells : cells + 1 ≤ 600000) (hslots : slots + 3 ≤ 7302250) (hI : LI s cy o om L Lm F Fm) (hP : va_P G vwCl (va_pl L F) H) (hPm : va_P G vwCl (va_pl Lm Fm) H) (hS : va_S (LA s) s.heap H locs) {ls : Array Slot} (hl : lv_has ls 4 [(3, .int (nI (5 * kk))), (2, .ref om), (1, .ref o), (0, .ref b)])
    (KK : ∀ (L1 : List Nat) (F1 Fm1 : Nat → va_E) (H1 : Heap) (locs1 : List Loc), LI s cy o om L1 Lm F1 Fm1 → va_P G vwCl (va_pl L1 F1) H1 → va_P G vwCl (va_pl Lm Fm1) H1 → va_S (LA s) s.heap H1 locs1 → W p l e room_1 s m #[Value.ref b] below meth c H1 locs1 (cells + 1) (slots + 3) Q (F0 m 1153 ls [])) : W p l e room_1 s m #[Value.ref b] below meth c H locs cells slots Q (F0 m 144 ls []) := by
  obtain ⟨hx, hb, hml, hown, hts, hX, hbl, hK, hE, hN⟩ := hLX
  obtain ⟨hD, hDm, hdis, qa, qm, Mm, Dd, Sl, Pp, Kr, Bk, Xx, hR, hRm⟩ := hI
  have hA : ∀ q : Nat, s.heap.size ≤ q → LA s q := fun _ h => h
  have hbA : ¬ LA s b := Nat.not_le.mpr hbl
  have hV := hR.val
  obtain ⟨th0, oc0, hom⟩ := hRm.1
  have hPm0 := hPm
  refine lv_aload_n hx hb dL_law_144 rfl (lv_at hl 2 rfl) ?_
  refine lv_aload_n hx hb dL_law_145 rfl (lv_at hl 3 rfl) ?_
  refine lv_iload_n hx hb dL_law_146 rfl (lv_at hl 0 rfl) ?_
  refine lv_iconst (v := 1) hx hb dL_law_147 (by decide) ?_
  refine lv_iadd hx hb dL_law_148 ?_
  refine lv_topi (fun v1 ev1 => ?_)
  rw [show nI (5 * kk) + (1 : Int32) = nI (5 * kk + 1) from nI_ad5 _ _] at ev1
  subst ev1
  refine va_sld (i := nI (5 * kk + 1)) hx hb hX hbl hbA hS (vp_in_nI (by omega) (by omega)) dL_law_149 ?_
  rw [nI_clamp (by omega)]
  refine lv_aload_n hx hb dL_law_150 rfl (lv_at hl 3 rfl) ?_
  refine lv_iload_n hx hb dL_law_151 rfl (lv_at hl 0 rfl) ?_
  refine lv_iconst (v := 2) hx hb dL_law_152 (by decide) ?_
  refine lv_iadd hx hb dL_law_153 ?_
  refine lv_topi (fun v2 ev2 => ?_)
  rw [show nI (5 * kk) + (2 : Int32) = nI (5 * kk + 2) from nI_ad5 _ _] at ev2
  subst ev2
  refine va_sld (i := nI (5 * kk + 2)) hx hb hX hbl hbA hS (vp_in_nI (by omega) (by omega)) dL_law_154 ?_
  rw [nI_clamp (by omega)]
  refine lv_aload_n hx hb dL_law_155 rfl (lv_at hl 3 rfl) ?_
  refine lv_iload_n hx hb dL_law_156 rfl (lv_at hl 0 rfl) ?_
  refine lv_iconst (v := 3) hx hb dL_law_157 (by decide) ?_
  refine lv_iadd hx hb dL_law_158 ?_
  refine lv_topi (fun v3 ev3 => ?_)
  rw [show nI (5 * kk) + (3 : Int32) = nI (5 * kk + 3) from nI_ad5 _ _] at ev3
  subst ev3
  refine va_sld (i := nI (5 * kk + 3)) hx hb hX hbl hbA hS (vp_in_nI (by omega) (by omega)) dL_law_159 ?_
  rw [nI_clamp (by omega)]
  refine lv_i2l hx hb dL_law_160 rfl ?_
  refine lv_topl (fun v4 ev4 => ?_)
  refine lv_bipush (v := 32) hx hb dL_law_161 (by decide) ?_
  refine lv_lshl hx hb dL_law_163 rfl ?_
  refine lv_topl (fun v5 ev5 => ?_)
  refine lv_aload_n hx hb dL_law_164 rfl (lv_at hl 3 rfl) ?_
  refine lv_iload_n hx hb dL_law_165 rfl (lv_at hl 0 rfl) ?_
  refine lv_iconst (v := 4) hx hb dL_law_166 (by decide) ?_
  refine lv_iadd hx hb dL_law_167 ?_
  refine lv_topi (fun v6 ev6 => ?_)
  rw [show nI (5 * kk) + (4 : Int32) = nI (5 * kk + 4) from nI_ad5 _ _] at ev6
  subst ev6
  refine va_sld (i := nI (5 * kk + 4)) hx hb hX hbl hbA hS (vp_in_nI (by omega) (by omega)) dL_law_168 ?_
  rw [nI_clamp (by omega)]
  refine lv_i2l hx hb dL_law_169 rfl ?_
  refine lv_topl (fun v7 ev7 => ?_)
  refine lv_ldc2 hx hb hown (hts (.constantLong RL 13 (4294967295)) (by decide +kernel)) dL_law_170 ?_
  refine lv_land hx hb dL_law_173 ?_
  refine lv_topl (fun v8 ev8 => ?_)
  refine lv_lor hx hb dL_law_174 ?_
  refine lv_topl (fun v9 ev9 => ?_)
  rw [ev5, ev8, ev4, ev7, lj_eq] at ev9
  subst ev9
  refine va_calli (va_runV (As := [.int (xs (5 * kk + 1)), .int (xs (5 * kk + 2)), .long (lN (lj (xs (5 * kk + 3)) (xs (5 * kk + 4))))]) (rest := []) ⟨hx, hb, hml, hown, hts⟩ (m_set l G cy L F ad H.size o qa Mm Dd Sl Pp Kr Bk Xx hR (xs (5 * kk + 1)) (xs (5 * kk + 2)) (lj (xs (5 * kk + 3)) (xs (5 * kk + 4))) (lj_lt _ _)) (cwV 3 hts gL_law_X8_set rfl rfl rfl (by decide +kernel) ⟨Nat.le_of_ble_eq_true rfl, Nat.le_of_ble_eq_true rfl⟩) (preV_of okQE (⟨⟨rfl, hP, hK, hD.top⟩, (hE.kept hS.2.1).narrow (fun q h => pl_free hD hS hA q h), hN⟩) (pl_recv hK hP (ci := 7) rfl hR.1.1.1 hR.1.1.2)) rfl rfl hl.1 rfl (lv_room (Nat.le_of_ble_eq_true rfl)) dL_law_175 ⟨by show _ ≤ 600000; omega, by show _ ≤ 7302250; omega⟩) hS (fun q _ h => pl_free hD hS hA q h) (pl_free hD hS hA) (fun r10 F11 t H1 locs ht hvm hw hP1 hz1 hk1 hS1 => ?_)
  have hPm := pm_keep hPm hdis hk1
  obtain ⟨hqr10, hR⟩ := hw
  have hP1 : va_P G vwCl (va_pl L F11) t.heap := hP1
  rw [ht] at hP1
  have hP := hP1
  have hS := hS1
  clear hS1
  generalize H1 = H at hP hPm hS ⊢
  refine lv_aload_n hx hb dL_law_178 rfl (lv_at hl 1 rfl) ?_
  refine lv_aload_n hx hb dL_law_179 rfl (lv_at hl 3 rfl) ?_
  refine lv_iload_n hx hb dL_law_180 rfl (lv_at hl 0 rfl) ?_
  refine lv_iconst (v := 1) hx hb dL_law_181 (by decide) ?_
  refine lv_iadd hx hb dL_law_182 ?_
  refine lv_topi (fun v12 ev12 => ?_)
  rw [show nI (5 * kk) + (1 : Int32) = nI (5 * kk + 1) from nI_ad5 _ _] at ev12
  subst ev12
  refine va_sld (i := nI (5 * kk + 1)) hx hb hX hbl hbA hS (vp_in_nI (by omega) (by omega)) dL_law_183 ?_
  rw [nI_clamp (by omega)]
  refine lv_aload_n hx hb dL_law_184 rfl (lv_at hl 3 rfl) ?_
  refine lv_iload_n hx hb dL_law_185 rfl (lv_at hl 0 rfl) ?_
  refine lv_iconst (v := 2) hx hb dL_law_186 (by decide) ?_
  refine lv_iadd hx hb dL_law_187 ?_
  refine lv_topi (fun v13 ev13 => ?_)
  rw [show nI (5 * kk) + (2 : Int32) = nI (5 * kk + 2) from nI_ad5 _ _] at ev13
  subst ev13
  refine va_sld (i := nI (5 * kk + 2)) hx hb hX hbl hbA hS (vp_in_nI (by omega) (by omega)) dL_law_188 ?_
  rw [nI_clamp (by omega)]
  refine lv_aload_n hx hb dL_law_189 rfl (lv_at hl 3 rfl) ?_
  refine lv_iload_n hx hb dL_law_190 rfl (lv_at hl 0 rfl) ?_
  refine lv_iconst (v := 3) hx hb dL_law_191 (by decide) ?_
  refine lv_iadd hx hb dL_law_192 ?_
  refine lv_topi (fun v14 ev14 => ?_)
  rw [show nI (5 * kk) + (3 : Int32) = nI (5 * kk + 3) from nI_ad5 _ _] at ev14
  subst ev14
  refine va_sld (i := nI (5 * kk + 3)) hx hb hX hbl hbA hS (vp_in_nI (by omega) (by omega)) dL_law_193 ?_
  rw [nI_clamp (by omega)]
  refine lv_i2l hx hb dL_law_194 rfl ?_
  refine lv_topl (fun v15 ev15 => ?_)
  refine lv_bipush (v := 32) hx hb dL_law_195 (by decide) ?_
  refine lv_lshl hx hb dL_law_197 rfl ?_
  refine lv_topl (fun v16 ev16 => ?_)
  refine lv_aload_n hx hb dL_law_198 rfl (lv_at hl 3 rfl) ?_
  refine lv_iload_n hx hb dL_law_199 rfl (lv_at hl 0 rfl) ?_
  refine lv_iconst (v := 4) hx hb dL_law_200 (by decide) ?_
  refine lv_iadd hx hb dL_law_201 ?_
  refine lv_topi (fun v17 ev17 => ?_)
  rw [show nI (5 * kk) + (4 : Int32) = nI (5 * kk + 4) from nI_ad5 _ _] at ev17
  subst ev17
  refine va_sld (i := nI (5 * kk + 4)) hx hb hX hbl hbA hS (vp_in_nI (by omega) (by omega)) dL_law_202 ?_
  rw [nI_clamp (by omega)]
  refine lv_i2l hx hb dL_law_203 rfl ?_
  refine lv_topl (fun v18 ev18 => ?_)
  refine lv_ldc2 hx hb hown (hts (.constantLong RL 13 (4294967295)) (by decide +kernel)) dL_law_204 ?_
  refine lv_land hx hb dL_law_207 ?_
  refine lv_topl (fun v19 ev19 => ?_)
  refine lv_lor hx hb dL_law_208 ?_
  refine lv_topl (fun v20 ev20 => ?_)
  rw [ev16, ev19, ev15, ev18, lj_eq] at ev20
  subst ev20
  refine va_calli (va_runV (As := [.int (xs (5 * kk + 1)), .int (xs (5 * kk + 2)), .long (lN (lj (xs (5 * kk + 3)) (xs (5 * kk + 4))))]) (rest := [.int r10]) ⟨hx, hb, hml, hown, hts⟩ (n_set l G cy Lm Fm H.size om qm Mm Dd Sl Pp Kr Bk Xx hRm hV (xs (5 * kk + 1)) (xs (5 * kk + 2)) (lj (xs (5 * kk + 3)) (xs (5 * kk + 4))) (lj_lt _ _)) (cwV 3 hts gL_law_X9_set rfl rfl rfl (by decide +kernel) ⟨Nat.le_of_ble_eq_true rfl, Nat.le_of_ble_eq_true rfl⟩) (preV_of okQ (⟨rfl, hPm, hK, hDm.top⟩) (pl_recv hK hPm (ci := 8) rfl hom.1 hom.2)) rfl rfl hl.1 rfl (lv_room (Nat.le_of_ble_eq_true rfl)) dL_law_209 ⟨by show _ ≤ 600000; omega, by show _ ≤ 7302250; omega⟩) hS (fun q _ h => pl_free hDm hS hA q h) (pl_free hDm hS hA) (fun r21 F22 t H1 locs ht hvm hw hP1 hz1 hk1 hS1 => ?_)
  have hP := pm_keep hP (pd_flip hdis) hk1
  obtain ⟨hqr21, hRm⟩ := hw
  have hP1 : va_P G vwCl (va_pl Lm F22) t.heap := hP1
  rw [ht] at hP1
  have hPm := hP1
  have hS := hS1
  clear hS1
  generalize H1 = H at hP hPm hS ⊢
  refine lv_icmp_eq (tgt := 1153) hx hb dL_law_212 (by decide) (fun c23 => ?_) (fun c23 => absurd (by rw [hqr10, hqr21]) c23)
  refine W.widen (k := cells + 1) (n := slots + 3) (by omega) (by omega) ?_
  exact KK L F11 F22 H _ ⟨hD, hDm, hdis, qa, qm, _, _, _, _, _, _, _, hR, hRm⟩ hP hPm hS

set_option maxHeartbeats 8000000 in
set_option maxRecDepth 100000 in
theorem law_bits {p : Program} {l : Launch} {e : Env} {s : State} {m : MethodId} {below : List Frame} {meth : Method} {c : Code} {Q : State → Prop} {b N : Nat} {xs : Nat → Int32} {G : va_G} {cy : Nat → ClassId} {ad : Nat → Nat} (hLX : LX p s m c b N xs G cy ad) {o om kk : Nat} (hkk : 5 * kk + 5 ≤ N) (hNN : N ≤ 2560) {L Lm : List Nat} {F Fm : Nat → va_E} {H : Heap} {locs : List Loc} {cells slots : Nat} (hcells : cells + 1 ≤ 600000) (hslots : slots + 3 ≤ 7302250) (hI : LI s cy o om L Lm F Fm) (hP : va_P G vwCl (va_pl L F) H) (hPm : va_P G vwCl (va_pl Lm Fm) H) (hS : va_S (LA s) s.heap H locs) {ls : Array Slot} (hl : lv_has ls 4 [(3, .int (nI (5 * kk))), (2, .ref om), (1, .ref o), (0, .ref b)])
    (KK : ∀ (L1 : List Nat) (F1 Fm1 : Nat → va_E) (H1 : Heap) (locs1 : List Loc), LI s cy o om L1 Lm F1 Fm1 → va_P G vwCl (va_pl L1 F1) H1 → va_P G vwCl (va_pl Lm Fm1) H1 → va_S (LA s) s.heap H1 locs1 → W p l e room_1 s m #[Value.ref b] below meth c H1 locs1 (cells + 1) (slots + 3) Q (F0 m 1153 ls [])) : W p l e room_1 s m #[Value.ref b] below meth c H locs cells slots Q (F0 m 217 ls []) := by
  obtain ⟨hx, hb, hml, hown, hts, hX, hbl, hK, hE, hN⟩ := hLX
  obtain ⟨hD, hDm, hdis, qa, qm, Mm, Dd, Sl, Pp, Kr, Bk, Xx, hR, hRm⟩ := hI
  have hA : ∀ q : Nat, s.heap.size ≤ q → LA s q := fun _ h => h
  have hbA : ¬ LA s b := Nat.not_le.mpr hbl
  have hV := hR.val
  obtain ⟨th0, oc0, hom⟩ := hRm.1
  have hPm0 := hPm
  refine lv_aload_n hx hb dL_law_217 rfl (lv_at hl 2 rfl) ?_
  refine lv_aload_n hx hb dL_law_218 rfl (lv_at hl 3 rfl) ?_
  refine lv_iload_n hx hb dL_law_219 rfl (lv_at hl 0 rfl) ?_
  refine lv_iconst (v := 1) hx hb dL_law_220 (by decide) ?_
  refine lv_iadd hx hb dL_law_221 ?_
  refine lv_topi (fun v1 ev1 => ?_)
  rw [show nI (5 * kk) + (1 : Int32) = nI (5 * kk + 1) from nI_ad5 _ _] at ev1
  subst ev1
  refine va_sld (i := nI (5 * kk + 1)) hx hb hX hbl hbA hS (vp_in_nI (by omega) (by omega)) dL_law_222 ?_
  rw [nI_clamp (by omega)]
  refine va_calll (va_runV (As := [.int (xs (5 * kk + 1))]) (rest := []) ⟨hx, hb, hml, hown, hts⟩ (m_bits l G cy L F ad H.size o qa Mm Dd Sl Pp Kr Bk Xx hR (xs (5 * kk + 1))) (cwV 1 hts gL_law_X8_bits rfl rfl rfl (by decide +kernel) ⟨Nat.le_of_ble_eq_true rfl, Nat.le_of_ble_eq_true rfl⟩) (preV_of okQE (⟨⟨rfl, hP, hK, hD.top⟩, (hE.kept hS.2.1).narrow (fun q h => pl_free hD hS hA q h), hN⟩) (pl_recv hK hP (ci := 7) rfl hR.1.1.1 hR.1.1.2)) rfl rfl hl.1 rfl (lv_room (Nat.le_of_ble_eq_true rfl)) dL_law_223 ⟨by show _ ≤ 600000; omega, by show _ ≤ 7302250; omega⟩) hS (fun q _ h => pl_free hD hS hA q h) (pl_free hD hS hA) (fun r2 F3 t H1 locs ht hvm hw hP1 hz1 hk1 hS1 => ?_)
  have hPm := pm_keep hPm hdis hk1
  obtain ⟨hqr2, hR⟩ := hw
  have hP1 : va_P G vwCl (va_pl L F3) t.heap := hP1
  rw [ht] at hP1
  have hP := hP1
  have hS := hS1
  clear hS1
  generalize H1 = H at hP hPm hS ⊢
  refine lv_aload_n hx hb dL_law_226 rfl (lv_at hl 1 rfl) ?_
  refine lv_aload_n hx hb dL_law_227 rfl (lv_at hl 3 rfl) ?_
  refine lv_iload_n hx hb dL_law_228 rfl (lv_at hl 0 rfl) ?_
  refine lv_iconst (v := 1) hx hb dL_law_229 (by decide) ?_
  refine lv_iadd hx hb dL_law_230 ?_
  refine lv_topi (fun v4 ev4 => ?_)
  rw [show nI (5 * kk) + (1 : Int32) = nI (5 * kk + 1) from nI_ad5 _ _] at ev4
  subst ev4
  refine va_sld (i := nI (5 * kk + 1)) hx hb hX hbl hbA hS (vp_in_nI (by omega) (by omega)) dL_law_231 ?_
  rw [nI_clamp (by omega)]
  refine va_calll (va_runV (As := [.int (xs (5 * kk + 1))]) (rest := [.long r2]) ⟨hx, hb, hml, hown, hts⟩ (n_bits l G cy Lm Fm H.size om qm Mm Dd Sl Pp Kr Bk Xx hRm hV (xs (5 * kk + 1))) (cwV 1 hts gL_law_X9_bits rfl rfl rfl (by decide +kernel) ⟨Nat.le_of_ble_eq_true rfl, Nat.le_of_ble_eq_true rfl⟩) (preV_of okQ (⟨rfl, hPm, hK, hDm.top⟩) (pl_recv hK hPm (ci := 8) rfl hom.1 hom.2)) rfl rfl hl.1 rfl (lv_room (Nat.le_of_ble_eq_true rfl)) dL_law_232 ⟨by show _ ≤ 600000; omega, by show _ ≤ 7302250; omega⟩) hS (fun q _ h => pl_free hDm hS hA q h) (pl_free hDm hS hA) (fun r5 F6 t H1 locs ht hvm hw hP1 hz1 hk1 hS1 => ?_)
  have hP := pm_keep hP (pd_flip hdis) hk1
  obtain ⟨hqr5, hRm⟩ := hw
  have hP1 : va_P G vwCl (va_pl Lm F6) t.heap := hP1
  rw [ht] at hP1
  have hPm := hP1
  have hS := hS1
  clear hS1
  generalize H1 = H at hP hPm hS ⊢
  refine W.lcmp hx hb dL_law_235 ?_
  refine lv_if_eq (tgt := 1153) hx hb dL_law_236 (by decide) (fun c7 => ?_) (fun c7 => absurd ((lg_cmp_eq _ _).mpr (by rw [hqr2, hqr5])) c7)
  refine W.widen (k := cells + 1) (n := slots + 3) (by omega) (by omega) ?_
  exact KK L F3 F6 H _ ⟨hD, hDm, hdis, qa, qm, _, _, _, _, _, _, _, hR, hRm⟩ hP hPm hS

set_option maxHeartbeats 8000000 in
set_option maxRecDepth 100000 in
theorem law_lane {p : Program} {l : Launch} {e : Env} {s : State} {m : MethodId} {below : List Frame} {meth : Method} {c : Code} {Q : State → Prop} {b N : Nat} {xs : Nat → Int32} {G : va_G} {cy : Nat → ClassId} {ad : Nat → Nat} (hLX : LX p s m c b N xs G cy ad) {o om kk : Nat} (hkk : 5 * kk + 5 ≤ N) (hNN : N ≤ 2560) {L Lm : List Nat} {F Fm : Nat → va_E} {H : Heap} {locs : List Loc} {cells slots : Nat} (hcells : cells + 1 ≤ 600000) (hslots : slots + 3 ≤ 7302250) (hI : LI s cy o om L Lm F Fm) (hP : va_P G vwCl (va_pl L F) H) (hPm : va_P G vwCl (va_pl Lm Fm) H) (hS : va_S (LA s) s.heap H locs) {ls : Array Slot} (hl : lv_has ls 4 [(3, .int (nI (5 * kk))), (2, .ref om), (1, .ref o), (0, .ref b)])
    (KK : ∀ (L1 : List Nat) (F1 Fm1 : Nat → va_E) (H1 : Heap) (locs1 : List Loc), LI s cy o om L1 Lm F1 Fm1 → va_P G vwCl (va_pl L1 F1) H1 → va_P G vwCl (va_pl Lm Fm1) H1 → va_S (LA s) s.heap H1 locs1 → W p l e room_1 s m #[Value.ref b] below meth c H1 locs1 (cells + 1) (slots + 3) Q (F0 m 1153 ls [])) : W p l e room_1 s m #[Value.ref b] below meth c H locs cells slots Q (F0 m 241 ls []) := by
  obtain ⟨hx, hb, hml, hown, hts, hX, hbl, hK, hE, hN⟩ := hLX
  obtain ⟨hD, hDm, hdis, qa, qm, Mm, Dd, Sl, Pp, Kr, Bk, Xx, hR, hRm⟩ := hI
  have hA : ∀ q : Nat, s.heap.size ≤ q → LA s q := fun _ h => h
  have hbA : ¬ LA s b := Nat.not_le.mpr hbl
  have hV := hR.val
  obtain ⟨th0, oc0, hom⟩ := hRm.1
  have hPm0 := hPm
  refine lv_aload_n hx hb dL_law_241 rfl (lv_at hl 2 rfl) ?_
  refine lv_aload_n hx hb dL_law_242 rfl (lv_at hl 3 rfl) ?_
  refine lv_iload_n hx hb dL_law_243 rfl (lv_at hl 0 rfl) ?_
  refine lv_iconst (v := 1) hx hb dL_law_244 (by decide) ?_
  refine lv_iadd hx hb dL_law_245 ?_
  refine lv_topi (fun v1 ev1 => ?_)
  rw [show nI (5 * kk) + (1 : Int32) = nI (5 * kk + 1) from nI_ad5 _ _] at ev1
  subst ev1
  refine va_sld (i := nI (5 * kk + 1)) hx hb hX hbl hbA hS (vp_in_nI (by omega) (by omega)) dL_law_246 ?_
  rw [nI_clamp (by omega)]
  refine va_calli (va_runV (As := [.int (xs (5 * kk + 1))]) (rest := []) ⟨hx, hb, hml, hown, hts⟩ (m_lane l G cy L F ad H.size o qa Mm Dd Sl Pp Kr Bk Xx hR (xs (5 * kk + 1))) (cwV 1 hts gL_law_X8_lane rfl rfl rfl (by decide +kernel) ⟨Nat.le_of_ble_eq_true rfl, Nat.le_of_ble_eq_true rfl⟩) (preV_of okQE (⟨⟨rfl, hP, hK, hD.top⟩, (hE.kept hS.2.1).narrow (fun q h => pl_free hD hS hA q h), hN⟩) (pl_recv hK hP (ci := 7) rfl hR.1.1.1 hR.1.1.2)) rfl rfl hl.1 rfl (lv_room (Nat.le_of_ble_eq_true rfl)) dL_law_247 ⟨by show _ ≤ 600000; omega, by show _ ≤ 7302250; omega⟩) hS (fun q _ h => pl_free hD hS hA q h) (pl_free hD hS hA) (fun r2 F3 t H1 locs ht hvm hw hP1 hz1 hk1 hS1 => ?_)
  have hPm := pm_keep hPm hdis hk1
  obtain ⟨hqr2, hR⟩ := hw
  have hP1 : va_P G vwCl (va_pl L F3) t.heap := hP1
  rw [ht] at hP1
  have hP := hP1
  have hS := hS1
  clear hS1
  generalize H1 = H at hP hPm hS ⊢
  refine lv_aload_n hx hb dL_law_250 rfl (lv_at hl 1 rfl) ?_
  refine lv_aload_n hx hb dL_law_251 rfl (lv_at hl 3 rfl) ?_
  refine lv_iload_n hx hb dL_law_252 rfl (lv_at hl 0 rfl) ?_
  refine lv_iconst (v := 1) hx hb dL_law_253 (by decide) ?_
  refine lv_iadd hx hb dL_law_254 ?_
  refine lv_topi (fun v4 ev4 => ?_)
  rw [show nI (5 * kk) + (1 : Int32) = nI (5 * kk + 1) from nI_ad5 _ _] at ev4
  subst ev4
  refine va_sld (i := nI (5 * kk + 1)) hx hb hX hbl hbA hS (vp_in_nI (by omega) (by omega)) dL_law_255 ?_
  rw [nI_clamp (by omega)]
  refine va_calli (va_runV (As := [.int (xs (5 * kk + 1))]) (rest := [.int r2]) ⟨hx, hb, hml, hown, hts⟩ (n_lane l G cy Lm Fm H.size om qm Mm Dd Sl Pp Kr Bk Xx hRm hV (xs (5 * kk + 1))) (cwV 1 hts gL_law_X9_lane rfl rfl rfl (by decide +kernel) ⟨Nat.le_of_ble_eq_true rfl, Nat.le_of_ble_eq_true rfl⟩) (preV_of okQ (⟨rfl, hPm, hK, hDm.top⟩) (pl_recv hK hPm (ci := 8) rfl hom.1 hom.2)) rfl rfl hl.1 rfl (lv_room (Nat.le_of_ble_eq_true rfl)) dL_law_256 ⟨by show _ ≤ 600000; omega, by show _ ≤ 7302250; omega⟩) hS (fun q _ h => pl_free hDm hS hA q h) (pl_free hDm hS hA) (fun r5 F6 t H1 locs ht hvm hw hP1 hz1 hk1 hS1 => ?_)
  have hP := pm_keep hP (pd_flip hdis) hk1
  obtain ⟨hqr5, hRm⟩ := hw
  have hP1 : va_P G vwCl (va_pl Lm F6) t.heap := hP1
  rw [ht] at hP1
  have hPm := hP1
  have hS := hS1
  clear hS1
  generalize H1 = H at hP hPm hS ⊢
  refine lv_icmp_eq (tgt := 1153) hx hb dL_law_259 (by decide) (fun c7 => ?_) (fun c7 => absurd (by rw [hqr2, hqr5]) c7)
  refine W.widen (k := cells + 1) (n := slots + 3) (by omega) (by omega) ?_
  exact KK L F3 F6 H _ ⟨hD, hDm, hdis, qa, qm, _, _, _, _, _, _, _, hR, hRm⟩ hP hPm hS

set_option maxHeartbeats 8000000 in
set_option maxRecDepth 100000 in
theorem law_turn {p : Program} {l : Launch} {e : Env} {s : State} {m : MethodId} {below : List Frame} {meth : Method} {c : Code} {Q : State → Prop} {b N : Nat} {xs : Nat → Int32} {G : va_G} {cy : Nat → ClassId} {ad : Nat → Nat} (hLX : LX p s m c b N xs G cy ad) {o om kk : Nat} (hkk : 5 * kk + 5 ≤ N) (hNN : N ≤ 2560) {L Lm : List Nat} {F Fm : Nat → va_E} {H : Heap} {locs : List Loc} {cells slots : Nat} (hcells : cells + 1 ≤ 600000) (hslots : slots + 3 ≤ 7302250) (hI : LI s cy o om L Lm F Fm) (hP : va_P G vwCl (va_pl L F) H) (hPm : va_P G vwCl (va_pl Lm Fm) H) (hS : va_S (LA s) s.heap H locs) {ls : Array Slot} (hl : lv_has ls 4 [(3, .int (nI (5 * kk))), (2, .ref om), (1, .ref o), (0, .ref b)])
    (KK : ∀ (L1 : List Nat) (F1 Fm1 : Nat → va_E) (H1 : Heap) (locs1 : List Loc), LI s cy o om L1 Lm F1 Fm1 → va_P G vwCl (va_pl L1 F1) H1 → va_P G vwCl (va_pl Lm Fm1) H1 → va_S (LA s) s.heap H1 locs1 → W p l e room_1 s m #[Value.ref b] below meth c H1 locs1 (cells + 1) (slots + 3) Q (F0 m 1153 ls [])) : W p l e room_1 s m #[Value.ref b] below meth c H locs cells slots Q (F0 m 264 ls []) := by
  obtain ⟨hx, hb, hml, hown, hts, hX, hbl, hK, hE, hN⟩ := hLX
  obtain ⟨hD, hDm, hdis, qa, qm, Mm, Dd, Sl, Pp, Kr, Bk, Xx, hR, hRm⟩ := hI
  have hA : ∀ q : Nat, s.heap.size ≤ q → LA s q := fun _ h => h
  have hbA : ¬ LA s b := Nat.not_le.mpr hbl
  have hV := hR.val
  obtain ⟨th0, oc0, hom⟩ := hRm.1
  have hPm0 := hPm
  refine lv_aload_n hx hb dL_law_264 rfl (lv_at hl 2 rfl) ?_
  refine lv_aload_n hx hb dL_law_265 rfl (lv_at hl 3 rfl) ?_
  refine lv_iload_n hx hb dL_law_266 rfl (lv_at hl 0 rfl) ?_
  refine lv_iconst (v := 1) hx hb dL_law_267 (by decide) ?_
  refine lv_iadd hx hb dL_law_268 ?_
  refine lv_topi (fun v1 ev1 => ?_)
  rw [show nI (5 * kk) + (1 : Int32) = nI (5 * kk + 1) from nI_ad5 _ _] at ev1
  subst ev1
  refine va_sld (i := nI (5 * kk + 1)) hx hb hX hbl hbA hS (vp_in_nI (by omega) (by omega)) dL_law_269 ?_
  rw [nI_clamp (by omega)]
  refine lv_aload_n hx hb dL_law_270 rfl (lv_at hl 3 rfl) ?_
  refine lv_iload_n hx hb dL_law_271 rfl (lv_at hl 0 rfl) ?_
  refine lv_iconst (v := 2) hx hb dL_law_272 (by decide) ?_
  refine lv_iadd hx hb dL_law_273 ?_
  refine lv_topi (fun v2 ev2 => ?_)
  rw [show nI (5 * kk) + (2 : Int32) = nI (5 * kk + 2) from nI_ad5 _ _] at ev2
  subst ev2
  refine va_sld (i := nI (5 * kk + 2)) hx hb hX hbl hbA hS (vp_in_nI (by omega) (by omega)) dL_law_274 ?_
  rw [nI_clamp (by omega)]
  refine va_calli (va_runV (As := [.int (xs (5 * kk + 1)), .int (xs (5 * kk + 2))]) (rest := []) ⟨hx, hb, hml, hown, hts⟩ (m_turn l G cy L F ad H.size o qa Mm Dd Sl Pp Kr Bk Xx hR (xs (5 * kk + 1)) (xs (5 * kk + 2))) (cwV 2 hts gL_law_X8_turn rfl rfl rfl (by decide +kernel) ⟨Nat.le_of_ble_eq_true rfl, Nat.le_of_ble_eq_true rfl⟩) (preV_of okQE (⟨⟨rfl, hP, hK, hD.top⟩, (hE.kept hS.2.1).narrow (fun q h => pl_free hD hS hA q h), hN⟩) (pl_recv hK hP (ci := 7) rfl hR.1.1.1 hR.1.1.2)) rfl rfl hl.1 rfl (lv_room (Nat.le_of_ble_eq_true rfl)) dL_law_275 ⟨by show _ ≤ 600000; omega, by show _ ≤ 7302250; omega⟩) hS (fun q _ h => pl_free hD hS hA q h) (pl_free hD hS hA) (fun r3 F4 t H1 locs ht hvm hw hP1 hz1 hk1 hS1 => ?_)
  have hPm := pm_keep hPm hdis hk1
  obtain ⟨hqr3, hR⟩ := hw
  have hP1 : va_P G vwCl (va_pl L F4) t.heap := hP1
  rw [ht] at hP1
  have hP := hP1
  have hS := hS1
  clear hS1
  generalize H1 = H at hP hPm hS ⊢
  refine lv_aload_n hx hb dL_law_278 rfl (lv_at hl 1 rfl) ?_
  refine lv_aload_n hx hb dL_law_279 rfl (lv_at hl 3 rfl) ?_
  refine lv_iload_n hx hb dL_law_280 rfl (lv_at hl 0 rfl) ?_
  refine lv_iconst (v := 1) hx hb dL_law_281 (by decide) ?_
  refine lv_iadd hx hb dL_law_282 ?_
  refine lv_topi (fun v5 ev5 => ?_)
  rw [show nI (5 * kk) + (1 : Int32) = nI (5 * kk + 1) from nI_ad5 _ _] at ev5
  subst ev5
  refine va_sld (i := nI (5 * kk + 1)) hx hb hX hbl hbA hS (vp_in_nI (by omega) (by omega)) dL_law_283 ?_
  rw [nI_clamp (by omega)]
  refine lv_aload_n hx hb dL_law_284 rfl (lv_at hl 3 rfl) ?_
  refine lv_iload_n hx hb dL_law_285 rfl (lv_at hl 0 rfl) ?_
  refine lv_iconst (v := 2) hx hb dL_law_286 (by decide) ?_
  refine lv_iadd hx hb dL_law_287 ?_
  refine lv_topi (fun v6 ev6 => ?_)
  rw [show nI (5 * kk) + (2 : Int32) = nI (5 * kk + 2) from nI_ad5 _ _] at ev6
  subst ev6
  refine va_sld (i := nI (5 * kk + 2)) hx hb hX hbl hbA hS (vp_in_nI (by omega) (by omega)) dL_law_288 ?_
  rw [nI_clamp (by omega)]
  refine va_calli (va_runV (As := [.int (xs (5 * kk + 1)), .int (xs (5 * kk + 2))]) (rest := [.int r3]) ⟨hx, hb, hml, hown, hts⟩ (n_turn l G cy Lm Fm H.size om qm Mm Dd Sl Pp Kr Bk Xx hRm hV (xs (5 * kk + 1)) (xs (5 * kk + 2))) (cwV 2 hts gL_law_X9_turn rfl rfl rfl (by decide +kernel) ⟨Nat.le_of_ble_eq_true rfl, Nat.le_of_ble_eq_true rfl⟩) (preV_of okQ (⟨rfl, hPm, hK, hDm.top⟩) (pl_recv hK hPm (ci := 8) rfl hom.1 hom.2)) rfl rfl hl.1 rfl (lv_room (Nat.le_of_ble_eq_true rfl)) dL_law_289 ⟨by show _ ≤ 600000; omega, by show _ ≤ 7302250; omega⟩) hS (fun q _ h => pl_free hDm hS hA q h) (pl_free hDm hS hA) (fun r7 F8 t H1 locs ht hvm hw hP1 hz1 hk1 hS1 => ?_)
  have hP := pm_keep hP (pd_flip hdis) hk1
  obtain ⟨hqr7, hRm⟩ := hw
  have hP1 : va_P G vwCl (va_pl Lm F8) t.heap := hP1
  rw [ht] at hP1
  have hPm := hP1
  have hS := hS1
  clear hS1
  generalize H1 = H at hP hPm hS ⊢
  refine lv_icmp_eq (tgt := 1153) hx hb dL_law_292 (by decide) (fun c9 => ?_) (fun c9 => absurd (by rw [hqr3, hqr7]) c9)
  refine W.widen (k := cells + 1) (n := slots + 3) (by omega) (by omega) ?_
  exact KK L F4 F8 H _ ⟨hD, hDm, hdis, qa, qm, _, _, _, _, _, _, _, hR, hRm⟩ hP hPm hS
