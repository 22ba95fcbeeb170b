/-! THE CLAIM OUT OF ONE WALK OF THE LAW'S BODY. Your part is whole_start (and what it stands on); all else here is the same for every law, but numbers. -/
def R_law : String := "RopeDrumsLaw"
def lw_P (b : Addr) (xs : List Int32) (args : Array Value) (s : State) : Prop := args = #[.ref b] ∧ s.IntsAt b xs ∧ xs.length ≤ 2560 ∧ (Jvm.Cond.and given_1 narrow_1).before args s = true
/-- what a walk over the start with the record d0 says of its end, said of the start itself -/
theorem lw_closed {s t : State} {o : Outcome} {d0 : Drawn} {L : List Loc} {k n : Nat} (hd0 : s.drawn.sameBut d0 lw_cs) (hv : ∃ v, o = .returned v) (hW : (s.setDrawn d0).WarmedH t.vm) (hs : (s.setDrawn d0).sameButNew ({ t with vm := s.vm } : State) L k n) : State.butDraws s t lw_cs (fun t1 => Framed s o t1 L k n) := by
  have h2 : t.drawn = d0 := congrArg State.drawn hs.1
  refine ⟨⟨hv, hW, State.sameButNew.setDrawn hs s.drawn⟩, ?_, by decide⟩
  rw [h2]
  exact hd0
def lw_Q (_ : Array Value) (s : State) (o : Outcome) (t : State) : Prop := o = .returned (some (.int 1)) ∧ State.butDraws s t lw_cs (fun t1 => Framed s o t1 [] 600000 7302250)
def lw_Z (below : List Frame) (a : Array Value) (s : State) : State → Prop := fun t => ∃ o, t.status = .running ∧ Ended t below o ∧ lw_Q a s o t
/-- the law's own end, with 1 on the stack, nothing written that was there before, its room as the claim has it; d0: the record of draws at this point (at the entry s.drawn: begin with 'refine W.base ?_' and 'have hd0 := Drawn.sameBut.refl s.drawn lw_cs') -/
theorem lw_ret {p : Program} {l : Launch} {e : Env} {s : State} {m : MethodId} {below : List Frame} {meth : Method} {c : Code} {b : Nat} {d0 : Drawn} (hd0 : s.drawn.sameBut d0 lw_cs) (hx : p.tables.exec = Jvm.exec) (hb : c.code = code) (hr : meth.sig.returnType = ret) (hlocks : meth.locks = false) {pc : Nat} {H : Heap} {ls : Array Slot} (hdg : decode code pc = .ok (.ireturn, 1)) : W p l e room_1 (s.setDrawn d0) m #[Value.ref b] below meth c H [] 600000 7302250 (lw_Z below #[Value.ref b] s) (F0 m pc ls [.int 1]) := by
  intro T hT X
  obtain ⟨fs, hret, hrun, hended, hW, hframe⟩ := X.leave (v := some (.int 1)) (hlocks := hlocks) (fun h => by rw [hr] at h; cases h)
  have hmeth' : T.vm.method? m = some meth := X.method'
  refine ⟨T.setFrames fs, ?_, .returned (some (.int 1)), hrun, hended, rfl, lw_closed hd0 ⟨_, rfl⟩ hW hframe⟩
  jvm_step X.here [X.here.top, hx, hb, hdg, hmeth', hr, ret, narrow_b1]
  (try refine ⟨rfl, ?_⟩); (try refine ⟨rfl, ?_⟩)
  first | (intro acts; rw [hret _ acts rfl rfl rfl]) | rw [hret _ _ rfl rfl rfl]
  exact Steps.refl _
/-- what holds at the law's entry: the machine, the code, the tables' words (any of lw_tbl by 'hts w (by decide +kernel)'), the script of L ints xs at the cell b, what the Statement gives of the start (any of its parts by flat_of_before) -/
def lw_At (p : Program) (s : State) (m : MethodId) (meth : Method) (c : Code) (b L : Nat) (xs : Nat → Int32) : Prop :=
  p.tables.exec = Jvm.exec ∧ c.code = code ∧ meth.sig.returnType = ret ∧ c.maxLocals = 4 ∧ s.vm.findClass R_law = some m.cls ∧ (∀ w ∈ lw_tbl, w.before #[Value.ref b] s = true) ∧ va_X b L xs s s.heap ∧ b < s.heap.size ∧ meth.locks = false ∧ (Jvm.Cond.and given_1 narrow_1).before #[Value.ref b] s = true
theorem sub5 {N : Nat} (h : N ≤ 2560) : (nI N - 5).toInt = (N : Int) - 5 := by
  by_cases h5 : 5 ≤ N
  · have e : nI N = nI (N - 5) + nI 5 := by rw [nI_ad5, Nat.sub_add_cancel h5]
    rw [e, show (5 : Int32) = nI 5 from rfl, Int32.add_sub_cancel, nI_toInt (by omega)]
    omega
  · rcases (show N = 0 ∨ N = 1 ∨ N = 2 ∨ N = 3 ∨ N = 4 by omega) with rfl | rfl | rfl | rfl | rfl <;> decide
set_option maxHeartbeats 8000000 in
set_option maxRecDepth 100000 in
/-- the law's loop: call by call the class answers as the reference does -/
theorem law_loop {p : Program} {l : Launch} {e : Env} {s : State} {m : MethodId} {below : List Frame} {meth : Method} {c : Code} {b N : Nat} {xs : Nat → Int32} {G : va_G} {cy : Nat → ClassId} {ad : Nat → Nat} (hLX : LX p s m c b N xs G cy ad) (hr : meth.sig.returnType = ret) (hlocks : meth.locks = false) (hNN : N ≤ 2560) {o om : Nat} {L Lm : List Nat} {F Fm : Nat → va_E} {H : Heap} {locs : List Loc} (hI : LI s cy o om L Lm F Fm) (hP : va_P G vwCl (va_pl L F) H) (hPm : va_P G vwCl (va_pl Lm Fm) H) (hS : va_S (LA s) s.heap H locs) {ls : Array Slot} (hl : lv_has ls 4 [(3, .int (nI (5 * 0))), (2, .ref om), (1, .ref o), (0, .ref b)]) : W p l e room_1 s m #[Value.ref b] below meth c H locs 71 711 (lw_Z below #[Value.ref b] s) (F0 m 18 ls []) := by
  refine W.widen (k := 71 + 0) (n := 711 + 0 * 3) (by omega) (by omega) ?_
  refine lp_g (pc := 18) (nL := 4) (α := Nat × List Nat × (Nat → va_E) × (Nat → va_E)) (fun xx => 5 * xx.1 ≤ N ∧ LI s cy o om xx.2.1 Lm xx.2.2.1 xx.2.2.2) (fun xx => [(3, .int (nI (5 * xx.1))), (2, .ref om), (1, .ref o), (0, .ref b)]) (fun xx => va_pl xx.2.1 xx.2.2.1 ++ va_pl Lm xx.2.2.2) (fun xx => 71 + xx.1) (fun xx => 711 + xx.1 * 3) (fun xx => N - 5 * xx.1) (fun xx ls H locs hJ hP hS hl K => ?_) (0, L, F, Fm) ls ⟨Nat.zero_le _, hI⟩ (hP.app hPm) hS hl
  obtain ⟨kk, L, F, Fm⟩ := xx
  obtain ⟨hle, hI⟩ := hJ
  have hle : 5 * kk ≤ N := hle
  have hI : LI s cy o om L Lm F Fm := hI
  have hPm : va_P G vwCl (va_pl Lm Fm) H := va_P_r hP
  have hP : va_P G vwCl (va_pl L F) H := va_P_l hP
  have hl : lv_has ls 4 [(3, .int (nI (5 * kk))), (2, .ref om), (1, .ref o), (0, .ref b)] := hl
  obtain ⟨hx, hb, hml, hown, hts, hX, hbl, hK, hE, hN⟩ := id hLX
  have hbA : ¬ LA s b := Nat.not_le.mpr hbl
  refine lv_iload_n hx hb dL_law_18 rfl (lv_at hl 0 rfl) ?_
  refine lv_aload_n hx hb dL_law_19 rfl (lv_at hl 3 rfl) ?_
  refine va_slen hx hb hX hbl hbA hS dL_law_20 ?_
  refine lv_iconst (v := 5) hx hb dL_law_21 (by decide) ?_
  refine lv_isub hx hb dL_law_22 ?_
  refine lv_topi (fun v1 ev1 => ?_)
  refine lv_icmp_gt (tgt := 1159) hx hb dL_law_23 (by decide) (fun c1 => ?_) (fun c1 => ?_)
  · refine lv_iconst (v := 1) hx hb dL_law_1159 (by decide) ?_
    refine va_forget hS.2.2 ?_
    refine W.widen (k := 600000) (n := 7302250) (by show 71 + kk ≤ 600000; omega) (by show 711 + kk * 3 ≤ 7302250; omega) ?_
    exact lw_ret (d0 := s.drawn) (Drawn.sameBut.refl s.drawn lw_cs) hx hb hr hlocks dL_law_1160
  · have hkk : 5 * kk + 5 ≤ N := by
      rw [ev1, fa_lt, nI_toInt (by omega)] at c1
      have h5 : (Int32.ofNat N - 5).toInt = (N : Int) - 5 := sub5 hNN
      omega
    refine lv_aload_n hx hb dL_law_26 rfl (lv_at hl 3 rfl) ?_
    refine lv_iload_n hx hb dL_law_27 rfl (lv_at hl 0 rfl) ?_
    refine va_sld (i := nI (5 * kk)) hx hb hX hbl hbA hS (vp_in_nI (by omega) (by omega)) dL_law_28 ?_
    rw [nI_clamp (by omega)]
    refine lv_bipush (v := 31) hx hb dL_law_29 (by decide) ?_
    refine lv_iand hx hb dL_law_31 ?_
    refine lv_topi (fun v2 ev2 => ?_)
    obtain ⟨tt, htt, ett⟩ := swc (xs (5 * kk))
    rw [ett] at ev2
    subst ev2
    have KK : ∀ (L1 : List Nat) (F1 Fm1 : Nat → va_E) (H1 : Heap) (locs1 : List Loc), LI s cy o om L1 Lm F1 Fm1 → va_P G vwCl (va_pl L1 F1) H1 → va_P G vwCl (va_pl Lm Fm1) H1 → va_S (LA s) s.heap H1 locs1 → W p l e room_1 s m #[Value.ref b] below meth c H1 locs1 (71 + kk + 1) (711 + kk * 3 + 3) (lw_Z below #[Value.ref b] s) (F0 m 1153 ls []) := by
      intro L1 F1 Fm1 H1 locs1 hI1 hP1 hPm1 hS1
      obtain ⟨v3, ev3⟩ : ∃ y : Int32, y = nI (5 * kk) + (5) := ⟨_, rfl⟩
      refine lv_iinc (v := v3) (lv' := [(3, .int v3), (2, .ref om), (1, .ref o), (0, .ref b)]) hx hb dL_law_1153 hl (k := 0) rfl (by rw [ev3]; rfl) (by decide) rfl (fun ls hl => ?_)
      have hv : v3 = nI (5 * (kk + 1)) := by
        rw [ev3, show (5 : Int32) = nI 5 from rfl, nI_ad5]
        rfl
      rw [hv] at hl
      refine lv_goto (tgt := 18) hx hb dL_law_1156 (by decide) ?_
      refine W.widen (k := 71 + (kk + 1)) (n := 711 + (kk + 1) * 3) (by omega) (by omega) ?_
      exact K (kk + 1, L1, F1, Fm1) ls H1 locs1 ⟨by show 5 * (kk + 1) ≤ N; omega, hI1⟩ (by show N - 5 * (kk + 1) < N - 5 * kk; omega) (hP1.app hPm1) hS1 (lv_sub hl [0, 1, 2, 3] rfl)
    rcases (show tt = 0 ∨ tt = 1 ∨ tt = 2 ∨ tt = 3 ∨ tt = 4 ∨ tt = 5 ∨ tt = 6 ∨ tt = 7 ∨ tt = 8 ∨ tt = 9 ∨ tt = 10 ∨ tt = 11 ∨ tt = 12 ∨ tt = 13 ∨ tt = 14 ∨ tt = 15 ∨ tt = 16 ∨ tt = 17 ∨ tt = 18 ∨ tt = 19 ∨ tt = 20 ∨ tt = 21 ∨ tt = 22 ∨ tt = 23 ∨ 24 ≤ tt by omega) with rfl | rfl | rfl | rfl | rfl | rfl | rfl | rfl | rfl | rfl | rfl | rfl | rfl | rfl | rfl | rfl | rfl | rfl | rfl | rfl | rfl | rfl | rfl | rfl | h24
    · refine lv_tableIn (off := 112) (tgt := 144) hx hb dL_law_32 (by decide) (by decide) (by decide) (by decide) ?_
      exact law_set hLX hkk hNN (by omega) (by omega) hI hP hPm hS hl KK
    · refine lv_tableIn (off := 185) (tgt := 217) hx hb dL_law_32 (by decide) (by decide) (by decide) (by decide) ?_
      exact law_bits hLX hkk hNN (by omega) (by omega) hI hP hPm hS hl KK
    · refine lv_tableIn (off := 209) (tgt := 241) hx hb dL_law_32 (by decide) (by decide) (by decide) (by decide) ?_
      exact law_lane hLX hkk hNN (by omega) (by omega) hI hP hPm hS hl KK
    · refine lv_tableIn (off := 232) (tgt := 264) hx hb dL_law_32 (by decide) (by decide) (by decide) (by decide) ?_
      exact law_turn hLX hkk hNN (by omega) (by omega) hI hP hPm hS hl KK
    · refine lv_tableIn (off := 265) (tgt := 297) hx hb dL_law_32 (by decide) (by decide) (by decide) (by decide) ?_
      exact law_reckon hLX hkk hNN (by omega) (by omega) hI hP hPm hS hl KK
    · refine lv_tableIn (off := 318) (tgt := 350) hx hb dL_law_32 (by decide) (by decide) (by decide) (by decide) ?_
      exact law_compare hLX hkk hNN (by omega) (by omega) hI hP hPm hS hl KK
    · refine lv_tableIn (off := 351) (tgt := 383) hx hb dL_law_32 (by decide) (by decide) (by decide) (by decide) ?_
      exact law_drum hLX hkk hNN (by omega) (by omega) hI hP hPm hS hl KK
    · refine lv_tableIn (off := 414) (tgt := 446) hx hb dL_law_32 (by decide) (by decide) (by decide) (by decide) ?_
      exact law_wind hLX hkk hNN (by omega) (by omega) hI hP hPm hS hl KK
    · refine lv_tableIn (off := 447) (tgt := 479) hx hb dL_law_32 (by decide) (by decide) (by decide) (by decide) ?_
      exact law_told hLX hkk hNN (by omega) (by omega) hI hP hPm hS hl KK
    · refine lv_tableIn (off := 481) (tgt := 513) hx hb dL_law_32 (by decide) (by decide) (by decide) (by decide) ?_
      exact law_log hLX hkk hNN (by omega) (by omega) hI hP hPm hS hl KK
    · refine lv_tableIn (off := 514) (tgt := 546) hx hb dL_law_32 (by decide) (by decide) (by decide) (by decide) ?_
      exact law_write hLX hkk hNN (by omega) (by omega) hI hP hPm hS hl KK
    · refine lv_tableIn (off := 557) (tgt := 589) hx hb dL_law_32 (by decide) (by decide) (by decide) (by decide) ?_
      exact law_read hLX hkk hNN (by omega) (by omega) hI hP hPm hS hl KK
    · refine lv_tableIn (off := 600) (tgt := 632) hx hb dL_law_32 (by decide) (by decide) (by decide) (by decide) ?_
      exact law_rest hLX hkk hNN (by omega) (by omega) hI hP hPm hS hl KK
    · refine lv_tableIn (off := 643) (tgt := 675) hx hb dL_law_32 (by decide) (by decide) (by decide) (by decide) ?_
      exact law_copy hLX hkk hNN (by omega) (by omega) hI hP hPm hS hl KK
    · refine lv_tableIn (off := 702) (tgt := 734) hx hb dL_law_32 (by decide) (by decide) (by decide) (by decide) ?_
      exact law_whole hLX hkk hNN (by omega) (by omega) hI hP hPm hS hl KK
    · refine lv_tableIn (off := 736) (tgt := 768) hx hb dL_law_32 (by decide) (by decide) (by decide) (by decide) ?_
      exact law_spool hLX hkk hNN (by omega) (by omega) hI hP hPm hS hl KK
    · refine lv_tableIn (off := 785) (tgt := 817) hx hb dL_law_32 (by decide) (by decide) (by decide) (by decide) ?_
      exact law_rack hLX hkk hNN (by omega) (by omega) hI hP hPm hS hl KK
    · refine lv_tableIn (off := 844) (tgt := 876) hx hb dL_law_32 (by decide) (by decide) (by decide) (by decide) ?_
      exact law_put hLX hkk hNN (by omega) (by omega) hI hP hPm hS hl KK
    · refine lv_tableIn (off := 887) (tgt := 919) hx hb dL_law_32 (by decide) (by decide) (by decide) (by decide) ?_
      exact law_at hLX hkk hNN (by omega) (by omega) hI hP hPm hS hl KK
    · refine lv_tableIn (off := 920) (tgt := 952) hx hb dL_law_32 (by decide) (by decide) (by decide) (by decide) ?_
      exact law_weight hLX hkk hNN (by omega) (by omega) hI hP hPm hS hl KK
    · refine lv_tableIn (off := 979) (tgt := 1011) hx hb dL_law_32 (by decide) (by decide) (by decide) (by decide) ?_
      exact law_brake hLX hkk hNN (by omega) (by omega) hI hP hPm hS hl KK
    · refine lv_tableIn (off := 1052) (tgt := 1084) hx hb dL_law_32 (by decide) (by decide) (by decide) (by decide) ?_
      exact law_slow hLX hkk hNN (by omega) (by omega) hI hP hPm hS hl KK
    · refine lv_tableIn (off := 1085) (tgt := 1117) hx hb dL_law_32 (by decide) (by decide) (by decide) (by decide) ?_
      exact law_failed hLX hkk hNN (by omega) (by omega) hI hP hPm hS hl KK
    · refine lv_tableIn (off := 1098) (tgt := 1130) hx hb dL_law_32 (by decide) (by decide) (by decide) (by decide) ?_
      exact law_count hLX hkk hNN (by omega) (by omega) hI hP hPm hS hl KK
    · refine lv_tableOut (tgt := 1153) hx hb dL_law_32 (by have ht := nI_toInt (n := tt) (by omega); omega) (by decide) ?_
      refine W.widen (k := 71 + kk + 1) (n := 711 + kk * 3 + 3) (by show 71 + kk ≤ _; omega) (by show 711 + kk * 3 ≤ _; omega) ?_
      exact KK L F Fm H locs hI hP hPm hS
theorem arrP {ty : FieldType} {A : Array Value} {s : State} (h : (Cond.arrayClass ty).before A s = true) : ∃ cA : ClassId, ArrOfT s cA ty ∧ s.vm.findClass ("[" ++ ty.toString) = some cA := by
  obtain ⟨cA, kA, comp, h1, h2, h3⟩ := Cond.arrayClass_spec h
  exact ⟨cA, fun n z => ⟨fun k h => (by cases h), kA, h2, comp, h3⟩, h1⟩
theorem arrQ {C : String} {A : Array Value} {s : State} (h : (Cond.arrayOver (.object C)).before A s = true) : ∃ cA : ClassId, ArrOfT s cA (.object C) ∧ va_RA s cA (.object C) := by
  obtain ⟨comp, cA, kA, h1, -, h2, h3, h4⟩ := Cond.arrayOver_spec h
  exact ⟨cA, fun n z => ⟨fun k h => (by cases h), kA, h2, comp, h3⟩, kA, comp, h2, h3, h1, h4⟩
theorem pl_split {D : va_G} {cl : List vw_C} {L : List Nat} {F : Nat → va_E} {q : Nat} {x : va_E} {H : Heap} (hq : q ∉ L) (h : va_P D cl (va_pl (L ++ [q]) (va_up F q x)) H) : va_P D cl (va_pl L F) H ∧ va_P D cl (va_pl [q] (va_up F q x)) H := by
  rw [← pl_app hq] at h
  refine ⟨va_P_l h, ?_⟩
  have h2 := va_P_r h
  rw [show va_pl [q] (va_up F q x) = [(q, x)] by simp [va_pl, va_up]]
  exact h2
theorem pD_sub {A : Nat → Prop} {L : List Nat} {q : Nat} (h : pD A (L ++ [q])) : pD A L ∧ pD A [q] := by
  refine ⟨⟨fun i j a hi hj => h.1 i j a ?_ ?_, fun a ha => h.2 a (List.mem_append_left _ ha)⟩, ⟨fun i j a hi hj => ?_, fun a ha => h.2 a (List.mem_append_right _ ha)⟩⟩
  · rw [List.getElem?_append_left (List.getElem?_eq_some_iff.mp hi).1]
    exact hi
  · rw [List.getElem?_append_left (List.getElem?_eq_some_iff.mp hj).1]
    exact hj
  · have h1 := (List.getElem?_eq_some_iff.mp hi).1
    have h2 := (List.getElem?_eq_some_iff.mp hj).1
    simp at h1 h2
    omega
set_option maxHeartbeats 8000000 in
set_option maxRecDepth 100000 in
/-- the law, from its entry -/
theorem whole_start {p : Program} {e : Env} {s : State} {m : MethodId} {below : List Frame} {meth : Method} {c : Code} (l : Launch) {b L : Nat} {xs : Nat → Int32} (hL : L ≤ 2560) (C0 : lw_At p s m meth c b L xs) : W p l e room_1 s m #[Value.ref b] below meth c s.heap [] 0 0 (lw_Z below #[Value.ref b] s) (entryFrame m ([Value.ref b] : List Value).toArray 4) := by
  obtain ⟨hx, hb, hr, hml, hown, hts0, hX, hbl, hlocks, hgv⟩ := id C0
  have hts : ∀ w ∈ wsL_law, w.before #[Value.ref b] s = true := fun w h => hts0 w (wsL_law_in w h)
  have hA : ∀ q : Nat, s.heap.size ≤ q → LA s q := fun _ h => h
  obtain ⟨c0, iS0, hKn0⟩ := u_known (C := RX0) (T := TX0) (N := 2) (n := 2) hts0 inX0 (hts0 (.instantiable RX0 2) (by decide +kernel))
  obtain ⟨c1, iS1, hKn1⟩ := u_known (C := RX1) (T := TX1) (N := 4) (n := 4) hts0 inX1 (hts0 (.instantiable RX1 4) (by decide +kernel))
  obtain ⟨c2, iS2, hKn2⟩ := u_known (C := RX2) (T := TX2) (N := 0) (n := 7) hts0 inX2 (hts0 (.instantiable RX2 7) (by decide +kernel))
  obtain ⟨c3, iS3, hKn3⟩ := u_known (C := RX3) (T := TX3) (N := 3) (n := 3) hts0 inX3 (hts0 (.instantiable RX3 3) (by decide +kernel))
  obtain ⟨c4, iS4, hKn4⟩ := u_known (C := RX4) (T := TX4) (N := 3) (n := 3) hts0 inX4 (hts0 (.instantiable RX4 3) (by decide +kernel))
  obtain ⟨c5, iS5, hKn5⟩ := u_known (C := RX6) (T := TX6) (N := 3) (n := 3) hts0 inX6 (hts0 (.instantiable RX6 3) (by decide +kernel))
  obtain ⟨c6, iS6, hKn6⟩ := u_known (C := RX7) (T := TX7) (N := 3) (n := 3) hts0 inX7 (hts0 (.instantiable RX7 3) (by decide +kernel))
  obtain ⟨c7, iS7, hKn7⟩ := u_known (C := RX8) (T := TX8) (N := 9) (n := 9) hts0 inX8 (hts0 (.instantiable RX8 9) (by decide +kernel))
  obtain ⟨c8, iS8, hKn8⟩ := u_known (C := RX9) (T := TX9) (N := 20) (n := 20) hts0 inX9 (hts0 (.instantiable RX9 20) (by decide +kernel))
  obtain ⟨dC, dI, hKc⟩ : ∃ (dC : Nat → ClassId) (dI : Nat → Nat → Nat), ∀ (k : Nat) (q : vw_C), vwCl[k]? = some q → u_Kn s q.1 q.2.1 q.2.2 (dC k) (dI k) := by
    refine ⟨fun k => match k with | 0 => c0 | 1 => c1 | 2 => c2 | 3 => c3 | 4 => c4 | 5 => c5 | 6 => c6 | 7 => c7 | _ => c8, fun k => match k with | 0 => iS0 | 1 => iS1 | 2 => iS2 | 3 => iS3 | 4 => iS4 | 5 => iS5 | 6 => iS6 | 7 => iS7 | _ => iS8, ?_⟩
    intro k q hq
    match k, hq with
    | 0, hq => cases hq; exact hKn0
    | 1, hq => cases hq; exact hKn1
    | 2, hq => cases hq; exact hKn2
    | 3, hq => cases hq; exact hKn3
    | 4, hq => cases hq; exact hKn4
    | 5, hq => cases hq; exact hKn5
    | 6, hq => cases hq; exact hKn6
    | 7, hq => cases hq; exact hKn7
    | 8, hq => cases hq; exact hKn8
    | k + 9, hq => simp [vwCl] at hq
  obtain ⟨a0, ha0, hb0⟩ := arrP (hts0 (.arrayClass .double) (by decide +kernel))
  obtain ⟨a1, ha1, hb1⟩ := arrP (hts0 (.arrayClass .int) (by decide +kernel))
  obtain ⟨a2, ha2, hb2⟩ := arrP (hts0 (.arrayClass .long) (by decide +kernel))
  obtain ⟨a3, ha3, hb3⟩ := arrP (hts0 (.arrayClass .boolean) (by decide +kernel))
  obtain ⟨a4, ha4, hb4⟩ := arrQ (C := RX0) (hts0 (.arrayOver (.object RX0)) (by decide +kernel))
  obtain ⟨a5, ha5, hb5⟩ := arrQ (C := RX1) (hts0 (.arrayOver (.object RX1)) (by decide +kernel))
  obtain ⟨a6, ha6, hb6⟩ := arrQ (C := RX3) (hts0 (.arrayOver (.object RX3)) (by decide +kernel))
  obtain ⟨a7, ha7, hb7⟩ := arrQ (C := RX4) (hts0 (.arrayOver (.object RX4)) (by decide +kernel))
  obtain ⟨a8, ha8, hb8⟩ := arrQ (C := RX6) (hts0 (.arrayOver (.object RX6)) (by decide +kernel))
  obtain ⟨a9, ha9, hb9⟩ := arrQ (C := RX7) (hts0 (.arrayOver (.object RX7)) (by decide +kernel))
  obtain ⟨cy, hcy⟩ : ∃ cy : Nat → ClassId, va_K (dC, dI) vwCl (pTys cy) s := by
    refine ⟨fun k => match k with | 0 => a0 | 1 => a1 | 2 => a2 | 3 => a3 | 4 => a4 | 5 => a5 | 6 => a6 | 7 => a7 | 8 => a8 | _ => a9, hKc, ?_⟩
    intro k q hq
    match k, hq with
    | 0, hq => cases hq; exact ⟨ha0, hb0⟩
    | 1, hq => cases hq; exact ⟨ha1, hb1⟩
    | 2, hq => cases hq; exact ⟨ha2, hb2⟩
    | 3, hq => cases hq; exact ⟨ha3, hb3⟩
    | 4, hq => cases hq; exact ⟨ha4, hb4⟩
    | 5, hq => cases hq; exact ⟨ha5, hb5⟩
    | 6, hq => cases hq; exact ⟨ha6, hb6⟩
    | 7, hq => cases hq; exact ⟨ha7, hb7⟩
    | 8, hq => cases hq; exact ⟨ha8, hb8⟩
    | 9, hq => cases hq; exact ⟨ha9, hb9⟩
    | k + 10, hq => simp [pTys] at hq
  have hK := hcy
  have hfl := flat_of_before _ hgv
  obtain ⟨ad, hE⟩ := va_Enof (args := #[Value.ref b]) (s := s) (E := "RopeDrums$Form") (d := "LRopeDrums$Form;") (nm := ["FLOAT", "DOUBLE"]) (F := eF) (A := LA s)
    (fun i hi => by
      rcases (show i = 0 ∨ i = 1 by simp at hi; omega) with rfl | rfl
      · exact hts0 (.laysStatic "RopeDrums$Form" "FLOAT" "LRopeDrums$Form;") (by decide +kernel)
      · exact hts0 (.laysStatic "RopeDrums$Form" "DOUBLE" "LRopeDrums$Form;") (by decide +kernel))
    (hts0 (.initialized "RopeDrums$Form") (by decide +kernel))
    (fun i hi => by
      rcases (show i = 0 ∨ i = 1 by simp at hi; omega) with rfl | rfl
      · exact hfl (.exactly (.static "RopeDrums$Form" "FLOAT" "LRopeDrums$Form;") "RopeDrums$Form") (by decide +kernel)
      · exact hfl (.exactly (.static "RopeDrums$Form" "DOUBLE" "LRopeDrums$Form;") "RopeDrums$Form") (by decide +kernel))
    (fun q hq i hi => by
      rcases (show i = 0 ∨ i = 1 by simp at hi; omega) with rfl | rfl
      · simp only [List.mem_cons, List.not_mem_nil, or_false] at hq
        rcases hq with rfl | rfl | rfl | rfl
        · exact hfl (.eq (.field (.static "RopeDrums$Form" "FLOAT" "LRopeDrums$Form;") "RopeDrums$Form" "fraction" "I") (.int (23))) (by decide +kernel)
        · exact hfl (.eq (.field (.static "RopeDrums$Form" "FLOAT" "LRopeDrums$Form;") "RopeDrums$Form" "lowest" "I") (.int (-126))) (by decide +kernel)
        · exact hfl (.eq (.field (.static "RopeDrums$Form" "FLOAT" "LRopeDrums$Form;") "RopeDrums$Form" "endless" "I") (.int (255))) (by decide +kernel)
        · exact hfl (.eq (.field (.static "RopeDrums$Form" "FLOAT" "LRopeDrums$Form;") "RopeDrums$Form" "sign" "I") (.int (31))) (by decide +kernel)
      · simp only [List.mem_cons, List.not_mem_nil, or_false] at hq
        rcases hq with rfl | rfl | rfl | rfl
        · exact hfl (.eq (.field (.static "RopeDrums$Form" "DOUBLE" "LRopeDrums$Form;") "RopeDrums$Form" "fraction" "I") (.int (52))) (by decide +kernel)
        · exact hfl (.eq (.field (.static "RopeDrums$Form" "DOUBLE" "LRopeDrums$Form;") "RopeDrums$Form" "lowest" "I") (.int (-1022))) (by decide +kernel)
        · exact hfl (.eq (.field (.static "RopeDrums$Form" "DOUBLE" "LRopeDrums$Form;") "RopeDrums$Form" "endless" "I") (.int (2047))) (by decide +kernel)
        · exact hfl (.eq (.field (.static "RopeDrums$Form" "DOUBLE" "LRopeDrums$Form;") "RopeDrums$Form" "sign" "I") (.int (63))) (by decide +kernel))
    (fun i j hi hj hij => by
      have hn : (Cond.not (.eq (.static "RopeDrums$Form" "FLOAT" "LRopeDrums$Form;") (.static "RopeDrums$Form" "DOUBLE" "LRopeDrums$Form;"))).before #[Value.ref b] s = true := hfl _ (by decide +kernel)
      rcases (show i = 0 ∨ i = 1 by simp at hi; omega) with rfl | rfl
      · rcases (show j = 0 ∨ j = 1 by simp at hj; omega) with rfl | rfl
        · exact absurd rfl hij
        · exact Or.inl hn
      · rcases (show j = 0 ∨ j = 1 by simp at hj; omega) with rfl | rfl
        · exact Or.inr hn
        · exact absurd rfl hij)
    (fun a ha => Nat.not_le.mpr ha)
  have hN : pN s := ⟨va_Nw.of rfl (hts0 (.methodLinkNest RX2 65 yX8_powerOfTwo "RopeDrums") (by decide +kernel)), va_Nw.of rfl (hts0 (.methodLinkNest RX2 77 yX8_isEndless "RopeDrums") (by decide +kernel))⟩
  have hZ : pZ s := ⟨⟨va_Nw.of rfl (hts0 (.methodLinkNest RX8 56 yX4_init "RopeDrums") (by decide +kernel)), va_Nw.of rfl (hts0 (.methodLinkNest RX8 57 yX1_init "RopeDrums") (by decide +kernel)), va_Nw.of rfl (hts0 (.methodLinkNest RX8 61 yX6_init "RopeDrums") (by decide +kernel)), va_Nw.of rfl (hts0 (.methodLinkNest RX8 62 yX0_init "RopeDrums") (by decide +kernel)), va_Nw.of rfl (hts0 (.methodLinkNest RX3 3 yX5_init "RopeDrums") (by decide +kernel)), va_Nw.of rfl (hts0 (.methodLinkNest RX6 3 yX5_init "RopeDrums") (by decide +kernel))⟩, va_AO.of (hts0 (.arrayOver (.object RX0)) (by decide +kernel)), va_AO.of (hts0 (.arrayOver (.object RX1)) (by decide +kernel)), va_AO.of (hts0 (.arrayOver (.object RX3)) (by decide +kernel)), va_AO.of (hts0 (.arrayOver (.object RX4)) (by decide +kernel)), va_AO.of (hts0 (.arrayOver (.object RX6)) (by decide +kernel)), va_AO.of (hts0 (.arrayOver (.object RX7)) (by decide +kernel))⟩
  have hS : va_S (LA s) s.heap s.heap [] := va_S.rf
  have hP : va_P (dC, dI) vwCl (va_pl [] (fun _ => .inr (0, []))) s.heap := fun k q h => by simp [va_pl] at h
  have hD : pD (LA s) [] := ⟨fun i j a h => by simp at h, fun a h => by simp at h⟩
  have hl := lv_entry ([.ref b]) (n := 4) (Nat.le_of_ble_eq_true rfl)
  rw [lg_entry_eq]
  generalize (lg_sl ([.ref b]) ++ List.replicate (4 - (lg_sl ([.ref b])).length) Slot.unset).toArray = ls at hl ⊢
  have hl : lv_has ls 4 [(0, .ref b)] := hl
  refine pg_newo (L := []) (F := (fun _ => .inr (0, []))) (ci := 7) (T := TX8) (N := 9) hx hb hts inlX8 tyX8 tyX8_ok hown (hts (.classLink RL 7 RX8) (by decide +kernel)) (hts (.instantiable RX8 9) (by decide +kernel)) (hts (.initialized RX8) (by decide +kernel)) hK hP hD hS hA rfl [.null, .null, .null, .null, .null, .null, .null, .int 0, .int 0] (by decide +kernel) (Nat.le_of_ble_eq_true rfl) (Nat.le_of_ble_eq_true rfl) dL_law_0 (fun o H F1 L1 hno eF1 eL1 hP2 hD2 hS => ?_)
  have hmo : o ∈ L1 := by rw [eL1]; exact List.mem_append_right _ (List.mem_singleton.mpr rfl)
  have hFo : F1 o = .inr (7, [.null, .null, .null, .null, .null, .null, .null, .int 0, .int 0]) := by rw [eF1]; exact va_up_self _ _ _
  have hP := hP2
  have hD := hD2
  refine lv_dup hx hb dL_law_3 rfl ?_
  have hfr := fun q => pl_free (F := F1) hD hS hA q
  refine va_callv (va_runI (As := []) (rest := [.ref o]) ⟨hx, hb, hml, hown, hts⟩ (c_X8_init l (dC, dI) cy L1 F1 H.size o hmo hFo) (cwI 0 hts gL_law_X8_init rfl rfl rfl (hts (.initialized RX8) (by decide +kernel)) (hts (.methodLink RL 9 yX8_init) (by decide +kernel)) (hts (.instanceMethod yX8_init) (by decide +kernel)) rfl (by decide +kernel) ⟨Nat.le_of_ble_eq_true rfl, Nat.le_of_ble_eq_true rfl⟩) (preS_of okQZ (⟨⟨rfl, hP, hK, hD.top⟩, hZ⟩)) rfl rfl hl.1 rfl (lv_room (Nat.le_of_ble_eq_true rfl)) dL_law_4 ⟨Nat.le_of_ble_eq_true rfl, Nat.le_of_ble_eq_true rfl⟩) hS (fun q _ h => pl_free hD hS hA q h) (pl_free hD hS hA) (fun u t H1 locs ht hvm hw hP1 hz1 hk1 hS => ?_)
  obtain ⟨L2, F2⟩ := u
  obtain ⟨qa, hR, hD1⟩ := hw
  have hR : Rep cy L2 o qa M0 D0 S0 P0 K0 B0 X0 F2 := hR
  have hD : pD (LA s) L2 := pD.mono hD1 hfr
  have hP1 : va_P (dC, dI) vwCl (va_pl L2 F2) t.heap := hP1
  rw [ht] at hP1
  have hP := hP1
  generalize H1 = H at hP hS ⊢
  refine lv_astore_n (lv' := [(1, .ref o), (0, .ref b)]) hx hb dL_law_7 rfl hl (by decide) rfl (fun ls hl => ?_)
  refine pg_newo (L := L2) (F := F2) (ci := 8) (T := TX9) (N := 20) hx hb hts inlX9 tyX9 tyX9_ok hown (hts (.classLink RL 10 RX9) (by decide +kernel)) (hts (.instantiable RX9 20) (by decide +kernel)) (hts (.initialized RX9) (by decide +kernel)) hK hP hD hS hA rfl [.int 0, .null, .null, .null, .null, .null, .null, .null, .null, .int 0, .null, .null, .null, .null, .null, .null, .null, .int 0, .null, .long 0] (by decide +kernel) (Nat.le_of_ble_eq_true rfl) (Nat.le_of_ble_eq_true rfl) dL_law_8 (fun om H F3 L3 hnom eF3 eL3 hP2 hD2 hS => ?_)
  rw [eL3, eF3] at hP2
  rw [eL3] at hD2
  obtain ⟨hP, hPm⟩ := pl_split hnom hP2
  have hDm := (pD_sub hD2).2
  have hdis : ∀ a ∈ L2, a ∉ [om] := fun a ha hb9 => hnom (by rw [← List.mem_singleton.mp hb9]; exact ha)
  refine lv_dup hx hb dL_law_11 rfl ?_
  have hfr := fun q => pl_free (F := va_up F2 om (.inr (8, [.int 0, .null, .null, .null, .null, .null, .null, .null, .null, .int 0, .null, .null, .null, .null, .null, .null, .null, .int 0, .null, .long 0]))) hDm hS hA q
  refine va_callv (va_runI (As := []) (rest := [.ref om]) ⟨hx, hb, hml, hown, hts⟩ (n_init l (dC, dI) cy [om] (va_up F2 om (.inr (8, [.int 0, .null, .null, .null, .null, .null, .null, .null, .null, .int 0, .null, .null, .null, .null, .null, .null, .null, .int 0, .null, .long 0]))) H.size om (List.mem_singleton.mpr rfl) (va_up_self _ _ _)) (cwI 0 hts gL_law_X9_init rfl rfl rfl (hts (.initialized RX9) (by decide +kernel)) (hts (.methodLink RL 12 yX9_init) (by decide +kernel)) (hts (.instanceMethod yX9_init) (by decide +kernel)) rfl (by decide +kernel) ⟨Nat.le_of_ble_eq_true rfl, Nat.le_of_ble_eq_true rfl⟩) (preS_of okQ (⟨rfl, hPm, hK, hDm.top⟩)) rfl rfl hl.1 rfl (lv_room (Nat.le_of_ble_eq_true rfl)) dL_law_12 ⟨Nat.le_of_ble_eq_true rfl, Nat.le_of_ble_eq_true rfl⟩) hS (fun q _ h => pl_free hDm hS hA q h) (pl_free hDm hS hA) (fun u t H1 locs ht hvm hw hP1 hz1 hk1 hS => ?_)
  obtain ⟨L4, F4⟩ := u
  obtain ⟨qm, hRm, hD1⟩ := hw
  have hRm : RepM cy L4 om qm M0 D0 S0 P0 K0 B0 X0 F4 := hRm
  have hdis2 := pd_flip (pd_grow (A := LA s) hP hdis hD1)
  have hP := pm_keep hP hdis hk1
  have hDm : pD (LA s) L4 := pD.mono hD1 hfr
  have hP1 : va_P (dC, dI) vwCl (va_pl L4 F4) t.heap := hP1
  rw [ht] at hP1
  have hPm := hP1
  generalize H1 = H at hP hPm hS ⊢
  refine lv_astore_n (lv' := [(2, .ref om), (1, .ref o), (0, .ref b)]) hx hb dL_law_15 rfl hl (by decide) rfl (fun ls hl => ?_)
  refine lv_iconst (v := 0) hx hb dL_law_16 (by decide) ?_
  refine lv_istore_n (lv' := [(3, .int 0), (2, .ref om), (1, .ref o), (0, .ref b)]) hx hb dL_law_17 rfl hl (by decide) rfl (fun ls hl => ?_)
  refine W.widen (k := 71) (n := 711) (Nat.le_of_ble_eq_true rfl) (Nat.le_of_ble_eq_true rfl) ?_
  exact law_loop (G := (dC, dI)) (cy := cy) (ad := ad) ⟨hx, hb, hml, hown, hts, hX, hbl, hK, hE, hN⟩ hr hlocks hL ⟨hD, hDm, hdis2, qa, qm, _, _, _, _, _, _, _, hR, hRm⟩ hP hPm hS hl
-- ===== YOUR PART ENDS =====
set_option maxHeartbeats 4000000 in
theorem lw_walk (l : Launch) (b : Addr) (xs : List Int32) : MetFree l x (headSpec (Jvm.Cond.code x code maxLocals ret :: tables_1) room_1) (lw_P b xs) (fun _ _ _ _ _ => True) lw_Q := by
  refine MetFree.of_bodyS (code := code) (maxLocals := maxLocals) (ret := ret) (by decide) ?_ ?_
  · intro args s m h hn
    obtain ⟨meth, c, h1, h2, h3, h4, h5, h6, -, -⟩ := Cond.code_spec hn (atoms_spec (ws := Jvm.Cond.code x code maxLocals ret :: tables_1) h _ List.mem_cons_self)
    exact ⟨meth, c, h1, h2, h3, h4, h5, h6⟩
  · intro p e s m args below meth c s₁ B hml0 hP _
    obtain ⟨rfl, hx, hbd, hgv⟩ := hP
    obtain ⟨scr, harrAt, hlist, hof, hsmall⟩ := hx
    obtain ⟨hcb, hkn, -, -⟩ := State.arrayAt?_spec harrAt
    have hown : s.vm.findClass R_law = some m.cls := findClass_of_methodNamed B.named
    have hts0 : ∀ c ∈ (Jvm.Cond.code x code maxLocals ret :: tables_1), c.before #[Value.ref b] s = true := atoms_spec (ws := Jvm.Cond.code x code maxLocals ret :: tables_1) B.pre
    have hts : ∀ w ∈ lw_tbl, w.before #[Value.ref b] s = true := k2_hts_sels lw_privs (fun w hw => hts0 w (List.mem_cons_of_mem _ hw)) lw_privs_ok
    have hml : c.maxLocals = 4 := B.maxLocals_eq (hts0 _ List.mem_cons_self)
    have X₀ : Stand p l e room_1 s m #[Value.ref b] below meth c s₁ [] 0 0 := Stand.of_body B
    have hh0 : s₁.heap = s.heap := by rw [B.state]; rfl
    have hsz : scr.slots.size = xs.length := by rw [← Array.length_toList, hlist, List.length_map]
    have hval : ∀ j : Nat, j < xs.length → scr.slots[j]? = some (.int (xs.getD j 0)) := fun j hj => by
      rw [← Array.getElem?_toList, hlist]
      simp [hj]
    have hbl : b < s.heap.size := (Array.getElem?_eq_some_iff.mp hcb).1
    have hX : va_X b xs.length (fun j => xs.getD j 0) s s.heap := ⟨scr, hcb, hof, hkn, hsz, hval⟩
    have K : W p l e room_1 s m #[Value.ref b] below meth c s₁.heap [] 0 0 (lw_Z below #[Value.ref b] s) (entryFrame m ([Value.ref b] : List Value).toArray 4) := by
      rw [hh0]
      exact whole_start l hbd ⟨B.exec, B.bytes, B.returns, hml, hown, hts, hX, hbl, B.notSynchronized, hgv⟩
    obtain ⟨t, a1, o, b1, b2, b3⟩ := K s₁ rfl X₀
    exact ⟨t, o, a1, b1, b2, b3⟩
theorem lw_pre_spec {args : Array Value} {s : State} (h : (Jvm.Cond.and given_1 narrow_1).before args s = true) (hr : rest_1_c.before args s = true) : ∃ (b : Addr) (xs : List Int32), lw_P b xs args s := by
  have hs := flat_of_before _ h
  have hq := flat_of_before _ hr
  have hc : (Cond.count 1).before args s = true := hs _ (by decide +kernel)
  have harr : (Cond.arrayOf (.arg 0) .int).before args s = true := hs _ (by decide +kernel)
  have hle : (Cond.le (.length (.arg 0)) (.int 2560)).before args s = true := hs _ (by decide +kernel)
  have hlen : (Cond.isInt (.length (.arg 0))).before args s = true := hq _ (by decide +kernel)
  have hall : (Cond.all (.arg 0) (.isInt (.elem (.arg 0) (.index 0)))).before args s = true := hq _ (by decide +kernel)
  obtain ⟨b, xs, hb, hx⟩ := State.ints_of_pre rfl harr hlen hall
  have hsm : xs.length < 2 ^ 31 := hx.choose_spec.2.2.2
  have hev : (Term.length (.arg 0)).eval args s none [] s = some (.int xs.length.toInt32) := hx.length_eval hb
  have hv := Cond.le_ints hev (show (Term.int 2560).eval args s none [] s = some (.int 2560) from rfl)
  have hd : xs.length.toInt32 ≤ 2560 := by
    simpa [Cond.before, Cond.holds, hv] using hle
  have hN : xs.length ≤ 2560 := (Int32.ofNat_le_ofNat hsm (by decide)).mp (show Int32.ofNat xs.length ≤ Int32.ofNat 2560 from hd)
  exact ⟨b, xs, Cond.one_arg hc (show args[0]? = some (.ref b) from hb), hx, hN, h⟩
theorem lw_comes (l : Launch) : Comes l x (Jvm.Cond.code x code maxLocals ret :: tables_1) room_1 (fun tb e args s => Calls_1 tb e args s ∧ rest_1 tb e args s ∧ Pre_1 tb e args s)
    (fun _ _ args s o t => lw_Q args s o t) := by
  intro p e ha hc hk s m args below hf hfit hheap happ hpre
  obtain ⟨b, xs, hP⟩ := lw_pre_spec hpre.2.2 hpre.2.1
  obtain ⟨k, o, h1, h2, h3, hQ⟩ := lw_walk l b xs p e ha hc hk s m args below hf ((Spec.applies_iff_loose hf).mp happ).1 hP trivial
  exact ⟨k, o, h1, h2, h3, hQ⟩
theorem lw_frame {s t : State} {o : Outcome} {args : Array Value} (h : State.butDraws s t lw_cs (fun t1 => Framed s o t1 [] 600000 7302250)) :
    State.butDraws s t [Jvm.Choice.named "NaN.bits", Jvm.Choice.named "NaN.copy"] (fun t1 => Framed s o t1 (fieldLocs frame_1_writes args s ++ arrayLocs frame_1_arrays args s ++ staticLocs frame_1_statics s) 600000 7302250) := h
theorem lw_limb (L : Cond) (hL : ∀ (args : Array Value) (s t : State), L.after args s (.returned (some (.int 1))) t = true) :
    ArmFor flags0 classFile x code maxLocals ret World_1 tables_1 room_1 Calls_1 rest_1 Pre_1
      (fun tb e a s o t => postC L tb e a s o t ∧ State.butDraws s t [Jvm.Choice.named "NaN.bits", Jvm.Choice.named "NaN.copy"] (fun t1 => Framed s o t1 (fieldLocs frame_1_writes a s ++ arrayLocs frame_1_arrays a s ++ staticLocs frame_1_statics s) 600000 7302250)) := by
  intro l _ _ _ p e ha hc hk s m args below hf hfit hheap happ hpre
  obtain ⟨k, o, h1, h2, h3, rfl, hF⟩ := lw_comes l p e ha hc hk s m args below hf hfit hheap happ hpre
  exact ⟨k, _, h1, h2, h3, hL args s _, lw_frame hF⟩
theorem i_vc : Claimed_1_1 ∧ Claimed_1_2 := ⟨lw_limb limb_1_1 (fun args s t => by simp [limb_1_1, Cond.after, Cond.holds, Cond.value]), lw_limb limb_1_2 (fun args s t => Cond.after_iff.mpr (by
  first | (rw [show limb_1_2 = Cond.eq .result (.int 1) from rfl, Cond.eq_ints (x := 1) (y := 1) rfl rfl]; simp; done) | (simp [limb_1_2, Cond.value, Term.eval]; done)))⟩
