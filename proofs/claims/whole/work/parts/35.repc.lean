/-! the class while it is being made -/
def inj (qa : Nat → Nat → Nat) (k n : Nat) : Prop := ∀ i j, i < n → j < n → qa k i = qa k j → i = j
def RepC (cy : Nat → ClassId) (L : List Nat) (o : Nat) (qa : Nat → Nat → Nat) (n0 n1 n2 n4 n6 : Nat) (F : Nat → va_E) : Prop := (Has L F o (.inr (7, [.ref (qa 8 0), .ref (qa 8 1), .ref (qa 8 2), .ref (qa 8 3), .ref (qa 8 4), .ref (qa 8 5), .ref (qa 8 6), .int 0, .int 0])) ∧ Has L F (qa 8 6) (cI (cy 1) 6 (fun _ => 0)) ∧ Has L F (qa 8 3) (cQ (cy 9) 30 (fun _ => none))) ∧
  (Has L F (qa 8 0) (cQ (cy 7) 10 (pR n0 (qa 0))) ∧ Has L F (qa 8 1) (cQ (cy 5) 6 (pR n1 (qa 1))) ∧ Has L F (qa 8 2) (cQ (cy 6) 8 (pR n2 (qa 2))) ∧ Has L F (qa 8 4) (cQ (cy 8) 5 (pR n4 (qa 4))) ∧ Has L F (qa 8 5) (cQ (cy 4) 4 (pR n6 (qa 6)))) ∧
  (∀ j, j < n0 → Has L F (qa 0 j) (.inr (4, [.int 0, .long 0, .double FP.dconst0]))) ∧ (∀ j, j < n1 → Has L F (qa 1 j) (.inr (1, [.double FP.dconst1, .double FP.dconst0, .double FP.dconst0, .long 0]))) ∧ (∀ j, j < n2 → Has L F (qa 2 j) (.inr (3, [.int (-1), .int (lw j), .ref (qa 3 j)])) ∧ Has L F (qa 3 j) (cD (cy 0) 16 (fun _ => 0))) ∧ (∀ j, j < n4 → Has L F (qa 4 j) (.inr (5, [.int (-1), .ref (qa 5 j), .int 0])) ∧ Has L F (qa 5 j) (cQ (cy 9) 12 (fun _ => none))) ∧ (∀ j, j < n6 → Has L F (qa 6 j) (.inr (0, [.int 2, .double FP.dconst0]))) ∧
  (inj qa 0 n0 ∧ inj qa 1 n1 ∧ inj qa 2 n2 ∧ inj qa 3 n2 ∧ inj qa 4 n4 ∧ inj qa 5 n4 ∧ inj qa 6 n6)
theorem pR0 (f : Nat → Nat) : pR 0 f = fun _ => none := by funext i; simp [pR]
theorem inj_up {g : Nat → Nat} {L : List Nat} {n q : Nat} (h : ∀ i j, i < n → j < n → g i = g j → i = j) (hL : ∀ j, j < n → g j ∈ L) (hq : q ∉ L) : ∀ i j, i < n + 1 → j < n + 1 → va_up g n q i = va_up g n q j → i = j := by
  intro i j hi hj hij
  by_cases e1 : i = n
  · by_cases e2 : j = n
    · omega
    · subst e1
      rw [va_up_self, va_up_ne _ _ e2] at hij
      exact absurd (by rw [hij]; exact hL j (by omega)) hq
  · by_cases e2 : j = n
    · subst e2
      rw [va_up_self, va_up_ne _ _ e1] at hij
      exact absurd (by rw [← hij]; exact hL i (by omega)) hq
    · rw [va_up_ne _ _ e1, va_up_ne _ _ e2] at hij
      exact h i j (by omega) (by omega) hij
section RC
variable {cy : Nat → ClassId} {L L1 : List Nat} {o : Nat} {qa : Nat → Nat → Nat} {n0 n1 n2 n4 n6 : Nat} {F F1 : Nat → va_E} {q r : Nat}
theorem RepC.s0 (h : RepC cy L o qa n0 n1 n2 n4 n6 F) (hk : Kept L F L1 F1 [qa 8 0]) (hq : q ∉ L) (a1 : Has L1 F1 q (.inr (4, [.int 0, .long 0, .double FP.dconst0]))) (a3 : Has L1 F1 (qa 8 0) (cQ (cy 7) 10 (va_up (pR n0 (qa 0)) n0 (some q)))) : RepC cy L1 o (va_up qa 0 (va_up (qa 0) n0 q)) (n0 + 1) n1 n2 n4 n6 F1 := by
  obtain ⟨h1, h2, h3, h4, h5, h6, h7, i0, i1, i2, i3, i4, i5, i6⟩ := h
  have kp : ∀ {b : Nat} {x : va_E}, Has L F b x → pk x ≠ 1054 → Has L1 F1 b x := fun hb n1 => hb.keep hk (fun y hy => by rw [List.mem_singleton.mp hy, h2.1.2]; exact n1)
  have hqk : ∀ k, k ≠ 0 → (va_up qa 0 (va_up (qa 0) n0 q)) k = qa k := fun k hk => by exact va_up_ne _ _ hk
  have hq0 : (va_up qa 0 (va_up (qa 0) n0 q)) 0 = va_up (qa 0) n0 q := va_up_self _ _ _
  unfold RepC inj
  rw [hqk 1 (by decide), hqk 2 (by decide), hqk 3 (by decide), hqk 4 (by decide), hqk 5 (by decide), hqk 6 (by decide), hqk 8 (by decide), hq0]
  refine ⟨⟨kp h1.1 (by simp [pk]), kp h1.2.1 (by simp [pk]), kp h1.2.2 (by simp [pk])⟩, ⟨⟨a3.1, by rw [a3.2, pR_up]⟩, kp h2.2.1 (by simp [pk]), kp h2.2.2.1 (by simp [pk]), kp h2.2.2.2.1 (by simp [pk]), kp h2.2.2.2.2 (by simp [pk])⟩, fun j hj => ?_, fun j hj => kp (h4 j hj) (by simp [pk]), fun j hj => ⟨kp (h5 j hj).1 (by simp [pk]), kp (h5 j hj).2 (by simp [pk])⟩, fun j hj => ⟨kp (h6 j hj).1 (by simp [pk]), kp (h6 j hj).2 (by simp [pk])⟩, fun j hj => kp (h7 j hj) (by simp [pk]), inj_up i0 (fun j hj => (h3 j hj).1) hq, i1, i2, i3, i4, i5, i6⟩
  by_cases e : j = n0
  · subst e
    rw [va_up_self]
    exact a1
  · rw [va_up_ne _ _ e]
    exact kp (h3 j (by omega)) (by simp [pk])
theorem RepC.s1 (h : RepC cy L o qa n0 n1 n2 n4 n6 F) (hk : Kept L F L1 F1 [qa 8 1]) (hq : q ∉ L) (a1 : Has L1 F1 q (.inr (1, [.double FP.dconst1, .double FP.dconst0, .double FP.dconst0, .long 0]))) (a3 : Has L1 F1 (qa 8 1) (cQ (cy 5) 6 (va_up (pR n1 (qa 1)) n1 (some q)))) : RepC cy L1 o (va_up qa 1 (va_up (qa 1) n1 q)) n0 (n1 + 1) n2 n4 n6 F1 := by
  obtain ⟨h1, h2, h3, h4, h5, h6, h7, i0, i1, i2, i3, i4, i5, i6⟩ := h
  have kp : ∀ {b : Nat} {x : va_E}, Has L F b x → pk x ≠ 1034 → Has L1 F1 b x := fun hb n1 => hb.keep hk (fun y hy => by rw [List.mem_singleton.mp hy, h2.2.1.2]; exact n1)
  have hqk : ∀ k, k ≠ 1 → (va_up qa 1 (va_up (qa 1) n1 q)) k = qa k := fun k hk => by exact va_up_ne _ _ hk
  have hq0 : (va_up qa 1 (va_up (qa 1) n1 q)) 1 = va_up (qa 1) n1 q := va_up_self _ _ _
  unfold RepC inj
  rw [hqk 0 (by decide), hqk 2 (by decide), hqk 3 (by decide), hqk 4 (by decide), hqk 5 (by decide), hqk 6 (by decide), hqk 8 (by decide), hq0]
  refine ⟨⟨kp h1.1 (by simp [pk]), kp h1.2.1 (by simp [pk]), kp h1.2.2 (by simp [pk])⟩, ⟨kp h2.1 (by simp [pk]), ⟨a3.1, by rw [a3.2, pR_up]⟩, kp h2.2.2.1 (by simp [pk]), kp h2.2.2.2.1 (by simp [pk]), kp h2.2.2.2.2 (by simp [pk])⟩, fun j hj => kp (h3 j hj) (by simp [pk]), fun j hj => ?_, fun j hj => ⟨kp (h5 j hj).1 (by simp [pk]), kp (h5 j hj).2 (by simp [pk])⟩, fun j hj => ⟨kp (h6 j hj).1 (by simp [pk]), kp (h6 j hj).2 (by simp [pk])⟩, fun j hj => kp (h7 j hj) (by simp [pk]), i0, inj_up i1 (fun j hj => (h4 j hj).1) hq, i2, i3, i4, i5, i6⟩
  by_cases e : j = n1
  · subst e
    rw [va_up_self]
    exact a1
  · rw [va_up_ne _ _ e]
    exact kp (h4 j (by omega)) (by simp [pk])
theorem RepC.s2 (h : RepC cy L o qa n0 n1 n2 n4 n6 F) (hk : Kept L F L1 F1 [qa 8 2]) (hq : q ∉ L) (hr : r ∉ L) (a1 : Has L1 F1 q (.inr (3, [.int (-1), .int (lw n2), .ref r]))) (a2 : Has L1 F1 r (cD (cy 0) 16 (fun _ => 0))) (a3 : Has L1 F1 (qa 8 2) (cQ (cy 6) 8 (va_up (pR n2 (qa 2)) n2 (some q)))) : RepC cy L1 o (va_up (va_up qa 2 (va_up (qa 2) n2 q)) 3 (va_up (qa 3) n2 r)) n0 n1 (n2 + 1) n4 n6 F1 := by
  obtain ⟨h1, h2, h3, h4, h5, h6, h7, i0, i1, i2, i3, i4, i5, i6⟩ := h
  have kp : ∀ {b : Nat} {x : va_E}, Has L F b x → pk x ≠ 1044 → Has L1 F1 b x := fun hb n1 => hb.keep hk (fun y hy => by rw [List.mem_singleton.mp hy, h2.2.2.1.2]; exact n1)
  have hqk : ∀ k, k ≠ 2 ∧ k ≠ 3 → (va_up (va_up qa 2 (va_up (qa 2) n2 q)) 3 (va_up (qa 3) n2 r)) k = qa k := fun k hk => by rw [va_up_ne _ _ hk.2, va_up_ne _ _ hk.1]
  have hq0 : (va_up (va_up qa 2 (va_up (qa 2) n2 q)) 3 (va_up (qa 3) n2 r)) 2 = va_up (qa 2) n2 q := by rw [va_up_ne _ _ (by decide), va_up_self]
  have hr0 : (va_up (va_up qa 2 (va_up (qa 2) n2 q)) 3 (va_up (qa 3) n2 r)) 3 = va_up (qa 3) n2 r := va_up_self _ _ _
  unfold RepC inj
  rw [hqk 0 (by decide), hqk 1 (by decide), hqk 4 (by decide), hqk 5 (by decide), hqk 6 (by decide), hqk 8 (by decide), hq0, hr0]
  refine ⟨⟨kp h1.1 (by simp [pk]), kp h1.2.1 (by simp [pk]), kp h1.2.2 (by simp [pk])⟩, ⟨kp h2.1 (by simp [pk]), kp h2.2.1 (by simp [pk]), ⟨a3.1, by rw [a3.2, pR_up]⟩, kp h2.2.2.2.1 (by simp [pk]), kp h2.2.2.2.2 (by simp [pk])⟩, fun j hj => kp (h3 j hj) (by simp [pk]), fun j hj => kp (h4 j hj) (by simp [pk]), fun j hj => ?_, fun j hj => ⟨kp (h6 j hj).1 (by simp [pk]), kp (h6 j hj).2 (by simp [pk])⟩, fun j hj => kp (h7 j hj) (by simp [pk]), i0, i1, inj_up i2 (fun j hj => (h5 j hj).1.1) hq, inj_up i3 (fun j hj => (h5 j hj).2.1) hr, i4, i5, i6⟩
  by_cases e : j = n2
  · subst e
    rw [va_up_self, va_up_self]
    exact ⟨a1, a2⟩
  · rw [va_up_ne _ _ e, va_up_ne _ _ e]
    exact ⟨kp (h5 j (by omega)).1 (by simp [pk]), kp (h5 j (by omega)).2 (by simp [pk])⟩
theorem RepC.s4 (h : RepC cy L o qa n0 n1 n2 n4 n6 F) (hk : Kept L F L1 F1 [qa 8 4]) (hq : q ∉ L) (hr : r ∉ L) (a1 : Has L1 F1 q (.inr (5, [.int (-1), .ref r, .int 0]))) (a2 : Has L1 F1 r (cQ (cy 9) 12 (fun _ => none))) (a3 : Has L1 F1 (qa 8 4) (cQ (cy 8) 5 (va_up (pR n4 (qa 4)) n4 (some q)))) : RepC cy L1 o (va_up (va_up qa 4 (va_up (qa 4) n4 q)) 5 (va_up (qa 5) n4 r)) n0 n1 n2 (n4 + 1) n6 F1 := by
  obtain ⟨h1, h2, h3, h4, h5, h6, h7, i0, i1, i2, i3, i4, i5, i6⟩ := h
  have kp : ∀ {b : Nat} {x : va_E}, Has L F b x → pk x ≠ 1029 → Has L1 F1 b x := fun hb n1 => hb.keep hk (fun y hy => by rw [List.mem_singleton.mp hy, h2.2.2.2.1.2]; exact n1)
  have hqk : ∀ k, k ≠ 4 ∧ k ≠ 5 → (va_up (va_up qa 4 (va_up (qa 4) n4 q)) 5 (va_up (qa 5) n4 r)) k = qa k := fun k hk => by rw [va_up_ne _ _ hk.2, va_up_ne _ _ hk.1]
  have hq0 : (va_up (va_up qa 4 (va_up (qa 4) n4 q)) 5 (va_up (qa 5) n4 r)) 4 = va_up (qa 4) n4 q := by rw [va_up_ne _ _ (by decide), va_up_self]
  have hr0 : (va_up (va_up qa 4 (va_up (qa 4) n4 q)) 5 (va_up (qa 5) n4 r)) 5 = va_up (qa 5) n4 r := va_up_self _ _ _
  unfold RepC inj
  rw [hqk 0 (by decide), hqk 1 (by decide), hqk 2 (by decide), hqk 3 (by decide), hqk 6 (by decide), hqk 8 (by decide), hq0, hr0]
  refine ⟨⟨kp h1.1 (by simp [pk]), kp h1.2.1 (by simp [pk]), kp h1.2.2 (by simp [pk])⟩, ⟨kp h2.1 (by simp [pk]), kp h2.2.1 (by simp [pk]), kp h2.2.2.1 (by simp [pk]), ⟨a3.1, by rw [a3.2, pR_up]⟩, kp h2.2.2.2.2 (by simp [pk])⟩, fun j hj => kp (h3 j hj) (by simp [pk]), fun j hj => kp (h4 j hj) (by simp [pk]), fun j hj => ⟨kp (h5 j hj).1 (by simp [pk]), kp (h5 j hj).2 (by simp [pk])⟩, fun j hj => ?_, fun j hj => kp (h7 j hj) (by simp [pk]), i0, i1, i2, i3, inj_up i4 (fun j hj => (h6 j hj).1.1) hq, inj_up i5 (fun j hj => (h6 j hj).2.1) hr, i6⟩
  by_cases e : j = n4
  · subst e
    rw [va_up_self, va_up_self]
    exact ⟨a1, a2⟩
  · rw [va_up_ne _ _ e, va_up_ne _ _ e]
    exact ⟨kp (h6 j (by omega)).1 (by simp [pk]), kp (h6 j (by omega)).2 (by simp [pk])⟩
theorem RepC.s6 (h : RepC cy L o qa n0 n1 n2 n4 n6 F) (hk : Kept L F L1 F1 [qa 8 5]) (hq : q ∉ L) (a1 : Has L1 F1 q (.inr (0, [.int 2, .double FP.dconst0]))) (a3 : Has L1 F1 (qa 8 5) (cQ (cy 4) 4 (va_up (pR n6 (qa 6)) n6 (some q)))) : RepC cy L1 o (va_up qa 6 (va_up (qa 6) n6 q)) n0 n1 n2 n4 (n6 + 1) F1 := by
  obtain ⟨h1, h2, h3, h4, h5, h6, h7, i0, i1, i2, i3, i4, i5, i6⟩ := h
  have kp : ∀ {b : Nat} {x : va_E}, Has L F b x → pk x ≠ 1024 → Has L1 F1 b x := fun hb n1 => hb.keep hk (fun y hy => by rw [List.mem_singleton.mp hy, h2.2.2.2.2.2]; exact n1)
  have hqk : ∀ k, k ≠ 6 → (va_up qa 6 (va_up (qa 6) n6 q)) k = qa k := fun k hk => by exact va_up_ne _ _ hk
  have hq0 : (va_up qa 6 (va_up (qa 6) n6 q)) 6 = va_up (qa 6) n6 q := va_up_self _ _ _
  unfold RepC inj
  rw [hqk 0 (by decide), hqk 1 (by decide), hqk 2 (by decide), hqk 3 (by decide), hqk 4 (by decide), hqk 5 (by decide), hqk 8 (by decide), hq0]
  refine ⟨⟨kp h1.1 (by simp [pk]), kp h1.2.1 (by simp [pk]), kp h1.2.2 (by simp [pk])⟩, ⟨kp h2.1 (by simp [pk]), kp h2.2.1 (by simp [pk]), kp h2.2.2.1 (by simp [pk]), kp h2.2.2.2.1 (by simp [pk]), ⟨a3.1, by rw [a3.2, pR_up]⟩⟩, fun j hj => kp (h3 j hj) (by simp [pk]), fun j hj => kp (h4 j hj) (by simp [pk]), fun j hj => ⟨kp (h5 j hj).1 (by simp [pk]), kp (h5 j hj).2 (by simp [pk])⟩, fun j hj => ⟨kp (h6 j hj).1 (by simp [pk]), kp (h6 j hj).2 (by simp [pk])⟩, fun j hj => ?_, i0, i1, i2, i3, i4, i5, inj_up i6 (fun j hj => (h7 j hj).1) hq⟩
  by_cases e : j = n6
  · subst e
    rw [va_up_self]
    exact a1
  · rw [va_up_ne _ _ e]
    exact kp (h7 j (by omega)) (by simp [pk])
end RC
abbrev M0 : SM := (fun _ => 0, fun _ => 0)
abbrev D0 : SD := (fun i => if i < 6 then FP.dconst1 else 0, fun _ => 0, fun _ => 0, fun _ => 0)
abbrev S0 : SL := (fun i => if i < 8 then -1 else 0, fun _ => 0)
abbrev P0 : SP := (0, fun _ => 0, fun _ => 0)
abbrev K0 : SR := (fun i => if i < 5 then -1 else 0, fun _ => 0, fun _ => 0)
abbrev B0 : SB := (fun i => if i < 4 then 2 else 0, fun _ => 0)
abbrev X0 : SX := (0, fun _ => 0)
theorem dc0 : FP.dconst0 = 0 := rfl
theorem RepC.done {cy : Nat → ClassId} {L : List Nat} {o : Nat} {qa : Nat → Nat → Nat} {F : Nat → va_E} (h : RepC cy L o qa 10 6 8 5 4 F) : Rep cy L o qa M0 D0 S0 P0 K0 B0 X0 F := by
  obtain ⟨h1, h2, h3, h4, h5, h6, h7, i0, i1, i2, i3, i4, i5, i6⟩ := h
  have hm1 : ∀ n : Nat, szOK n (-1) := fun n => by
    unfold szOK
    have : (-1 : Int32).toInt = -1 := by decide
    omega
  have hm2 : ∀ i : Nat, ¬ (i : Int) < (-1 : Int32).toInt := fun i => by
    have : (-1 : Int32).toInt = -1 := by decide
    omega
  refine ⟨⟨h1.1, h1.2.1, h1.2.2.1, ?_⟩, h2, fun j hj => ?_, fun j hj => ?_, fun j hj => ?_, ⟨by decide, fun k hk => ?_⟩, fun j hj => ?_, fun j hj => ?_, i0, i1, i2, i3, i4, i5, i6⟩
  · rw [h1.2.2.2]
    exact congrArg (cQ (cy 9) 30) (pR0 _).symm
  · exact ⟨(h3 j hj).1, 0, FP.dconst0, (h3 j hj).2, by decide +kernel, Or.inl ⟨rfl, (by unfold sx; decide : sx 0), rfl⟩⟩
  · rw [show D0.1 j = FP.dconst1 from if_pos hj]
    exact ⟨(h4 j hj).1, (h4 j hj).2, okAr_D (x := FP.dconst1) (by decide +kernel)⟩
  · rw [show S0.1 j = -1 from if_pos hj]
    exact ⟨(h5 j hj).1.1, (h5 j hj).2.1, (h5 j hj).1.2, hm1 16, _, (h5 j hj).2.2, fun i hi => absurd hi (hm2 i)⟩
  · exact absurd (show (k : Int) < (0 : Int32).toInt from hk) (by have : (0 : Int32).toInt = 0 := (by decide); omega)
  · rw [show K0.1 j = -1 from if_pos hj]
    exact ⟨(h6 j hj).1.1, (h6 j hj).2.1, (h6 j hj).1.2, Or.inl rfl, hm1 12, _, (h6 j hj).2.2, fun i hi => absurd hi (hm2 i)⟩
  · rw [show B0.1 j = 2 from if_pos hj]
    exact ⟨(h7 j hj).1, _, (h7 j hj).2, Or.inl rfl⟩
