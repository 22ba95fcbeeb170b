/-! the law: the class's pool and the reference's, side by side -/
abbrev LA (s : State) : Nat → Prop := fun q => s.heap.size ≤ q
def LX (p : Program) (s : State) (m : MethodId) (c : Code) (b N : Nat) (xs : Nat → Int32) (G : va_G) (cy : Nat → ClassId) (ad : Nat → Nat) : Prop :=
  p.tables.exec = Jvm.exec ∧ c.code = cL_law ∧ c.maxLocals = 4 ∧ s.vm.findClass RL = some m.cls ∧ (∀ w ∈ wsL_law, w.before #[Value.ref b] s = true) ∧ va_X b N xs s s.heap ∧ b < s.heap.size ∧ va_K G vwCl (pTys cy) s ∧ va_En "RopeDrums$Form" "LRopeDrums$Form;" ["FLOAT", "DOUBLE"] eF ad (LA s) s s.heap ∧ pN s
def LI (s : State) (cy : Nat → ClassId) (o om : Nat) (L Lm : List Nat) (F Fm : Nat → va_E) : Prop := pD (LA s) L ∧ pD (LA s) Lm ∧ (∀ a ∈ Lm, a ∉ L) ∧ ∃ (qa : Nat → Nat → Nat) (qm : Nat → Nat) (M : SM) (D : SD) (S : SL) (P : SP) (K : SR) (B : SB) (X : SX), Rep cy L o qa M D S P K B X F ∧ RepM cy Lm om qm M D S P K B X Fm
theorem va_P_l {D : va_G} {cl : List vw_C} {w1 w2 : va_W} {H : Heap} (h : va_P D cl (w1 ++ w2) H) : va_P D cl w1 H := fun k q hk => h k q (by
  have hl := (List.getElem?_eq_some_iff.mp hk).1
  rw [List.getElem?_append_left hl]
  exact hk)
theorem va_P_r {D : va_G} {cl : List vw_C} {w1 w2 : va_W} {H : Heap} (h : va_P D cl (w1 ++ w2) H) : va_P D cl w2 H := fun k q hk => h (w1.length + k) q (by
  rw [List.getElem?_append_right (by omega), Nat.add_sub_cancel_left]
  exact hk)
theorem pl_mem {L : List Nat} {F : Nat → va_E} {k : Nat} {q : Nat × va_E} (h : (va_pl L F)[k]? = some q) : q.1 ∈ L := by
  have h1 := List.mem_of_getElem? h
  obtain ⟨a, ha, hq⟩ := List.mem_map.mp h1
  rw [← hq]
  exact ha
/-- the other pool, behind a call -/
theorem pm_keep {D : va_G} {cl : List vw_C} {L1 L2 : List Nat} {F1 F2 : Nat → va_E} {H H1 : Heap} (h : va_P D cl (va_pl L2 F2) H) (hdis : ∀ a ∈ L2, a ∉ L1) (hk : ∀ q : Nat, q < H.size → ¬ va_A (va_pl L1 F1) H.size q → H1[q]? = H[q]?) : va_P D cl (va_pl L2 F2) H1 := by
  refine h.kept (fun k q hq => hk q.1 (h k q hq).lt (fun hA => ?_))
  rcases hA with ⟨j, x, hj⟩ | hA
  · exact hdis q.1 (pl_mem hq) (pl_mem (q := (q.1, x)) hj)
  · have := (h k q hq).lt
    omega
theorem pd_flip {L1 L2 : List Nat} (h : ∀ a ∈ L2, a ∉ L1) : ∀ a ∈ L1, a ∉ L2 := fun a ha hb => h a hb ha
theorem pd_grow {D : va_G} {cl : List vw_C} {A : Nat → Prop} {L1 L2 L' : List Nat} {F1 F2 : Nat → va_E} {H : Heap} (h : va_P D cl (va_pl L2 F2) H) (hdis : ∀ a ∈ L2, a ∉ L1) (hD : pD (va_A (va_pl L1 F1) H.size) L') : ∀ a ∈ L2, a ∉ L' := by
  intro a ha hb
  obtain ⟨k, hk⟩ := pl_ix (F := F2) ha rfl
  have hlt := (h k _ hk).lt
  rcases hD.2 a hb with ⟨j, x, hj⟩ | hA
  · exact hdis a ha (pl_mem (q := (a, x)) hj)
  · have hlt : a < H.size := hlt
    omega
theorem nI_ad5 (n j : Nat) : nI n + nI j = nI (n + j) := (Int32.ofNat_add n j).symm
def lj (a b : Int32) : Nat := (db ((a.toInt64 <<< ((32 : Int32).toInt64 &&& 63)) ||| (b.toInt64 &&& 4294967295))).toNat
theorem lj_lt (a b : Int32) : lj a b < 2 ^ 64 := UInt64.toNat_lt _
theorem lj_eq (a b : Int32) : ((a : Int32).toInt64 : Int64) <<< ((32 : Int32).toInt64 &&& 63) ||| ((b : Int32).toInt64 &&& 4294967295) = lN (lj a b) := (dbbits _).symm
theorem actc (x : Int32) : x = 0 ∨ x = 1 ∨ x = 2 ∨ x = 3 ∨ x = 4 ∨ ix 5 x = none := by
  rcases ixc 5 x with h | ⟨j, hj, -, e⟩
  · exact Or.inr (Or.inr (Or.inr (Or.inr (Or.inr h))))
  · subst e
    rcases (show j = 0 ∨ j = 1 ∨ j = 2 ∨ j = 3 ∨ j = 4 by omega) with rfl | rfl | rfl | rfl | rfl
    · exact Or.inl rfl
    · exact Or.inr (Or.inl rfl)
    · exact Or.inr (Or.inr (Or.inl rfl))
    · exact Or.inr (Or.inr (Or.inr (Or.inl rfl)))
    · exact Or.inr (Or.inr (Or.inr (Or.inr (Or.inl rfl))))
theorem whc (x : Int32) : x = 0 ∨ x = 1 ∨ x = 2 ∨ x = 3 ∨ (¬ x = 0 ∧ ¬ x = 1 ∧ ¬ x = 2 ∧ ¬ x = 3) := by
  by_cases h0 : x = 0
  · exact Or.inl h0
  · by_cases h1 : x = 1
    · exact Or.inr (Or.inl h1)
    · by_cases h2 : x = 2
      · exact Or.inr (Or.inr (Or.inl h2))
      · by_cases h3 : x = 3
        · exact Or.inr (Or.inr (Or.inr (Or.inl h3)))
        · exact Or.inr (Or.inr (Or.inr (Or.inr ⟨h0, h1, h2, h3⟩)))
theorem swc (x : Int32) : ∃ t : Nat, t < 32 ∧ x &&& 31 = nI t := by
  obtain ⟨n, -, e⟩ := wb_of32 x
  subst e
  exact ⟨n % 2 ^ 5, Nat.mod_lt _ (by decide), fa_mask n 5⟩
