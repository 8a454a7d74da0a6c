/-! THE CORE. One world of fixed cells: numbers ('ids') of cells, a layout, a memory of ints; X: the machine at a pc with locals, stack and memory. -/
def tbw : List Cond := lw_tbl.filter goodWord
abbrev Mem : Type := (Nat → Nat → Int32) × (Nat → Int64) × Option Nat
abbrev Om : Type := va_G × (Nat → ClassId) × (Nat → Nat)
abbrev NC : Nat := 289
/-- the kind of a cell: 0 to 11 the classes of vwCl, 12 int[], 13 boolean[], 14 Goer[], 15 Lake[], 16 Row[] -/
def kdT : List Nat := [10, 16, 9, 12, 15, 15, 0, 12, 14, 1, 3, 2, 4, 6, 5, 12, 12, 12, 8, 12, 8, 12, 8, 12, 8, 12, 8, 12, 8, 12, 8, 12, 8, 12, 11, 12, 12, 12, 12, 12, 12, 12, 12, 12, 12, 12, 13, 12, 12]
def kd (c : Nat) : Nat := if c < 49 then kdT.getD c 0 else if (c - 49) % 8 = 0 then 7 else 12
def lnT : List Nat := [0, 8, 0, 100, 24, 2, 0, 16, 6, 0, 0, 0, 0, 0, 0, 6, 6, 9, 0, 40, 0, 40, 0, 40, 0, 40, 0, 40, 0, 40, 0, 40, 0, 40, 0, 8, 8, 320, 45, 40, 100, 45, 1080, 45, 6, 6, 2, 90, 16]
def ln (c : Nat) : Nat := if c < 49 then lnT.getD c 0 else if (c - 49) % 8 ≤ 2 then 10 else 6
/-- the cells that a cell's references name -/
def rf (c k : Nat) : Option Nat :=
  if c < 49 then
    (if c = 0 then [1, 2, 49, 57, 4, 5, 14, 6][k]?
    else if c = 1 then (if k < 8 then some (18 + 2 * k) else none)
    else if c = 2 then some 3
    else if c = 4 then (if k < 24 then some (81 + 8 * k) else none)
    else if c = 5 then (if k < 2 then some (273 + 8 * k) else none)
    else if c = 6 then some 7
    else if c = 8 then (if k = 0 then none else if k < 6 then some (8 + k) else none)
    else if c = 14 then (if k = 0 then some 65 else if k = 1 then some 73 else if k = 3 then some 15 else if k = 4 then some 16 else some 17)
    else if c = 34 then [some 35, some 36, some 37, none, none, some 38, some 39, some 40, none, none, none, none, none, none, none, some 41, none, some 42, none, some 43, some 44, some 45, some 46, some 47, some 48, none].getD k none
    else some (c + 1))
  else some (if k = 0 then 8 else c + k)
/-- what the fields of an object are -/
def flds (ad : Nat → Nat) (r : Nat → Int32) (lo : (Nat → Int64) × Option Nat) (c : Nat) : Nat → List Value
  | 0 => [va_rf ((rf c 0).map ad), .int (r 1), .int (r 2), .int (r 3), .int (r 4)]
  | 5 => [va_rf ((rf c 0).map ad), va_rf ((rf c 1).map ad), .int (r 2), va_rf ((rf c 3).map ad), va_rf ((rf c 4).map ad), .int (r 5), .int (r 6), va_rf ((rf c 7).map ad), .long (lo.1 0), .long (lo.1 1), va_rf (lo.2.map ad), .int (r 11), .int (r 12), .int (r 13)]
  | 7 => [va_rf ((rf c 0).map ad), va_rf ((rf c 1).map ad), va_rf ((rf c 2).map ad), va_rf ((rf c 3).map ad), va_rf ((rf c 4).map ad), va_rf ((rf c 5).map ad), va_rf ((rf c 6).map ad), va_rf ((rf c 7).map ad), .int (r 8), .int (r 9), .int (r 10), .int (r 11), .int (r 12), .int (r 13)]
  | 8 => [va_rf ((rf c 0).map ad), .int (r 1), .int (r 2)]
  | 9 => [va_rf ((rf c 0).map ad), .int (r 1), .int (r 2), .int (r 3), .int (r 4), .int (r 5), .int (r 6)]
  | 10 => [va_rf ((rf c 0).map ad), va_rf ((rf c 1).map ad), va_rf ((rf c 2).map ad), va_rf ((rf c 3).map ad), va_rf ((rf c 4).map ad), va_rf ((rf c 5).map ad), va_rf ((rf c 6).map ad), va_rf ((rf c 7).map ad), .int (r 8), .int (r 9), .int (r 10), .int (r 11), .int (r 12)]
  | 11 => [va_rf ((rf c 0).map ad), va_rf ((rf c 1).map ad), va_rf ((rf c 2).map ad), .int (r 3), .int (r 4), va_rf ((rf c 5).map ad), va_rf ((rf c 6).map ad), va_rf ((rf c 7).map ad), .int (r 8), .int (r 9), .int (r 10), .int (r 11), .int (r 12), .int (r 13), .int (r 14), va_rf ((rf c 15).map ad), .int (r 16), va_rf ((rf c 17).map ad), .int (r 18), va_rf ((rf c 19).map ad), va_rf ((rf c 20).map ad), va_rf ((rf c 21).map ad), va_rf ((rf c 22).map ad), va_rf ((rf c 23).map ad), va_rf ((rf c 24).map ad), .int (r 25)]
  | _ => []
def cel (Ω : Om) (M : Mem) (c : Nat) : va_E :=
  if kd c = 12 then .inl (Ω.2.1 0, ln c, .inl (M.1 c))
  else if kd c = 13 then .inl (Ω.2.1 1, ln c, .inl (M.1 c))
  else if kd c = 14 then .inl (Ω.2.1 2, ln c, .inr (.inr (.inr (.inr fun i => (rf c i).map Ω.2.2))))
  else if kd c = 15 then .inl (Ω.2.1 3, ln c, .inr (.inr (.inr (.inr fun i => (rf c i).map Ω.2.2))))
  else if kd c = 16 then .inl (Ω.2.1 4, ln c, .inr (.inr (.inr (.inr fun i => (rf c i).map Ω.2.2))))
  else .inr (kd c, flds Ω.2.2 (M.1 c) M.2 c (kd c))
def wsO (Ω : Om) (M : Mem) : va_W := (List.range NC).map fun c => (Ω.2.2 c, cel Ω M c)
theorem wsO_at (Ω : Om) (M : Mem) {c : Nat} (h : c < NC) : (wsO Ω M)[c]? = some (Ω.2.2 c, cel Ω M c) := by
  simp [wsO, List.getElem?_map, List.getElem?_range h]
theorem wsO_set (Ω : Om) (M M' : Mem) {c : Nat} (h : c < NC) (hc : ∀ d, d < NC → d ≠ c → cel Ω M' d = cel Ω M d) : (wsO Ω M).set c (Ω.2.2 c, cel Ω M' c) = wsO Ω M' := by
  apply List.ext_getElem?
  intro i
  by_cases hi : i < NC
  · by_cases e : i = c
    · subst e
      rw [wsO_at Ω M' h, List.getElem?_set_self (by simp [wsO]; exact h)]
    · rw [List.getElem?_set_ne (Ne.symm e), wsO_at Ω M hi, wsO_at Ω M' hi, hc i hi e]
  · rw [List.getElem?_eq_none (by simp [wsO]; omega), List.getElem?_eq_none (by simp [wsO]; omega)]
def inW (Ω : Om) : Nat → Prop := fun q => ∃ c, c < NC ∧ Ω.2.2 c = q
def tysO (Ω : Om) : List (ClassId × FieldType) := [(Ω.2.1 0, .int), (Ω.2.1 1, .boolean), (Ω.2.1 2, .object RX7), (Ω.2.1 3, .object RX8), (Ω.2.1 4, .object RX9)]
/-- what is fixed: addresses apart; classes; which kinds are castable to which -/
def adj (Ω : Om) : Prop := ∀ c d, c < NC → d < NC → Ω.2.2 c = Ω.2.2 d → c = d
def csts : List (String × String) := [(RX2, RX1), (RX3, RX1), (RX6, RX4)]
def cstN : List (String × String) := [(RX4, RX1), (RX6, RX1), (RX1, RX3), (RX2, RX3), (RX4, RX3), (RX6, RX3), (RX1, RX2), (RX3, RX2), (RX4, RX2), (RX6, RX2), (RX1, RX4), (RX2, RX4), (RX3, RX4), (RX1, RX6), (RX2, RX6), (RX3, RX6), (RX4, RX6)]
def Kst (Ω : Om) (U : State) : Prop := va_K Ω.1 vwCl (tysO Ω) U ∧ (∀ q ∈ csts, va_Nw (.castable q.1 q.2) U) ∧ (∀ q ∈ cstN, va_Nc q.1 q.2 U) ∧ va_Nw (.methodLinkNest RX10 76 yX11_isWithin RX11) U ∧ va_Nw (.declares ⟨RX7, "climb", "(LLadderSprings$Lake;I)V"⟩) U
theorem va_D_wsO {Ω : Om} (h : adj Ω) (M : Mem) : va_D (inW Ω) (wsO Ω M) := by
  have key : ∀ (k : Nat) (q : Nat × va_E), (wsO Ω M)[k]? = some q → k < NC ∧ q.1 = Ω.2.2 k := by
    intro k q hk
    have hl : k < NC := by
      have := (List.getElem?_eq_some_iff.mp hk).1
      simpa [wsO] using this
    rw [wsO_at Ω M hl] at hk
    cases hk
    exact ⟨hl, rfl⟩
  refine ⟨fun i j p q hi hj e => ?_, fun k q hk => ?_⟩
  · obtain ⟨a1, a2⟩ := key i p hi
    obtain ⟨b1, b2⟩ := key j q hj
    exact h i j a1 b1 (by rw [← a2, ← b2, e])
  · obtain ⟨a1, a2⟩ := key k q hk
    exact ⟨k, a1, a2.symm⟩
/-! locals by place -/
def lhas (ls : Array Slot) (nL : Nat) (L : List (Option Value)) : Prop := ls.size = nL ∧ lv_wf ls ∧ ∀ (i : Nat) (v : Value), L[i]? = some (some v) → ls[i]? = some (.val v)
def lkill (L : List (Option Value)) (j : Nat) : List (Option Value) := match L[j]? with
  | some (some v) => if v.category = 2 then L.set j none else L
  | _ => L
def lst1 (L : List (Option Value)) : Nat → Value → List (Option Value)
  | 0, v => L.set 0 (some v)
  | i + 1, v => (lkill L i).set (i + 1) (some v)
def lst2 (L : List (Option Value)) : Nat → Value → List (Option Value)
  | 0, v => (L.set 0 (some v)).set 1 none
  | i + 1, v => ((lkill L i).set (i + 1) (some v)).set (i + 2) none
def lasc (L : List (Option Value)) : Nat → List (Nat × Value)
  | 0 => []
  | n + 1 => match L[n]? with
    | some (some v) => (n, v) :: lasc L n
    | _ => lasc L n
theorem lasc_mem (L : List (Option Value)) : ∀ (n i : Nat) (v : Value), i < n → L[i]? = some (some v) → (i, v) ∈ lasc L n
  | 0, _, _, h, _ => by omega
  | n + 1, i, v, h, e => by
    by_cases hi : i = n
    · subst hi
      simp [lasc, e]
    · have h1 := lasc_mem L n i v (by omega) e
      unfold lasc
      split
      · exact List.mem_cons_of_mem _ h1
      · exact h1
theorem lasc_in (L : List (Option Value)) : ∀ (n : Nat) (q : Nat × Value), q ∈ lasc L n → L[q.1]? = some (some q.2)
  | 0, _, h => by cases h
  | n + 1, q, h => by
    unfold lasc at h
    split at h
    next v e =>
      rcases List.mem_cons.mp h with rfl | h
      · exact e
      · exact lasc_in L n q h
    next => exact lasc_in L n q h
theorem lhas_lv {ls : Array Slot} {nL : Nat} {L : List (Option Value)} (h : lhas ls nL L) : lv_has ls nL (lasc L L.length) := ⟨h.1, h.2.1, fun q hq => h.2.2 q.1 q.2 (lasc_in L _ q hq)⟩
theorem lkill_get {L : List (Option Value)} {j i : Nat} {v : Value} (h : (lkill L j)[i]? = some (some v)) : L[i]? = some (some v) ∧ ¬ (i = j ∧ v.category = 2) := by
  unfold lkill at h
  split at h
  next w hw =>
    split at h
    next hc =>
      by_cases e : i = j
      · subst e
        rw [List.getElem?_set_self (List.getElem?_eq_some_iff.mp hw).1] at h
        cases h
      · rw [List.getElem?_set_ne (Ne.symm e)] at h
        exact ⟨h, fun z => e z.1⟩
    next hc =>
      refine ⟨h, fun z => ?_⟩
      obtain ⟨rfl, z2⟩ := z
      rw [hw] at h
      cases h
      exact hc z2
  next hn =>
    exact ⟨h, fun z => hn v (z.1 ▸ h)⟩
