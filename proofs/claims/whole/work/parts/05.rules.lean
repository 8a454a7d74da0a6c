/-! X: the machine over the one world. -/
theorem lkill_len (L : List (Option Value)) (i : Nat) : (lkill L i).length = L.length := by unfold lkill; split <;> (try split) <;> simp
theorem lst1_len (L : List (Option Value)) (i : Nat) (v : Value) : (lst1 L i v).length = L.length := by cases i <;> simp [lst1, lkill_len]
theorem lst2_len (L : List (Option Value)) (i : Nat) (v : Value) : (lst2 L i v).length = L.length := by cases i <;> simp [lst2, lkill_len]
theorem lst1_key {L : List (Option Value)} {i j : Nat} {v w : Value} (hi : i < L.length) (hj : (lst1 L i v)[j]? = some (some w)) : (j = i ∧ w = v) ∨ (j ≠ i ∧ L[j]? = some (some w) ∧ ¬ (j + 1 = i ∧ w.category = 2)) := by
  cases i with
  | zero =>
    simp only [lst1] at hj
    by_cases e : j = 0
    · subst e
      rw [List.getElem?_set_self hi] at hj
      cases hj
      exact Or.inl ⟨rfl, rfl⟩
    · rw [List.getElem?_set_ne (Ne.symm e)] at hj
      exact Or.inr ⟨e, hj, by omega⟩
  | succ i =>
    simp only [lst1] at hj
    by_cases e : j = i + 1
    · subst e
      rw [List.getElem?_set_self (by rw [lkill_len]; exact hi)] at hj
      cases hj
      exact Or.inl ⟨rfl, rfl⟩
    · rw [List.getElem?_set_ne (Ne.symm e)] at hj
      obtain ⟨h1, h2⟩ := lkill_get hj
      exact Or.inr ⟨e, h1, fun z => h2 ⟨by omega, z.2⟩⟩
theorem lst1_has {ls : Array Slot} {nL : Nat} {L : List (Option Value)} {i : Nat} {v : Value} (hs : lv_has ls nL ((i, v) :: (lasc L L.length).filter (fun q => !(q.1 == i) && !(q.1 + 1 == i && q.2.category == 2)))) (hi : i < L.length) (_hc : v.category = 1) : lhas ls nL (lst1 L i v) := by
  refine ⟨hs.1, hs.2.1, fun j w hj => ?_⟩
  rcases lst1_key hi hj with ⟨rfl, rfl⟩ | ⟨k1, k2, k3⟩
  · exact hs.2.2 (j, w) List.mem_cons_self
  · refine hs.2.2 (j, w) (List.mem_cons_of_mem _ (List.mem_filter.mpr ⟨lasc_mem L _ j w (List.getElem?_eq_some_iff.mp k2).1 k2, ?_⟩))
    simp only [Bool.and_eq_true, Bool.not_eq_true', beq_eq_false_iff_ne, ne_eq, Bool.and_eq_false_iff]
    refine ⟨k1, ?_⟩
    by_cases z : j + 1 = i
    · exact Or.inr (fun q => k3 ⟨z, q⟩)
    · exact Or.inl z
theorem lst2_key {L : List (Option Value)} {i j : Nat} {v w : Value} (hi : i + 1 < L.length) (hj : (lst2 L i v)[j]? = some (some w)) : (j = i ∧ w = v) ∨ (j ≠ i ∧ j ≠ i + 1 ∧ L[j]? = some (some w) ∧ ¬ (j + 1 = i ∧ w.category = 2)) := by
  cases i with
  | zero =>
    simp only [lst2] at hj
    by_cases e1 : j = 1
    · subst e1
      rw [List.getElem?_set_self (by simp; omega)] at hj
      cases hj
    · rw [List.getElem?_set_ne (Ne.symm e1)] at hj
      by_cases e : j = 0
      · subst e
        rw [List.getElem?_set_self (by omega)] at hj
        cases hj
        exact Or.inl ⟨rfl, rfl⟩
      · rw [List.getElem?_set_ne (Ne.symm e)] at hj
        exact Or.inr ⟨e, e1, hj, by omega⟩
  | succ i =>
    simp only [lst2] at hj
    by_cases e1 : j = i + 2
    · subst e1
      rw [List.getElem?_set_self (by simp [lkill_len]; omega)] at hj
      cases hj
    · rw [List.getElem?_set_ne (Ne.symm e1)] at hj
      by_cases e : j = i + 1
      · subst e
        rw [List.getElem?_set_self (by rw [lkill_len]; omega)] at hj
        cases hj
        exact Or.inl ⟨rfl, rfl⟩
      · rw [List.getElem?_set_ne (Ne.symm e)] at hj
        obtain ⟨h1, h2⟩ := lkill_get hj
        exact Or.inr ⟨e, e1, h1, fun z => h2 ⟨by omega, z.2⟩⟩
theorem lst2_has {ls : Array Slot} {nL : Nat} {L : List (Option Value)} {i : Nat} {v : Value} (hs : lv_has ls nL ((i, v) :: (lasc L L.length).filter (fun q => !(q.1 == i) && (!(q.1 == i + 1) && !(q.1 + 1 == i && q.2.category == 2))))) (hi : i + 1 < L.length) (_hc : v.category = 2) : lhas ls nL (lst2 L i v) := by
  refine ⟨hs.1, hs.2.1, fun j w hj => ?_⟩
  rcases lst2_key hi hj with ⟨rfl, rfl⟩ | ⟨k1, k4, k2, k3⟩
  · exact hs.2.2 (j, w) List.mem_cons_self
  · refine hs.2.2 (j, w) (List.mem_cons_of_mem _ (List.mem_filter.mpr ⟨lasc_mem L _ j w (List.getElem?_eq_some_iff.mp k2).1 k2, ?_⟩))
    simp only [Bool.and_eq_true, Bool.not_eq_true', beq_eq_false_iff_ne, ne_eq, Bool.and_eq_false_iff]
    refine ⟨k1, k4, ?_⟩
    by_cases z : j + 1 = i
    · exact Or.inr (fun q => k3 ⟨z, q⟩)
    · exact Or.inl z
abbrev Gx : Type := Program × Launch × Env × Room × State × MethodId × Array Value × List Frame × Method × Code × (State → Prop) × Nat × Nat
def Cx (Γ : Gx) (Ω : Om) (own : String) (cc : ByteArray) (nL lev : Nat) (ret : Option FieldType) : Prop := match Γ with
  | (p, _, _, R, s, m, args, _, meth, c, _, cells, slots) => p.tables.exec = Jvm.exec ∧ c.code = cc ∧ c.maxLocals = nL ∧ s.vm.findClass own = some m.cls ∧ (∀ w ∈ tbw, w.before args s = true) ∧ Kst Ω s ∧ adj Ω ∧ meth.locks = false ∧ meth.sig.returnType = ret ∧ lev ≤ R.frames ∧ 40 * lev ≤ R.locals ∧ cells ≤ R.cells ∧ slots ≤ R.slots
def X (Γ : Gx) (Ω : Om) (own : String) (cc : ByteArray) (nL lev : Nat) (ret : Option FieldType) (pc : Nat) (L : List (Option Value)) (st : List Value) (M : Mem) : Prop := Cx Γ Ω own cc nL lev ret → match Γ with
  | (p, l, e, R, s, m, args, below, meth, c, Q, cells, slots) => ∀ (H : Heap) (locs : List Loc) (ls : Array Slot), lhas ls nL L → L.length = nL → va_P Ω.1 vwCl (wsO Ω M) H → va_S (inW Ω) s.heap H locs → W p l e R s m args below meth c H locs cells slots Q (F0 m pc ls st)
section
variable {Γ : Gx} {Ω : Om} {own : String} {cc : ByteArray} {nL lev : Nat} {ret : Option FieldType} {pc : Nat} {L : List (Option Value)} {st : List Value} {M : Mem}
theorem Cx.fix {p : Program} {l : Launch} {e : Env} {R : Room} {s : State} {m : MethodId} {args : Array Value} {below : List Frame} {meth : Method} {c : Code} {Q : State → Prop} {cells slots : Nat} (C : Cx (p, l, e, R, s, m, args, below, meth, c, Q, cells, slots) Ω own cc nL lev ret) : CallFix p m c cc nL s args tbw own := ⟨C.1, C.2.1, C.2.2.1, C.2.2.2.1, C.2.2.2.2.1⟩

theorem x_iconst {n : Int} (d : decode cc pc = .ok (.iconst n, 1)) {v : Int32} (hv : Int32.ofInt n = v) (k : X Γ Ω own cc nL lev ret (pc + 1) L (.int v :: st) M) : X Γ Ω own cc nL lev ret pc L st M := by
  obtain ⟨p, l, e, R, s, m, args, below, meth, c, Q, cells, slots⟩ := Γ
  intro C H locs ls hl hn hP hS
  exact lv_iconst C.1 C.2.1 d hv (k C H locs ls hl hn hP hS)
theorem x_bipush {n : Int} (d : decode cc pc = .ok (.bipush n, 2)) {v : Int32} (hv : (Int8.ofInt n).toInt32 = v) (k : X Γ Ω own cc nL lev ret (pc + 2) L (.int v :: st) M) : X Γ Ω own cc nL lev ret pc L st M := by
  obtain ⟨p, l, e, R, s, m, args, below, meth, c, Q, cells, slots⟩ := Γ
  intro C H locs ls hl hn hP hS
  exact lv_bipush C.1 C.2.1 d hv (k C H locs ls hl hn hP hS)
theorem x_sipush {n : Int} (d : decode cc pc = .ok (.sipush n, 3)) {v : Int32} (hv : (Int16.ofInt n).toInt32 = v) (k : X Γ Ω own cc nL lev ret (pc + 3) L (.int v :: st) M) : X Γ Ω own cc nL lev ret pc L st M := by
  obtain ⟨p, l, e, R, s, m, args, below, meth, c, Q, cells, slots⟩ := Γ
  intro C H locs ls hl hn hP hS
  exact lv_sipush C.1 C.2.1 d hv (k C H locs ls hl hn hP hS)
theorem x_lconst {n : Fin 2} (d : decode cc pc = .ok (.lconst n, 1)) {v : Int64} (hv : Int64.ofNat (n : Nat) = v) (k : X Γ Ω own cc nL lev ret (pc + 1) L (.long v :: st) M) : X Γ Ω own cc nL lev ret pc L st M := by
  obtain ⟨p, l, e, R, s, m, args, below, meth, c, Q, cells, slots⟩ := Γ
  intro C H locs ls hl hn hP hS
  exact lv_lconst C.1 C.2.1 d hv (k C H locs ls hl hn hP hS)
theorem x_ldc {i : Nat} {v : Int32} (d : decode cc pc = .ok (.ldc i, 2)) (hw : Cond.constant own i v ∈ tbw) (k : X Γ Ω own cc nL lev ret (pc + 2) L (.int v :: st) M) : X Γ Ω own cc nL lev ret pc L st M := by
  obtain ⟨p, l, e, R, s, m, args, below, meth, c, Q, cells, slots⟩ := Γ
  intro C H locs ls hl hn hP hS
  exact lv_ldc C.1 C.2.1 C.2.2.2.1 (C.2.2.2.2.1 _ hw) d (k C H locs ls hl hn hP hS)
theorem x_ldc2 {i : Nat} {v : Int64} (d : decode cc pc = .ok (.ldc2_w i, 3)) (hw : Cond.constantLong own i v ∈ tbw) (k : X Γ Ω own cc nL lev ret (pc + 3) L (.long v :: st) M) : X Γ Ω own cc nL lev ret pc L st M := by
  obtain ⟨p, l, e, R, s, m, args, below, meth, c, Q, cells, slots⟩ := Γ
  intro C H locs ls hl hn hP hS
  exact lv_ldc2 C.1 C.2.1 C.2.2.2.1 (C.2.2.2.2.1 _ hw) d (k C H locs ls hl hn hP hS)
theorem x_null (d : decode cc pc = .ok (.aconst_null, 1)) (k : X Γ Ω own cc nL lev ret (pc + 1) L (.null :: st) M) : X Γ Ω own cc nL lev ret pc L st M := by
  obtain ⟨p, l, e, R, s, m, args, below, meth, c, Q, cells, slots⟩ := Γ
  intro C H locs ls hl hn hP hS
  exact lv_null C.1 C.2.1 d (k C H locs ls hl hn hP hS)
theorem x_iload_n {j : Fin 4} {x : Int32} (d : decode cc pc = .ok (.iload_n j, 1)) (h : L[(j : Nat)]? = some (some (.int x))) (k : X Γ Ω own cc nL lev ret (pc + 1) L (.int x :: st) M) : X Γ Ω own cc nL lev ret pc L st M := by
  obtain ⟨p, l, e, R, s, m, args, below, meth, c, Q, cells, slots⟩ := Γ
  intro C H locs ls hl hn hP hS
  exact lv_iload_n C.1 C.2.1 d rfl (hl.2.2 _ _ h) (k C H locs ls hl hn hP hS)
theorem x_iload {j : Nat} {x : Int32} (d : decode cc pc = .ok (.iload j, 2)) (h : L[j]? = some (some (.int x))) (k : X Γ Ω own cc nL lev ret (pc + 2) L (.int x :: st) M) : X Γ Ω own cc nL lev ret pc L st M := by
  obtain ⟨p, l, e, R, s, m, args, below, meth, c, Q, cells, slots⟩ := Γ
  intro C H locs ls hl hn hP hS
  exact lv_iload C.1 C.2.1 d (hl.2.2 _ _ h) (k C H locs ls hl hn hP hS)
theorem x_lload_n {j : Fin 4} {x : Int64} (d : decode cc pc = .ok (.lload_n j, 1)) (h : L[(j : Nat)]? = some (some (.long x))) (k : X Γ Ω own cc nL lev ret (pc + 1) L (.long x :: st) M) : X Γ Ω own cc nL lev ret pc L st M := by
  obtain ⟨p, l, e, R, s, m, args, below, meth, c, Q, cells, slots⟩ := Γ
  intro C H locs ls hl hn hP hS
  exact lv_lload_n C.1 C.2.1 d rfl (hl.2.2 _ _ h) (k C H locs ls hl hn hP hS)
theorem x_lload {j : Nat} {x : Int64} (d : decode cc pc = .ok (.lload j, 2)) (h : L[j]? = some (some (.long x))) (k : X Γ Ω own cc nL lev ret (pc + 2) L (.long x :: st) M) : X Γ Ω own cc nL lev ret pc L st M := by
  obtain ⟨p, l, e, R, s, m, args, below, meth, c, Q, cells, slots⟩ := Γ
  intro C H locs ls hl hn hP hS
  exact lv_lload C.1 C.2.1 d (hl.2.2 _ _ h) (k C H locs ls hl hn hP hS)
theorem x_aload_n {j : Fin 4} {x : Nat} (d : decode cc pc = .ok (.aload_n j, 1)) (h : L[(j : Nat)]? = some (some (.ref x))) (k : X Γ Ω own cc nL lev ret (pc + 1) L (.ref x :: st) M) : X Γ Ω own cc nL lev ret pc L st M := by
  obtain ⟨p, l, e, R, s, m, args, below, meth, c, Q, cells, slots⟩ := Γ
  intro C H locs ls hl hn hP hS
  exact lv_aload_n C.1 C.2.1 d rfl (hl.2.2 _ _ h) (k C H locs ls hl hn hP hS)
theorem x_aload {j : Nat} {x : Nat} (d : decode cc pc = .ok (.aload j, 2)) (h : L[j]? = some (some (.ref x))) (k : X Γ Ω own cc nL lev ret (pc + 2) L (.ref x :: st) M) : X Γ Ω own cc nL lev ret pc L st M := by
  obtain ⟨p, l, e, R, s, m, args, below, meth, c, Q, cells, slots⟩ := Γ
  intro C H locs ls hl hn hP hS
  exact lv_aload C.1 C.2.1 d (hl.2.2 _ _ h) (k C H locs ls hl hn hP hS)
theorem x_istore_n {j : Fin 4} {x : Int32} (d : decode cc pc = .ok (.istore_n j, 1)) (k : X Γ Ω own cc nL lev ret (pc + 1) (lst1 L (j : Nat) (.int x)) st M) (hj : (j : Nat) < nL := by decide) : X Γ Ω own cc nL lev ret pc L (.int x :: st) M := by
  obtain ⟨p, l, e, R, s, m, args, below, meth, c, Q, cells, slots⟩ := Γ
  intro C H locs ls hl hn hP hS
  refine lv_istore_n C.1 C.2.1 d rfl (lhas_lv hl) hj rfl (fun ls' hv => ?_)
  refine k C H locs ls' ?_ (by rw [lst1_len]; exact hn) hP hS
  exact lst1_has hv (by omega) rfl
theorem x_istore {j : Nat} {x : Int32} (d : decode cc pc = .ok (.istore j, 2)) (k : X Γ Ω own cc nL lev ret (pc + 2) (lst1 L j (.int x)) st M) (hj : j < nL := by decide) : X Γ Ω own cc nL lev ret pc L (.int x :: st) M := by
  obtain ⟨p, l, e, R, s, m, args, below, meth, c, Q, cells, slots⟩ := Γ
  intro C H locs ls hl hn hP hS
  refine lv_istore C.1 C.2.1 d (lhas_lv hl) hj rfl (fun ls' hv => ?_)
  refine k C H locs ls' ?_ (by rw [lst1_len]; exact hn) hP hS
  exact lst1_has hv (by omega) rfl
theorem x_astore_n {j : Fin 4} {x : Nat} (d : decode cc pc = .ok (.astore_n j, 1)) (k : X Γ Ω own cc nL lev ret (pc + 1) (lst1 L (j : Nat) (.ref x)) st M) (hj : (j : Nat) < nL := by decide) : X Γ Ω own cc nL lev ret pc L (.ref x :: st) M := by
  obtain ⟨p, l, e, R, s, m, args, below, meth, c, Q, cells, slots⟩ := Γ
  intro C H locs ls hl hn hP hS
  refine lv_astore_n C.1 C.2.1 d rfl (lhas_lv hl) hj rfl (fun ls' hv => ?_)
  refine k C H locs ls' ?_ (by rw [lst1_len]; exact hn) hP hS
  exact lst1_has hv (by omega) rfl
theorem x_astore {j : Nat} {x : Nat} (d : decode cc pc = .ok (.astore j, 2)) (k : X Γ Ω own cc nL lev ret (pc + 2) (lst1 L j (.ref x)) st M) (hj : j < nL := by decide) : X Γ Ω own cc nL lev ret pc L (.ref x :: st) M := by
  obtain ⟨p, l, e, R, s, m, args, below, meth, c, Q, cells, slots⟩ := Γ
  intro C H locs ls hl hn hP hS
  refine lv_astore C.1 C.2.1 d (lhas_lv hl) hj rfl (fun ls' hv => ?_)
  refine k C H locs ls' ?_ (by rw [lst1_len]; exact hn) hP hS
  exact lst1_has hv (by omega) rfl
theorem x_lstore_n {j : Fin 4} {x : Int64} (d : decode cc pc = .ok (.lstore_n j, 1)) (k : X Γ Ω own cc nL lev ret (pc + 1) (lst2 L (j : Nat) (.long x)) st M) (hj : (j : Nat) + 1 < nL := by decide) : X Γ Ω own cc nL lev ret pc L (.long x :: st) M := by
  obtain ⟨p, l, e, R, s, m, args, below, meth, c, Q, cells, slots⟩ := Γ
  intro C H locs ls hl hn hP hS
  refine lv_lstore_n C.1 C.2.1 d rfl (lhas_lv hl) hj rfl (fun ls' hv => ?_)
  refine k C H locs ls' ?_ (by rw [lst2_len]; exact hn) hP hS
  exact lst2_has hv (by omega) rfl
theorem x_lstore {j : Nat} {x : Int64} (d : decode cc pc = .ok (.lstore j, 2)) (k : X Γ Ω own cc nL lev ret (pc + 2) (lst2 L j (.long x)) st M) (hj : j + 1 < nL := by decide) : X Γ Ω own cc nL lev ret pc L (.long x :: st) M := by
  obtain ⟨p, l, e, R, s, m, args, below, meth, c, Q, cells, slots⟩ := Γ
  intro C H locs ls hl hn hP hS
  refine lv_lstore C.1 C.2.1 d (lhas_lv hl) hj rfl (fun ls' hv => ?_)
  refine k C H locs ls' ?_ (by rw [lst2_len]; exact hn) hP hS
  exact lst2_has hv (by omega) rfl
theorem x_iinc {j : Nat} {n : Int} {x v : Int32} (d : decode cc pc = .ok (.iinc j n, 3)) (h : L[j]? = some (some (.int x))) (hv : x + Int32.ofInt n = v) (k : X Γ Ω own cc nL lev ret (pc + 3) (lst1 L j (.int v)) st M) (hj : j < nL := by decide) : X Γ Ω own cc nL lev ret pc L st M := by
  obtain ⟨p, l, e, R, s, m, args, below, meth, c, Q, cells, slots⟩ := Γ
  intro C H locs ls hl hn hP hS
  obtain ⟨kk, hk⟩ := List.getElem?_of_mem (lasc_mem L L.length j _ (by omega) h)
  refine lv_iinc C.1 C.2.1 d (lhas_lv hl) hk hv hj rfl (fun ls' hv => ?_)
  refine k C H locs ls' ?_ (by rw [lst1_len]; exact hn) hP hS
  exact lst1_has hv (by omega) rfl
theorem x_iadd {x y : Int32} (d : decode cc pc = .ok (.iadd, 1)) (k : X Γ Ω own cc nL lev ret (pc + 1) L (.int (x + y) :: st) M) : X Γ Ω own cc nL lev ret pc L (.int y :: .int x :: st) M := by
  obtain ⟨p, l, e, R, s, m, args, below, meth, c, Q, cells, slots⟩ := Γ
  intro C H locs ls hl hn hP hS
  exact lv_iadd C.1 C.2.1 d (k C H locs ls hl hn hP hS)
theorem x_isub {x y : Int32} (d : decode cc pc = .ok (.isub, 1)) (k : X Γ Ω own cc nL lev ret (pc + 1) L (.int (x - y) :: st) M) : X Γ Ω own cc nL lev ret pc L (.int y :: .int x :: st) M := by
  obtain ⟨p, l, e, R, s, m, args, below, meth, c, Q, cells, slots⟩ := Γ
  intro C H locs ls hl hn hP hS
  exact lv_isub C.1 C.2.1 d (k C H locs ls hl hn hP hS)
theorem x_imul {x y : Int32} (d : decode cc pc = .ok (.imul, 1)) (k : X Γ Ω own cc nL lev ret (pc + 1) L (.int (x * y) :: st) M) : X Γ Ω own cc nL lev ret pc L (.int y :: .int x :: st) M := by
  obtain ⟨p, l, e, R, s, m, args, below, meth, c, Q, cells, slots⟩ := Γ
  intro C H locs ls hl hn hP hS
  exact lv_imul C.1 C.2.1 d (k C H locs ls hl hn hP hS)
theorem x_iand {x y : Int32} (d : decode cc pc = .ok (.iand, 1)) (k : X Γ Ω own cc nL lev ret (pc + 1) L (.int (x &&& y) :: st) M) : X Γ Ω own cc nL lev ret pc L (.int y :: .int x :: st) M := by
  obtain ⟨p, l, e, R, s, m, args, below, meth, c, Q, cells, slots⟩ := Γ
  intro C H locs ls hl hn hP hS
  exact lv_iand C.1 C.2.1 d (k C H locs ls hl hn hP hS)
theorem x_ior {x y : Int32} (d : decode cc pc = .ok (.ior, 1)) (k : X Γ Ω own cc nL lev ret (pc + 1) L (.int (x ||| y) :: st) M) : X Γ Ω own cc nL lev ret pc L (.int y :: .int x :: st) M := by
  obtain ⟨p, l, e, R, s, m, args, below, meth, c, Q, cells, slots⟩ := Γ
  intro C H locs ls hl hn hP hS
  exact lv_ior C.1 C.2.1 d (k C H locs ls hl hn hP hS)
theorem x_ixor {x y : Int32} (d : decode cc pc = .ok (.ixor, 1)) (k : X Γ Ω own cc nL lev ret (pc + 1) L (.int (x ^^^ y) :: st) M) : X Γ Ω own cc nL lev ret pc L (.int y :: .int x :: st) M := by
  obtain ⟨p, l, e, R, s, m, args, below, meth, c, Q, cells, slots⟩ := Γ
  intro C H locs ls hl hn hP hS
  exact lv_ixor C.1 C.2.1 d (k C H locs ls hl hn hP hS)
theorem x_ishl {x y : Int32} (d : decode cc pc = .ok (.ishl, 1)) (k : X Γ Ω own cc nL lev ret (pc + 1) L (.int (x <<< (y &&& 31)) :: st) M) : X Γ Ω own cc nL lev ret pc L (.int y :: .int x :: st) M := by
  obtain ⟨p, l, e, R, s, m, args, below, meth, c, Q, cells, slots⟩ := Γ
  intro C H locs ls hl hn hP hS
  exact lv_ishl C.1 C.2.1 d (k C H locs ls hl hn hP hS)
theorem x_ishr {x y : Int32} (d : decode cc pc = .ok (.ishr, 1)) (k : X Γ Ω own cc nL lev ret (pc + 1) L (.int (x >>> (y &&& 31)) :: st) M) : X Γ Ω own cc nL lev ret pc L (.int y :: .int x :: st) M := by
  obtain ⟨p, l, e, R, s, m, args, below, meth, c, Q, cells, slots⟩ := Γ
  intro C H locs ls hl hn hP hS
  exact lv_ishr C.1 C.2.1 d (k C H locs ls hl hn hP hS)
theorem x_idiv {x y : Int32} (d : decode cc pc = .ok (.idiv, 1)) (h0 : ¬ y = 0) (k : X Γ Ω own cc nL lev ret (pc + 1) L (.int (x / y) :: st) M) : X Γ Ω own cc nL lev ret pc L (.int y :: .int x :: st) M := by
  obtain ⟨p, l, e, R, s, m, args, below, meth, c, Q, cells, slots⟩ := Γ
  intro C H locs ls hl hn hP hS
  exact lv_idiv C.1 C.2.1 d h0 (k C H locs ls hl hn hP hS)
theorem x_irem {x y : Int32} (d : decode cc pc = .ok (.irem, 1)) (h0 : ¬ y = 0) (k : X Γ Ω own cc nL lev ret (pc + 1) L (.int (x - x / y * y) :: st) M) : X Γ Ω own cc nL lev ret pc L (.int y :: .int x :: st) M := by
  obtain ⟨p, l, e, R, s, m, args, below, meth, c, Q, cells, slots⟩ := Γ
  intro C H locs ls hl hn hP hS
  exact lv_irem C.1 C.2.1 d h0 (k C H locs ls hl hn hP hS)
theorem x_ineg {x : Int32} (d : decode cc pc = .ok (.ineg, 1)) (k : X Γ Ω own cc nL lev ret (pc + 1) L (.int (-x) :: st) M) : X Γ Ω own cc nL lev ret pc L (.int x :: st) M := by
  obtain ⟨p, l, e, R, s, m, args, below, meth, c, Q, cells, slots⟩ := Γ
  intro C H locs ls hl hn hP hS
  exact lv_ineg C.1 C.2.1 d (k C H locs ls hl hn hP hS)
theorem x_iushr {x y : Int32} (d : decode cc pc = .ok (.iushr, 1)) (k : X Γ Ω own cc nL lev ret (pc + 1) L (.int ((x.toUInt32 >>> (y.toUInt32 &&& Int32.toUInt32 31)).toInt32) :: st) M) : X Γ Ω own cc nL lev ret pc L (.int y :: .int x :: st) M := by
  obtain ⟨p, l, e, R, s, m, args, below, meth, c, Q, cells, slots⟩ := Γ
  intro C H locs ls hl hn hP hS
  exact lv_iushr C.1 C.2.1 d rfl (k C H locs ls hl hn hP hS)
theorem x_ladd {x y : Int64} (d : decode cc pc = .ok (.ladd, 1)) (k : X Γ Ω own cc nL lev ret (pc + 1) L (.long (x + y) :: st) M) : X Γ Ω own cc nL lev ret pc L (.long y :: .long x :: st) M := by
  obtain ⟨p, l, e, R, s, m, args, below, meth, c, Q, cells, slots⟩ := Γ
  intro C H locs ls hl hn hP hS
  exact lv_ladd C.1 C.2.1 d (k C H locs ls hl hn hP hS)
theorem x_lsub {x y : Int64} (d : decode cc pc = .ok (.lsub, 1)) (k : X Γ Ω own cc nL lev ret (pc + 1) L (.long (x - y) :: st) M) : X Γ Ω own cc nL lev ret pc L (.long y :: .long x :: st) M := by
  obtain ⟨p, l, e, R, s, m, args, below, meth, c, Q, cells, slots⟩ := Γ
  intro C H locs ls hl hn hP hS
  exact lv_lsub C.1 C.2.1 d (k C H locs ls hl hn hP hS)
theorem x_lmul {x y : Int64} (d : decode cc pc = .ok (.lmul, 1)) (k : X Γ Ω own cc nL lev ret (pc + 1) L (.long (x * y) :: st) M) : X Γ Ω own cc nL lev ret pc L (.long y :: .long x :: st) M := by
  obtain ⟨p, l, e, R, s, m, args, below, meth, c, Q, cells, slots⟩ := Γ
  intro C H locs ls hl hn hP hS
  exact lv_lmul C.1 C.2.1 d (k C H locs ls hl hn hP hS)
theorem x_ldiv {x y : Int64} (d : decode cc pc = .ok (.ldiv, 1)) (h0 : ¬ y = 0) (k : X Γ Ω own cc nL lev ret (pc + 1) L (.long (x / y) :: st) M) : X Γ Ω own cc nL lev ret pc L (.long y :: .long x :: st) M := by
  obtain ⟨p, l, e, R, s, m, args, below, meth, c, Q, cells, slots⟩ := Γ
  intro C H locs ls hl hn hP hS
  exact lv_ldiv C.1 C.2.1 d h0 (k C H locs ls hl hn hP hS)
theorem x_lrem {x y : Int64} (d : decode cc pc = .ok (.lrem, 1)) (h0 : ¬ y = 0) (k : X Γ Ω own cc nL lev ret (pc + 1) L (.long (x - x / y * y) :: st) M) : X Γ Ω own cc nL lev ret pc L (.long y :: .long x :: st) M := by
  obtain ⟨p, l, e, R, s, m, args, below, meth, c, Q, cells, slots⟩ := Γ
  intro C H locs ls hl hn hP hS
  exact lv_lrem C.1 C.2.1 d h0 (k C H locs ls hl hn hP hS)
theorem x_lcmp {x y : Int64} (d : decode cc pc = .ok (.lcmp, 1)) (k : X Γ Ω own cc nL lev ret (pc + 1) L (.int (lg_cmp x y) :: st) M) : X Γ Ω own cc nL lev ret pc L (.long y :: .long x :: st) M := by
  obtain ⟨p, l, e, R, s, m, args, below, meth, c, Q, cells, slots⟩ := Γ
  intro C H locs ls hl hn hP hS
  exact W.lcmp C.1 C.2.1 d (k C H locs ls hl hn hP hS)
theorem x_i2l {x : Int32} (d : decode cc pc = .ok (.i2l, 1)) (k : X Γ Ω own cc nL lev ret (pc + 1) L (.long (x.toInt64) :: st) M) : X Γ Ω own cc nL lev ret pc L (.int x :: st) M := by
  obtain ⟨p, l, e, R, s, m, args, below, meth, c, Q, cells, slots⟩ := Γ
  intro C H locs ls hl hn hP hS
  exact lv_i2l C.1 C.2.1 d rfl (k C H locs ls hl hn hP hS)
theorem x_l2i {x : Int64} (d : decode cc pc = .ok (.l2i, 1)) (k : X Γ Ω own cc nL lev ret (pc + 1) L (.int (x.toInt32) :: st) M) : X Γ Ω own cc nL lev ret pc L (.long x :: st) M := by
  obtain ⟨p, l, e, R, s, m, args, below, meth, c, Q, cells, slots⟩ := Γ
  intro C H locs ls hl hn hP hS
  exact lv_l2i C.1 C.2.1 d rfl (k C H locs ls hl hn hP hS)
theorem x_i2b {x : Int32} (d : decode cc pc = .ok (.i2b, 1)) (k : X Γ Ω own cc nL lev ret (pc + 1) L (.int (x.toInt8.toInt32) :: st) M) : X Γ Ω own cc nL lev ret pc L (.int x :: st) M := by
  obtain ⟨p, l, e, R, s, m, args, below, meth, c, Q, cells, slots⟩ := Γ
  intro C H locs ls hl hn hP hS
  exact lv_i2b C.1 C.2.1 d rfl (k C H locs ls hl hn hP hS)
theorem x_i2s {x : Int32} (d : decode cc pc = .ok (.i2s, 1)) (k : X Γ Ω own cc nL lev ret (pc + 1) L (.int (x.toInt16.toInt32) :: st) M) : X Γ Ω own cc nL lev ret pc L (.int x :: st) M := by
  obtain ⟨p, l, e, R, s, m, args, below, meth, c, Q, cells, slots⟩ := Γ
  intro C H locs ls hl hn hP hS
  exact lv_i2s C.1 C.2.1 d rfl (k C H locs ls hl hn hP hS)
theorem x_dup {v : Value} (d : decode cc pc = .ok (.dup, 1)) (hv : v.category = 1) (k : X Γ Ω own cc nL lev ret (pc + 1) L (v :: v :: st) M) : X Γ Ω own cc nL lev ret pc L (v :: st) M := by
  obtain ⟨p, l, e, R, s, m, args, below, meth, c, Q, cells, slots⟩ := Γ
  intro C H locs ls hl hn hP hS
  exact lv_dup C.1 C.2.1 d hv (k C H locs ls hl hn hP hS)
theorem x_pop {v : Value} (d : decode cc pc = .ok (.pop, 1)) (hv : v.category = 1) (k : X Γ Ω own cc nL lev ret (pc + 1) L (st) M) : X Γ Ω own cc nL lev ret pc L (v :: st) M := by
  obtain ⟨p, l, e, R, s, m, args, below, meth, c, Q, cells, slots⟩ := Γ
  intro C H locs ls hl hn hP hS
  exact lv_pop C.1 C.2.1 d hv (k C H locs ls hl hn hP hS)
theorem x_dup2 {v w : Value} (d : decode cc pc = .ok (.dup2, 1)) (hv : v.category = 1) (hw : w.category = 1) (k : X Γ Ω own cc nL lev ret (pc + 1) L (v :: w :: v :: w :: st) M) : X Γ Ω own cc nL lev ret pc L (v :: w :: st) M := by
  obtain ⟨p, l, e, R, s, m, args, below, meth, c, Q, cells, slots⟩ := Γ
  intro C H locs ls hl hn hP hS
  exact lv_dup2_11 C.1 C.2.1 d hv hw (k C H locs ls hl hn hP hS)
theorem x_if_eq {x : Int32} {off : Int} (tgt : Nat) (d : decode cc pc = .ok (.ifCond .eq off, 3)) (kt : (x = 0) → X Γ Ω own cc nL lev ret tgt L st M) (kf : (¬ x = 0) → X Γ Ω own cc nL lev ret (pc + 3) L st M) (ht : (pc : Int) + off = (tgt : Int) := by decide) : X Γ Ω own cc nL lev ret pc L (.int x :: st) M := by
  obtain ⟨p, l, e, R, s, m, args, below, meth, c, Q, cells, slots⟩ := Γ
  intro C H locs ls hl hn hP hS
  exact lv_if_eq C.1 C.2.1 d ht (fun h => kt h C H locs ls hl hn hP hS) (fun h => kf h C H locs ls hl hn hP hS)
theorem x_icmp_eq {x y : Int32} {off : Int} (tgt : Nat) (d : decode cc pc = .ok (.if_icmp .eq off, 3)) (kt : (x = y) → X Γ Ω own cc nL lev ret tgt L st M) (kf : (¬ x = y) → X Γ Ω own cc nL lev ret (pc + 3) L st M) (ht : (pc : Int) + off = (tgt : Int) := by decide) : X Γ Ω own cc nL lev ret pc L (.int y :: .int x :: st) M := by
  obtain ⟨p, l, e, R, s, m, args, below, meth, c, Q, cells, slots⟩ := Γ
  intro C H locs ls hl hn hP hS
  exact lv_icmp_eq C.1 C.2.1 d ht (fun h => kt h C H locs ls hl hn hP hS) (fun h => kf h C H locs ls hl hn hP hS)
theorem x_if_ne {x : Int32} {off : Int} (tgt : Nat) (d : decode cc pc = .ok (.ifCond .ne off, 3)) (kt : (¬ x = 0) → X Γ Ω own cc nL lev ret tgt L st M) (kf : (x = 0) → X Γ Ω own cc nL lev ret (pc + 3) L st M) (ht : (pc : Int) + off = (tgt : Int) := by decide) : X Γ Ω own cc nL lev ret pc L (.int x :: st) M := by
  obtain ⟨p, l, e, R, s, m, args, below, meth, c, Q, cells, slots⟩ := Γ
  intro C H locs ls hl hn hP hS
  exact lv_if_ne C.1 C.2.1 d ht (fun h => kt h C H locs ls hl hn hP hS) (fun h => kf h C H locs ls hl hn hP hS)
theorem x_icmp_ne {x y : Int32} {off : Int} (tgt : Nat) (d : decode cc pc = .ok (.if_icmp .ne off, 3)) (kt : (¬ x = y) → X Γ Ω own cc nL lev ret tgt L st M) (kf : (x = y) → X Γ Ω own cc nL lev ret (pc + 3) L st M) (ht : (pc : Int) + off = (tgt : Int) := by decide) : X Γ Ω own cc nL lev ret pc L (.int y :: .int x :: st) M := by
  obtain ⟨p, l, e, R, s, m, args, below, meth, c, Q, cells, slots⟩ := Γ
  intro C H locs ls hl hn hP hS
  exact lv_icmp_ne C.1 C.2.1 d ht (fun h => kt h C H locs ls hl hn hP hS) (fun h => kf h C H locs ls hl hn hP hS)
theorem x_if_lt {x : Int32} {off : Int} (tgt : Nat) (d : decode cc pc = .ok (.ifCond .lt off, 3)) (kt : (x.toInt < 0) → X Γ Ω own cc nL lev ret tgt L st M) (kf : (0 ≤ x.toInt) → X Γ Ω own cc nL lev ret (pc + 3) L st M) (ht : (pc : Int) + off = (tgt : Int) := by decide) : X Γ Ω own cc nL lev ret pc L (.int x :: st) M := by
  obtain ⟨p, l, e, R, s, m, args, below, meth, c, Q, cells, slots⟩ := Γ
  intro C H locs ls hl hn hP hS
  exact lv_if_lt C.1 C.2.1 d ht (fun h => kt (by simpa [Int32.lt_iff_toInt_lt, Int32.le_iff_toInt_le] using h) C H locs ls hl hn hP hS) (fun h => kf (by simpa [Int32.lt_iff_toInt_lt, Int32.le_iff_toInt_le, Int.not_lt, Int.not_le] using h) C H locs ls hl hn hP hS)
theorem x_icmp_lt {x y : Int32} {off : Int} (tgt : Nat) (d : decode cc pc = .ok (.if_icmp .lt off, 3)) (kt : (x.toInt < y.toInt) → X Γ Ω own cc nL lev ret tgt L st M) (kf : (y.toInt ≤ x.toInt) → X Γ Ω own cc nL lev ret (pc + 3) L st M) (ht : (pc : Int) + off = (tgt : Int) := by decide) : X Γ Ω own cc nL lev ret pc L (.int y :: .int x :: st) M := by
  obtain ⟨p, l, e, R, s, m, args, below, meth, c, Q, cells, slots⟩ := Γ
  intro C H locs ls hl hn hP hS
  exact lv_icmp_lt C.1 C.2.1 d ht (fun h => kt (by simpa [Int32.lt_iff_toInt_lt, Int32.le_iff_toInt_le] using h) C H locs ls hl hn hP hS) (fun h => kf (by simpa [Int32.lt_iff_toInt_lt, Int32.le_iff_toInt_le, Int.not_lt, Int.not_le] using h) C H locs ls hl hn hP hS)
theorem x_if_ge {x : Int32} {off : Int} (tgt : Nat) (d : decode cc pc = .ok (.ifCond .ge off, 3)) (kt : (0 ≤ x.toInt) → X Γ Ω own cc nL lev ret tgt L st M) (kf : (x.toInt < 0) → X Γ Ω own cc nL lev ret (pc + 3) L st M) (ht : (pc : Int) + off = (tgt : Int) := by decide) : X Γ Ω own cc nL lev ret pc L (.int x :: st) M := by
  obtain ⟨p, l, e, R, s, m, args, below, meth, c, Q, cells, slots⟩ := Γ
  intro C H locs ls hl hn hP hS
  exact lv_if_ge C.1 C.2.1 d ht (fun h => kt (by simpa [Int32.lt_iff_toInt_lt, Int32.le_iff_toInt_le] using h) C H locs ls hl hn hP hS) (fun h => kf (by simpa [Int32.lt_iff_toInt_lt, Int32.le_iff_toInt_le, Int.not_lt, Int.not_le] using h) C H locs ls hl hn hP hS)
theorem x_icmp_ge {x y : Int32} {off : Int} (tgt : Nat) (d : decode cc pc = .ok (.if_icmp .ge off, 3)) (kt : (y.toInt ≤ x.toInt) → X Γ Ω own cc nL lev ret tgt L st M) (kf : (x.toInt < y.toInt) → X Γ Ω own cc nL lev ret (pc + 3) L st M) (ht : (pc : Int) + off = (tgt : Int) := by decide) : X Γ Ω own cc nL lev ret pc L (.int y :: .int x :: st) M := by
  obtain ⟨p, l, e, R, s, m, args, below, meth, c, Q, cells, slots⟩ := Γ
  intro C H locs ls hl hn hP hS
  exact lv_icmp_ge C.1 C.2.1 d ht (fun h => kt (by simpa [Int32.lt_iff_toInt_lt, Int32.le_iff_toInt_le] using h) C H locs ls hl hn hP hS) (fun h => kf (by simpa [Int32.lt_iff_toInt_lt, Int32.le_iff_toInt_le, Int.not_lt, Int.not_le] using h) C H locs ls hl hn hP hS)
theorem x_if_gt {x : Int32} {off : Int} (tgt : Nat) (d : decode cc pc = .ok (.ifCond .gt off, 3)) (kt : (0 < x.toInt) → X Γ Ω own cc nL lev ret tgt L st M) (kf : (x.toInt ≤ 0) → X Γ Ω own cc nL lev ret (pc + 3) L st M) (ht : (pc : Int) + off = (tgt : Int) := by decide) : X Γ Ω own cc nL lev ret pc L (.int x :: st) M := by
  obtain ⟨p, l, e, R, s, m, args, below, meth, c, Q, cells, slots⟩ := Γ
  intro C H locs ls hl hn hP hS
  exact lv_if_gt C.1 C.2.1 d ht (fun h => kt (by simpa [Int32.lt_iff_toInt_lt, Int32.le_iff_toInt_le] using h) C H locs ls hl hn hP hS) (fun h => kf (by simpa [Int32.lt_iff_toInt_lt, Int32.le_iff_toInt_le, Int.not_lt, Int.not_le] using h) C H locs ls hl hn hP hS)
theorem x_icmp_gt {x y : Int32} {off : Int} (tgt : Nat) (d : decode cc pc = .ok (.if_icmp .gt off, 3)) (kt : (y.toInt < x.toInt) → X Γ Ω own cc nL lev ret tgt L st M) (kf : (x.toInt ≤ y.toInt) → X Γ Ω own cc nL lev ret (pc + 3) L st M) (ht : (pc : Int) + off = (tgt : Int) := by decide) : X Γ Ω own cc nL lev ret pc L (.int y :: .int x :: st) M := by
  obtain ⟨p, l, e, R, s, m, args, below, meth, c, Q, cells, slots⟩ := Γ
  intro C H locs ls hl hn hP hS
  exact lv_icmp_gt C.1 C.2.1 d ht (fun h => kt (by simpa [Int32.lt_iff_toInt_lt, Int32.le_iff_toInt_le] using h) C H locs ls hl hn hP hS) (fun h => kf (by simpa [Int32.lt_iff_toInt_lt, Int32.le_iff_toInt_le, Int.not_lt, Int.not_le] using h) C H locs ls hl hn hP hS)
theorem x_if_le {x : Int32} {off : Int} (tgt : Nat) (d : decode cc pc = .ok (.ifCond .le off, 3)) (kt : (x.toInt ≤ 0) → X Γ Ω own cc nL lev ret tgt L st M) (kf : (0 < x.toInt) → X Γ Ω own cc nL lev ret (pc + 3) L st M) (ht : (pc : Int) + off = (tgt : Int) := by decide) : X Γ Ω own cc nL lev ret pc L (.int x :: st) M := by
  obtain ⟨p, l, e, R, s, m, args, below, meth, c, Q, cells, slots⟩ := Γ
  intro C H locs ls hl hn hP hS
  exact lv_if_le C.1 C.2.1 d ht (fun h => kt (by simpa [Int32.lt_iff_toInt_lt, Int32.le_iff_toInt_le] using h) C H locs ls hl hn hP hS) (fun h => kf (by simpa [Int32.lt_iff_toInt_lt, Int32.le_iff_toInt_le, Int.not_lt, Int.not_le] using h) C H locs ls hl hn hP hS)
theorem x_icmp_le {x y : Int32} {off : Int} (tgt : Nat) (d : decode cc pc = .ok (.if_icmp .le off, 3)) (kt : (x.toInt ≤ y.toInt) → X Γ Ω own cc nL lev ret tgt L st M) (kf : (y.toInt < x.toInt) → X Γ Ω own cc nL lev ret (pc + 3) L st M) (ht : (pc : Int) + off = (tgt : Int) := by decide) : X Γ Ω own cc nL lev ret pc L (.int y :: .int x :: st) M := by
  obtain ⟨p, l, e, R, s, m, args, below, meth, c, Q, cells, slots⟩ := Γ
  intro C H locs ls hl hn hP hS
  exact lv_icmp_le C.1 C.2.1 d ht (fun h => kt (by simpa [Int32.lt_iff_toInt_lt, Int32.le_iff_toInt_le] using h) C H locs ls hl hn hP hS) (fun h => kf (by simpa [Int32.lt_iff_toInt_lt, Int32.le_iff_toInt_le, Int.not_lt, Int.not_le] using h) C H locs ls hl hn hP hS)
theorem x_goto {off : Int} (tgt : Nat) (d : decode cc pc = .ok (.goto off, 3)) (k : X Γ Ω own cc nL lev ret tgt L st M) (ht : (pc : Int) + off = (tgt : Int) := by decide) : X Γ Ω own cc nL lev ret pc L st M := by
  obtain ⟨p, l, e, R, s, m, args, below, meth, c, Q, cells, slots⟩ := Γ
  intro C H locs ls hl hn hP hS
  exact lv_goto C.1 C.2.1 d ht (k C H locs ls hl hn hP hS)
theorem x_ifnull {x : Nat} {off : Int} (d : decode cc pc = .ok (.ifnull off, 3)) (k : X Γ Ω own cc nL lev ret (pc + 3) L st M) : X Γ Ω own cc nL lev ret pc L (.ref x :: st) M := by
  obtain ⟨p, l, e, R, s, m, args, below, meth, c, Q, cells, slots⟩ := Γ
  intro C H locs ls hl hn hP hS
  exact lv_ifnull C.1 C.2.1 d (k C H locs ls hl hn hP hS)
theorem x_ifnullN {off : Int} (tgt : Nat) (d : decode cc pc = .ok (.ifnull off, 3)) (k : X Γ Ω own cc nL lev ret tgt L st M) (ht : (pc : Int) + off = (tgt : Int) := by decide) : X Γ Ω own cc nL lev ret pc L (.null :: st) M := by
  obtain ⟨p, l, e, R, s, m, args, below, meth, c, Q, cells, slots⟩ := Γ
  intro C H locs ls hl hn hP hS
  exact lv_ifnullN C.1 C.2.1 d ht (k C H locs ls hl hn hP hS)
theorem x_ifnonnull {x : Nat} {off : Int} (tgt : Nat) (d : decode cc pc = .ok (.ifnonnull off, 3)) (k : X Γ Ω own cc nL lev ret tgt L st M) (ht : (pc : Int) + off = (tgt : Int) := by decide) : X Γ Ω own cc nL lev ret pc L (.ref x :: st) M := by
  obtain ⟨p, l, e, R, s, m, args, below, meth, c, Q, cells, slots⟩ := Γ
  intro C H locs ls hl hn hP hS
  exact lv_ifnonnull C.1 C.2.1 d ht (k C H locs ls hl hn hP hS)
theorem x_tableIn {dflt lo hi : Int} {offs : Array Int} {len : Nat} {x : Int32} {off : Int} (tgt : Nat) (d : decode cc pc = .ok (.tableswitch dflt lo hi offs, len)) (h1 : ¬ x.toInt < lo) (h2 : ¬ hi < x.toInt) (ho : offs[(x.toInt - lo).toNat]? = some off) (k : X Γ Ω own cc nL lev ret tgt L st M) (ht : (pc : Int) + off = (tgt : Int) := by decide) : X Γ Ω own cc nL lev ret pc L (.int x :: st) M := by
  obtain ⟨p, l, e, R, s, m, args, below, meth, c, Q, cells, slots⟩ := Γ
  intro C H locs ls hl hn hP hS
  exact lv_tableIn C.1 C.2.1 d h1 h2 ho ht (k C H locs ls hl hn hP hS)
theorem x_tableOut {dflt lo hi : Int} {offs : Array Int} {len : Nat} {x : Int32} (tgt : Nat) (d : decode cc pc = .ok (.tableswitch dflt lo hi offs, len)) (h : x.toInt < lo ∨ hi < x.toInt) (k : X Γ Ω own cc nL lev ret tgt L st M) (ht : (pc : Int) + dflt = (tgt : Int) := by decide) : X Γ Ω own cc nL lev ret pc L (.int x :: st) M := by
  obtain ⟨p, l, e, R, s, m, args, below, meth, c, Q, cells, slots⟩ := Γ
  intro C H locs ls hl hn hP hS
  exact lv_tableOut C.1 C.2.1 d h ht (k C H locs ls hl hn hP hS)
theorem x_lookup {dflt : Int} {ps : Array (Int × Int)} {len : Nat} {x : Int32} {off : Int} (tgt : Nat) (d : decode cc pc = .ok (.lookupswitch dflt ps, len)) (hp : (ps.toList.zip (ps.toList.drop 1)).all (fun (a, next) => a.1 < next.1) = true) (ho : Op.lookupswitch.offset ps.toList dflt x.toInt = off) (k : X Γ Ω own cc nL lev ret tgt L st M) (ht : (pc : Int) + off = (tgt : Int) := by decide) : X Γ Ω own cc nL lev ret pc L (.int x :: st) M := by
  obtain ⟨p, l, e, R, s, m, args, below, meth, c, Q, cells, slots⟩ := Γ
  intro C H locs ls hl hn hP hS
  exact lv_lookup C.1 C.2.1 d hp ho ht (k C H locs ls hl hn hP hS)
/-- fewer locals are known -/
def lle : List (Option Value) → List (Option Value) → Prop
  | [], [] => True
  | a :: l, b :: r => (a = none ∨ a = b) ∧ lle l r
  | _, _ => False
theorem lle_len : ∀ (l r : List (Option Value)), lle l r → l.length = r.length
  | [], [], _ => rfl
  | _ :: l, _ :: r, h => by simp [lle_len l r h.2]
  | [], _ :: _, h => h.elim
  | _ :: _, [], h => h.elim
theorem lle_get : ∀ (l r : List (Option Value)), lle l r → ∀ (i : Nat) (v : Value), l[i]? = some (some v) → r[i]? = some (some v)
  | [], [], _, _, _, e => by simp at e
  | a :: l, b :: r, h, 0, v, e => by
    rcases h.1 with z | z
    · subst z; simp at e
    · subst z; exact e
  | _ :: l, _ :: r, h, i + 1, v, e => by
    have := lle_get l r h.2 i v (by simpa using e)
    simpa using this
  | [], _ :: _, h, _, _, _ => h.elim
  | _ :: _, [], h, _, _, _ => h.elim
theorem x_weak {L' : List (Option Value)} (h : lle L' L) (k : X Γ Ω own cc nL lev ret pc L' st M) : X Γ Ω own cc nL lev ret pc L st M := by
  obtain ⟨p, l, e, R, s, m, args, below, meth, c, Q, cells, slots⟩ := Γ
  intro C H locs ls hl hn hP hS
  exact k C H locs ls ⟨hl.1, hl.2.1, fun i v e => hl.2.2 i v (lle_get L' L h i v e)⟩ ((lle_len _ _ h).trans hn) hP hS
end
