/-! the heap's rows over the one world; contracts and calls -/
theorem tbw_in {w : Cond} (h : w ∈ lw_tbl) (g : goodWord w = true) : w ∈ tbw := List.mem_filter.mpr ⟨h, g⟩
theorem tbw_good : ∀ w ∈ tbw, goodWord w = true := fun w h => (List.mem_filter.mp h).2
theorem tbw_pay {args : Array Value} {s : State} (hts : ∀ w ∈ tbw, w.before args s = true) : ∀ w ∈ tbw, ∀ (a' : Array Value) (U : State), s.WarmedH U.vm → w.before a' U = true := fun w hw _ _ hW => word_at hW (good_of_word (tbw_good w hw)) (hts w hw)
/-- an int of the memory changes -/
def up1 (M : Mem) (c k : Nat) (v : Int32) : Mem := (fun d => if d = c then (fun j => if j = k then v else M.1 c j) else M.1 d, M.2)
/-- a row of the memory changes -/
def upR (M : Mem) (c : Nat) (f : Nat → Int32) : Mem := (fun d => if d = c then f else M.1 d, M.2)
theorem up1_row (M : Mem) (c k : Nat) (v : Int32) : (up1 M c k v).1 c = fun j => if j = k then v else M.1 c j := by simp [up1]
theorem up1_ne (M : Mem) {c d : Nat} (k : Nat) (v : Int32) (h : d ≠ c) : (up1 M c k v).1 d = M.1 d := by simp [up1, h]
theorem upR_row (M : Mem) (c : Nat) (f : Nat → Int32) : (upR M c f).1 c = f := by simp [upR]
theorem upR_ne (M : Mem) {c d : Nat} (f : Nat → Int32) (h : d ≠ c) : (upR M c f).1 d = M.1 d := by simp [upR, h]
theorem up1_R (M : Mem) (c k : Nat) (v : Int32) : up1 M c k v = upR M c (fun j => if j = k then v else M.1 c j) := rfl
theorem cel_12 {Ω : Om} {M : Mem} {c : Nat} (h : kd c = 12) : cel Ω M c = .inl (Ω.2.1 0, ln c, .inl (M.1 c)) := by simp [cel, h]
theorem cel_13 {Ω : Om} {M : Mem} {c : Nat} (h : kd c = 13) : cel Ω M c = .inl (Ω.2.1 1, ln c, .inl (M.1 c)) := by simp [cel, h]
theorem cel_14 {Ω : Om} {M : Mem} {c : Nat} (h : kd c = 14) : cel Ω M c = .inl (Ω.2.1 2, ln c, .inr (.inr (.inr (.inr fun i => (rf c i).map Ω.2.2)))) := by simp [cel, h]
theorem cel_15 {Ω : Om} {M : Mem} {c : Nat} (h : kd c = 15) : cel Ω M c = .inl (Ω.2.1 3, ln c, .inr (.inr (.inr (.inr fun i => (rf c i).map Ω.2.2)))) := by simp [cel, h]
theorem cel_16 {Ω : Om} {M : Mem} {c : Nat} (h : kd c = 16) : cel Ω M c = .inl (Ω.2.1 4, ln c, .inr (.inr (.inr (.inr fun i => (rf c i).map Ω.2.2)))) := by simp [cel, h]
theorem cel_ob {Ω : Om} {M : Mem} {c ci : Nat} (h : kd c = ci) (hc : ci < 12) : cel Ω M c = .inr (ci, flds Ω.2.2 (M.1 c) M.2 c ci) := by
  subst h
  unfold cel
  rw [if_neg (by omega), if_neg (by omega), if_neg (by omega), if_neg (by omega), if_neg (by omega)]
theorem cel_dep {Ω : Om} {M M' : Mem} {d : Nat} (h : M'.1 d = M.1 d) (h2 : M'.2 = M.2) : cel Ω M' d = cel Ω M d := by simp only [cel, h, h2]
theorem cel_dep5 {Ω : Om} {M M' : Mem} {d : Nat} (h : M'.1 d = M.1 d) (h5 : kd d ≠ 5) : cel Ω M' d = cel Ω M d := by
  unfold cel
  rw [h]
  split
  · rfl
  split
  · rfl
  split
  · rfl
  split
  · rfl
  split
  · rfl
  generalize hk : kd d = k at *
  congr 2
  unfold flds
  split <;> first | rfl | exact absurd rfl h5
section
variable {Γ : Gx} {Ω : Om} {own : String} {cc : ByteArray} {nL lev : Nat} {ret : Option FieldType} {pc : Nat} {L : List (Option Value)} {st : List Value} {M : Mem}
/-- getfield: any field of an object of the world -/
theorem x_get {c ci k idx N : Nat} {C : String} {T : u_T} {v : Value} (d : decode cc pc = .ok (.getfield idx, 3)) (hin : ∀ w ∈ u_ws C T N, w ∈ tbw) (hcl : vwCl[ci]? = some (C, T, N)) (hci : ci < 12) (hk : k < N) (hlk : Cond.fieldLink own idx (T k).1 (T k).2.1 (T k).2.2.1 ∈ tbw) (hc : c < NC) (hkd : kd c = ci) (hv : (flds Ω.2.2 (M.1 c) M.2 c ci)[k]? = some v) (kk : X Γ Ω own cc nL lev ret (pc + 3) L (v :: st) M) : X Γ Ω own cc nL lev ret pc L (.ref (Ω.2.2 c) :: st) M := by
  obtain ⟨p, l, e, R, s, m, args, below, meth, cod, Q, cells, slots⟩ := Γ
  intro C0 H locs ls hl hn hP hS
  exact va_get (ref := (T k).1) C0.1 C0.2.1 C0.2.2.2.2.1 hin C0.2.2.2.1 C0.2.2.2.2.2.1.1 hP c (by rw [wsO_at Ω M hc, cel_ob hkd hci]) hcl k hk (C0.2.2.2.2.1 _ hlk) (fun _ h => h) hv d (kk C0 H locs ls hl hn hP hS)
/-- putfield: any field of an object of the world; the new memory M' -/
theorem x_put {c ci k idx N : Nat} {C : String} {T : u_T} {ty0 : Nat → FieldType} {ty : FieldType} {v : Value} (M' : Mem) (d : decode cc pc = .ok (.putfield idx, 3)) (hin : ∀ w ∈ u_ws C T N, w ∈ tbw) (hty : ∀ k, k < N → parseFieldDescriptor (T k).2.2.1 = some (ty0 k)) (hnm : ∀ a, a < N → ∀ b, b < N → a ≠ b → (T a).2.1 ≠ (T b).2.1) (hcl : vwCl[ci]? = some (C, T, N)) (hci : ci < 12) (hk : k < N) (hlk : Cond.fieldLink own idx (T k).1 (T k).2.1 (T k).2.2.1 ∈ tbw) (hfin : (T k).2.2.2 = false) (hd : parseFieldDescriptor (T k).2.2.1 = some ty) (hnar : narrow ty v = v) (hfit : fits ty v = true)
    (hc : c < NC) (hkd : kd c = ci) (hlen : k < (flds Ω.2.2 (M.1 c) M.2 c ci).length) (hnew : (flds Ω.2.2 (M.1 c) M.2 c ci).set k v = flds Ω.2.2 (M'.1 c) M'.2 c ci) (hold : ∀ d, d < NC → d ≠ c → cel Ω M' d = cel Ω M d) (kk : X Γ Ω own cc nL lev ret (pc + 3) L st M') : X Γ Ω own cc nL lev ret pc L (v :: .ref (Ω.2.2 c) :: st) M := by
  obtain ⟨p, l, e, R, s, m, args, below, meth, cod, Q, cells, slots⟩ := Γ
  intro C0 H locs ls hl hn hP hS
  refine va_put (ref := (T k).1) (A := inW Ω) (H0 := s.heap) C0.1 C0.2.1 C0.2.2.2.2.1 hin ty0 hty hnm C0.2.2.2.1 C0.2.2.2.2.2.1.1 hP (va_D_wsO C0.2.2.2.2.2.2.1 M) hS c (by rw [wsO_at Ω M hc, cel_ob hkd hci]) hcl k hk (C0.2.2.2.2.1 _ hlk) (fun _ h => h) hfin hd hnar hfit hlen d ?_
  intro H1 locs1 hP1 hD1 hS1
  rw [hnew, ← cel_ob (M := M') hkd hci, wsO_set Ω M M' hc hold] at hP1
  exact kk C0 H1 locs1 ls hl hn hP1 hS1
/-- iaload -/
theorem x_iaload {c : Nat} {i : Int32} (d : decode cc pc = .ok (.iaload, 1)) (hc : c < NC) (hkd : kd c = 12) (hi : vp_in i (ln c)) (kk : X Γ Ω own cc nL lev ret (pc + 1) L (.int (M.1 c i.toNatClampNeg) :: st) M) : X Γ Ω own cc nL lev ret pc L (.int i :: .ref (Ω.2.2 c) :: st) M := by
  obtain ⟨p, l, e, R, s, m, args, below, meth, cod, Q, cells, slots⟩ := Γ
  intro C0 H locs ls hl hn hP hS
  exact va_iald C0.1 C0.2.1 C0.2.2.2.2.2.1.1 hP c 0 (by rw [wsO_at Ω M hc, cel_12 hkd]) rfl hi d (kk C0 H locs ls hl hn hP hS)
theorem x_baload {c : Nat} {i : Int32} (d : decode cc pc = .ok (.baload, 1)) (hc : c < NC) (hkd : kd c = 13) (hi : vp_in i (ln c)) (kk : X Γ Ω own cc nL lev ret (pc + 1) L (.int (M.1 c i.toNatClampNeg) :: st) M) : X Γ Ω own cc nL lev ret pc L (.int i :: .ref (Ω.2.2 c) :: st) M := by
  obtain ⟨p, l, e, R, s, m, args, below, meth, cod, Q, cells, slots⟩ := Γ
  intro C0 H locs ls hl hn hP hS
  exact va_zald C0.1 C0.2.1 C0.2.2.2.2.2.1.1 hP c 1 (by rw [wsO_at Ω M hc, cel_13 hkd]) rfl hi d (kk C0 H locs ls hl hn hP hS)
theorem x_iastore {c : Nat} {i x : Int32} (d : decode cc pc = .ok (.iastore, 1)) (hc : c < NC) (hkd : kd c = 12) (hi : vp_in i (ln c)) (kk : X Γ Ω own cc nL lev ret (pc + 1) L st (up1 M c i.toNatClampNeg x)) : X Γ Ω own cc nL lev ret pc L (.int x :: .int i :: .ref (Ω.2.2 c) :: st) M := by
  obtain ⟨p, l, e, R, s, m, args, below, meth, cod, Q, cells, slots⟩ := Γ
  intro C0 H locs ls hl hn hP hS
  refine va_iast (A := inW Ω) (H0 := s.heap) C0.1 C0.2.1 C0.2.2.2.2.2.1.1 hP (va_D_wsO C0.2.2.2.2.2.2.1 M) hS c 0 (by rw [wsO_at Ω M hc, cel_12 hkd]) rfl hi d ?_
  intro H1 locs1 hP1 hD1 hS1
  have e : (Sum.inl (Ω.2.1 0, ln c, .inl (upd (M.1 c) i.toNatClampNeg x)) : va_E) = cel Ω (up1 M c i.toNatClampNeg x) c := by
    rw [cel_12 hkd, up1_row]; rfl
  rw [e, wsO_set Ω M _ hc (fun d _ h => cel_dep (up1_ne M _ _ h) rfl)] at hP1
  exact kk C0 H1 locs1 ls hl hn hP1 hS1
theorem x_aaload {c j : Nat} {i : Int32} (d : decode cc pc = .ok (.aaload, 1)) (hc : c < NC) (hkd : kd c = 14 ∨ kd c = 15 ∨ kd c = 16) (hi : vp_in i (ln c)) (hr : rf c i.toNatClampNeg = some j) (kk : X Γ Ω own cc nL lev ret (pc + 1) L (.ref (Ω.2.2 j) :: st) M) : X Γ Ω own cc nL lev ret pc L (.int i :: .ref (Ω.2.2 c) :: st) M := by
  obtain ⟨p, l, e, R, s, m, args, below, meth, cod, Q, cells, slots⟩ := Γ
  intro C0 H locs ls hl hn hP hS
  have k1 := kk C0 H locs ls hl hn hP hS
  rcases hkd with h | h | h
  · exact va_aldq C0.1 C0.2.1 C0.2.2.2.2.2.1.1 hP c 2 (by rw [wsO_at Ω M hc, cel_14 h]) rfl hi d (by rw [hr]; exact k1)
  · exact va_aldq C0.1 C0.2.1 C0.2.2.2.2.2.1.1 hP c 3 (by rw [wsO_at Ω M hc, cel_15 h]) rfl hi d (by rw [hr]; exact k1)
  · exact va_aldq C0.1 C0.2.1 C0.2.2.2.2.2.1.1 hP c 4 (by rw [wsO_at Ω M hc, cel_16 h]) rfl hi d (by rw [hr]; exact k1)
theorem x_aaloadN {c : Nat} {i : Int32} (d : decode cc pc = .ok (.aaload, 1)) (hc : c < NC) (hkd : kd c = 14) (hi : vp_in i (ln c)) (hr : rf c i.toNatClampNeg = none) (kk : X Γ Ω own cc nL lev ret (pc + 1) L (.null :: st) M) : X Γ Ω own cc nL lev ret pc L (.int i :: .ref (Ω.2.2 c) :: st) M := by
  obtain ⟨p, l, e, R, s, m, args, below, meth, cod, Q, cells, slots⟩ := Γ
  intro C0 H locs ls hl hn hP hS
  exact va_aldq C0.1 C0.2.1 C0.2.2.2.2.2.1.1 hP c 2 (by rw [wsO_at Ω M hc, cel_14 hkd]) rfl hi d (by rw [hr]; exact kk C0 H locs ls hl hn hP hS)
/-! contracts -/
def Qx (Ω : Om) (post : Option Value → Mem → Prop) : Array Value → State → Outcome → State → Prop := fun _ st oc t => (∃ (v : Option Value) (M' : Mem), oc = .returned v ∧ post v M' ∧ va_P Ω.1 vwCl (wsO Ω M') t.heap) ∧ va_F (inW Ω) st t
def Px (Ω : Om) (M : Mem) (U : State) : Prop := va_P Ω.1 vwCl (wsO Ω M) U.heap ∧ Kst Ω U ∧ adj Ω
abbrev rmL (lev : Nat) : Room := { frames := lev, cells := 0, slots := 0, locals := 40 * lev }
def Ct (Ω : Om) (l : Launch) (y : MethodName) (cb : ByteArray) (mL lev : Nat) (rt : Option FieldType) (av : List Value) (M : Mem) (post : Option Value → Mem → Prop) : Prop :=
  Met l y (Cond.code y cb mL rt :: tbw) (rmL lev) (va_Pc av (Px Ω M)) (Qx Ω post) 0 0 (inW Ω)
theorem Kst.warm {s U : State} (h : Kst Ω s) (hW : s.WarmedH U.vm) : Kst Ω U :=
  ⟨va_K.moved hW.alike h.1, fun q hq => va_Nw.warmC hW (h.2.1 q hq), fun q hq => va_Nc.moved hW.alike (h.2.2.1 q hq), va_Nw.warmM hW h.2.2.2.1, va_Nw.warmD hW h.2.2.2.2⟩
theorem Px_blind {av : List Value} : FrameBlind (va_Pc av (Px Ω M)) := by
  intro a U g mk h
  obtain ⟨h1, h2, h3, h4⟩ := h
  exact ⟨h1, h2, ⟨va_K.moved (u := U) (U := U.calling g mk a) (Vm.Alike.refl U.vm) h3.1, fun q hq => va_Nw.same rfl rfl (h3.2.1 q hq), fun q hq => va_Nc.moved (Vm.Alike.refl U.vm) (h3.2.2.1 q hq), va_Nw.same rfl rfl h3.2.2.2.1, va_Nw.same rfl rfl h3.2.2.2.2⟩, h4⟩
def mkG (p : Program) (l : Launch) (e : Env) (R : Room) (s : State) (m : MethodId) (args : Array Value) (below : List Frame) (meth : Method) (c : Code) (Ω : Om) (post : Option Value → Mem → Prop) : Gx := (p, l, e, R, s, m, args, below, meth, c, MQ below (Qx Ω post) args s 0 0 (inW Ω), 0, 0)
/-- the locals with which a method begins -/
def entL : List Value → List (Option Value)
  | [] => []
  | v :: vs => if v.category = 2 then some v :: none :: entL vs else some v :: entL vs
def entN (vs : List Value) (n : Nat) : List (Option Value) := entL vs ++ List.replicate (n - (entL vs).length) none
theorem entL_len : ∀ vs : List Value, (entL vs).length = (lg_sl vs).length
  | [] => rfl
  | v :: vs => by
    have := entL_len vs
    by_cases h : v.category = 2
    · simp [entL, lg_sl, h] at *; omega
    · simp [entL, lg_sl, h] at *; omega
theorem entL_get : ∀ (vs : List Value) (o i : Nat) (v : Value), (entL vs)[i]? = some (some v) → (o + i, v) ∈ lv_args o vs
  | [], _, _, _, h => by simp [entL] at h
  | w :: vs, o, i, v, h => by
    by_cases hc : w.category = 2
    · simp only [entL, hc, if_true] at h
      simp only [lv_args, hc, if_true]
      match i, h with
      | 0, h => simp at h; subst h; exact List.mem_cons_self
      | 1, h => simp at h
      | i + 2, h =>
        have := entL_get vs (o + 2) i v (by simpa using h)
        exact List.mem_cons_of_mem _ (by rw [show o + (i + 2) = o + 2 + i by omega]; exact this)
    · simp only [entL, hc, if_false] at h
      simp only [lv_args, hc, if_false]
      match i, h with
      | 0, h => simp at h; subst h; exact List.mem_cons_self
      | i + 1, h =>
        have := entL_get vs (o + 1) i v (by simpa using h)
        exact List.mem_cons_of_mem _ (by rw [show o + (i + 1) = o + 1 + i by omega]; exact this)
theorem ent_has {vs : List Value} {n : Nat} (h : (entL vs).length ≤ n) : lhas ((lg_sl vs ++ List.replicate (n - (lg_sl vs).length) Slot.unset).toArray) n (entN vs n) ∧ (entN vs n).length = n := by
  have hv := lv_entry vs (n := n) (by rw [← entL_len]; exact h)
  refine ⟨⟨hv.1, hv.2.1, fun i v e => ?_⟩, by simp [entN]; omega⟩
  unfold entN at e
  by_cases hi : i < (entL vs).length
  · rw [List.getElem?_append_left hi] at e
    have := entL_get vs 0 i v e
    rw [Nat.zero_add] at this
    exact hv.2.2 _ this
  · rw [List.getElem?_append_right (by omega)] at e
    have := List.mem_of_getElem? e
    rw [List.mem_replicate] at this
    cases this.2
/-- a contract, by the walk of its body -/
theorem ct_of {l : Launch} {y : MethodName} {cb : ByteArray} {mL : Nat} {rt : Option FieldType} {av : List Value} {post : Option Value → Mem → Prop} (hy : plainName y.cls = true) (he : (entL av).length ≤ mL)
    (h : ∀ p e R s m args below meth c, X (mkG p l e R s m args below meth c Ω post) Ω y.cls cb mL lev rt 0 (entN av mL) [] M) : Ct Ω l y cb mL lev rt av M post := by
  refine Met.ofW (cc := cb) (maxL := mL) (ret := rt) hy rfl ?_
  intro p e s m args below meth c s₁ B hml hv
  obtain ⟨rfl, hP, hK, hA⟩ := hv
  have hts := atoms_spec (ws := Cond.code y cb mL rt :: tbw) B.pre
  have hown : s.vm.findClass y.cls = some m.cls := findClass_of_methodNamed B.named
  rw [lg_entry_eq]
  exact h p e (headSpec (Cond.code y cb mL rt :: tbw) (rmL lev)).room s m _ below meth c ⟨B.exec, B.bytes, hml, hown, fun w hw => hts w (List.mem_cons_of_mem _ hw), hK, hA, B.notSynchronized, B.returns, Nat.le_refl _, Nat.le_refl _, Nat.zero_le _, Nat.zero_le _⟩ s.heap [] _ (ent_has he).1 (ent_has he).2 hP va_S.rf
section
variable {p : Program} {l : Launch} {e : Env} {R : Room} {s : State} {m : MethodId} {args : Array Value} {below : List Frame} {meth : Method} {c : Code} {post : Option Value → Mem → Prop}
theorem x_iret {v : Int32} (d : decode cc pc = .ok (.ireturn, 1)) (h : post (some (.int v)) M) : X (mkG p l e R s m args below meth c Ω post) Ω own cc nL lev (some .int) pc L [.int v] M := by
  intro C H locs ls hl hn hP hS
  exact W.iret C.1 C.2.1 C.2.2.2.2.2.2.2.2.1 (fun t ht _ => ⟨⟨_, M, rfl, h, by rw [ht]; exact hP⟩, hS.F ht⟩) (fun q hq => hS.2.2 q hq) d C.2.2.2.2.2.2.2.1
theorem x_zret {v : Int32} (d : decode cc pc = .ok (.ireturn, 1)) (hv : v = 0 ∨ v = 1) (h : post (some (.int v)) M) : X (mkG p l e R s m args below meth c Ω post) Ω own cc nL lev (some .boolean) pc L [.int v] M := by
  intro C H locs ls hl hn hP hS
  exact W.zret C.1 C.2.1 C.2.2.2.2.2.2.2.2.1 (by rcases hv with rfl | rfl <;> rfl) (fun t ht _ => ⟨⟨_, M, rfl, h, by rw [ht]; exact hP⟩, hS.F ht⟩) (fun q hq => hS.2.2 q hq) d C.2.2.2.2.2.2.2.1
theorem x_vret (d : decode cc pc = .ok (.return_, 1)) (h : post none M) : X (mkG p l e R s m args below meth c Ω post) Ω own cc nL lev none pc L [] M := by
  intro C H locs ls hl hn hP hS
  exact W.vret C.1 C.2.1 C.2.2.2.2.2.2.2.2.1 (fun t ht _ => ⟨⟨_, M, rfl, h, by rw [ht]; exact hP⟩, hS.F ht⟩) (fun q hq => hS.2.2 q hq) d C.2.2.2.2.2.2.2.1
theorem x_lret {v : Int64} (d : decode cc pc = .ok (.lreturn, 1)) (h : post (some (.long v)) M) : X (mkG p l e R s m args below meth c Ω post) Ω own cc nL lev (some .long) pc L [.long v] M := by
  intro C H locs ls hl hn hP hS
  exact W.lret C.1 C.2.1 C.2.2.2.2.2.2.2.2.1 (fun t ht _ => ⟨⟨_, M, rfl, h, by rw [ht]; exact hP⟩, hS.F ht⟩) (fun q hq => hS.2.2 q hq) d C.2.2.2.2.2.2.2.1
theorem x_aret {v : Value} {cn : String} (d : decode cc pc = .ok (.areturn, 1)) (hv : v = .null ∨ ∃ a, v = .ref a) (h : post (some v) M) : X (mkG p l e R s m args below meth c Ω post) Ω own cc nL lev (some (.object cn)) pc L [v] M := by
  intro C H locs ls hl hn hP hS
  exact W.aret C.1 C.2.1 C.2.2.2.2.2.2.2.2.1 (Or.inl ⟨cn, rfl⟩) hv (fun t ht _ => ⟨⟨_, M, rfl, h, by rw [ht]; exact hP⟩, hS.F ht⟩) (fun q hq => hS.2.2 q hq) d C.2.2.2.2.2.2.2.1
end
end
