/-! THE WORLD AS IT IS MADE: the j-th cell that is made lies at b + j; XB: the machine over it -/
def wsN (b n : Nat) (E : Nat → va_E) : va_W := (List.range n).map fun j => (b + j, E j)
def inN (b : Nat) : Nat → Prop := fun q => b ≤ q
theorem wsN_at {b n : Nat} {E : Nat → va_E} {j : Nat} (h : j < n) : (wsN b n E)[j]? = some (b + j, E j) := by
  simp [wsN, List.getElem?_map, List.getElem?_range h]
theorem wsN_len {b n : Nat} {E : Nat → va_E} : (wsN b n E).length = n := by simp [wsN]
theorem wsN_key {b n : Nat} {E : Nat → va_E} {k : Nat} {q : Nat × va_E} (hk : (wsN b n E)[k]? = some q) : k < n ∧ q = (b + k, E k) := by
  have hl : k < n := by
    have := (List.getElem?_eq_some_iff.mp hk).1
    simpa [wsN] using this
  rw [wsN_at hl] at hk
  exact ⟨hl, (Option.some.inj hk).symm⟩
theorem wsN_D {b n : Nat} {E : Nat → va_E} : va_D (inN b) (wsN b n E) := by
  refine ⟨fun i j p q hi hj e => ?_, fun k q hk => ?_⟩
  · obtain ⟨-, rfl⟩ := wsN_key hi
    obtain ⟨-, rfl⟩ := wsN_key hj
    have e : b + i = b + j := e
    omega
  · obtain ⟨-, rfl⟩ := wsN_key hk
    show b ≤ b + k
    omega
theorem wsN_set {b n i : Nat} {E E' : Nat → va_E} (hi : i < n) (hold : ∀ j, j < n → j ≠ i → E' j = E j) : (wsN b n E).set i (b + i, E' i) = wsN b n E' := by
  apply List.ext_getElem?
  intro k
  by_cases hk : k < n
  · by_cases e : k = i
    · subst e
      rw [wsN_at hk, List.getElem?_set_self (by rw [wsN_len]; exact hk)]
    · rw [List.getElem?_set_ne (Ne.symm e), wsN_at hk, wsN_at hk, hold k hk e]
  · rw [List.getElem?_eq_none (by rw [List.length_set, wsN_len]; omega), List.getElem?_eq_none (by rw [wsN_len]; omega)]
theorem wsN_push {b n : Nat} {E E' : Nat → va_E} (hold : ∀ j, j < n → E' j = E j) : wsN b n E ++ [(b + n, E' n)] = wsN b (n + 1) E' := by
  unfold wsN
  rw [List.range_succ, List.map_append, List.map_cons, List.map_nil]
  congr 1
  refine List.map_congr_left (fun j hj => ?_)
  rw [hold j (List.mem_range.mp hj)]
theorem wsN_congr {b n : Nat} {E E' : Nat → va_E} (h : ∀ j, j < n → E' j = E j) : wsN b n E = wsN b n E' := by
  unfold wsN
  refine List.map_congr_left (fun j hj => ?_)
  rw [h j (List.mem_range.mp hj)]
theorem nI_nn {z : Nat} (h : z < 2000) : ¬ nI z < 0 := by
  rw [Int32.lt_iff_toInt_lt, nI_toInt (by omega)]
  simp
/-- the new cell's address -/
theorem wsN_new {D : va_G} {b n q : Nat} {E : Nat → va_E} {e : va_E} {H1 : Heap} (hP : va_P D vwCl (wsN b n E ++ [(q, e)]) H1) (hD : va_D (inN b) (wsN b n E ++ [(q, e)])) (hz : H1.size ≤ b + n + 1) : q = b + n := by
  have hq : (wsN b n E ++ [(q, e)])[n]? = some (q, e) := by
    rw [List.getElem?_append_right (by rw [wsN_len]; omega), wsN_len, Nat.sub_self]; rfl
  have h1 : b ≤ q := hD.2 n _ hq
  have h2 : q < H1.size := (hP n _ hq).lt
  rcases Nat.lt_or_ge q (b + n) with h | h
  · have hj : (wsN b n E ++ [(q, e)])[q - b]? = some (b + (q - b), E (q - b)) := by
      rw [List.getElem?_append_left (by rw [wsN_len]; omega), wsN_at (by omega)]
    have := hD.1 n (q - b) _ _ hq hj (by show q = b + (q - b); omega)
    omega
  · omega
/-- the links of private constructors; what a Goer[] holds; arrays of references -/
def nst : List (String × Nat × MethodName) := [(RX11, 17, yX10_init), (RX11, 33, yX0_init), (RX11, 42, yX1_init), (RX1, 1, yX7_init), (RX11, 45, yX3_init), (RX3, 1, yX1_init), (RX11, 48, yX2_init), (RX2, 1, yX1_init), (RX11, 51, yX4_init), (RX4, 1, yX7_init), (RX11, 54, yX6_init), (RX6, 1, yX4_init), (RX11, 72, yX9_init)]
def gsK : List String := [RX1, RX3, RX2, RX4, RX6]
def aos : List String := [RX7, RX8, RX9]
def Kbd (Ω : Om) (U : State) : Prop := Kst Ω U ∧ (∀ q ∈ nst, va_Nw (.methodLinkNest q.1 q.2.1 q.2.2 RX11) U) ∧ (∀ q ∈ gsK, va_Nw (.castable q RX7) U) ∧ ∀ q ∈ aos, va_AO q U
theorem Kbd.warm {Ω : Om} {s U : State} (h : Kbd Ω s) (hW : s.WarmedH U.vm) : Kbd Ω U :=
  ⟨h.1.warm hW, fun q hq => va_Nw.warmM hW (h.2.1 q hq), fun q hq => va_Nw.warmC hW (h.2.2.1 q hq), fun q hq => va_AO.moved hW.alike (h.2.2.2 q hq)⟩
def PB (Ω : Om) (b n : Nat) (E : Nat → va_E) (U : State) : Prop := va_P Ω.1 vwCl (wsN b n E) U.heap ∧ Kbd Ω U ∧ U.heap.size = b + n
def QB (Ω : Om) (b n : Nat) (E : Nat → va_E) : Array Value → State → Outcome → State → Prop := fun _ st oc t => (oc = .returned none ∧ va_P Ω.1 vwCl (wsN b n E) t.heap) ∧ va_F (inN b) st t
abbrev rmB (lev mc ms : Nat) : Room := { frames := lev, cells := mc, slots := ms, locals := 40 * lev }
/-- a constructor's contract: n cells become n2 -/
def CtB (Ω : Om) (b : Nat) (l : Launch) (y : MethodName) (cb : ByteArray) (mL lev : Nat) (av : List Value) (n : Nat) (E : Nat → va_E) (n2 : Nat) (E2 : Nat → va_E) (mc ms : Nat) : Prop :=
  Met l y (Cond.code y cb mL none :: tbw) (rmB lev mc ms) (va_Pc av (PB Ω b n E)) (QB Ω b n2 E2) mc ms (inN b)
theorem PB_blind {Ω : Om} {b n : Nat} {E : Nat → va_E} {av : List Value} : FrameBlind (va_Pc av (PB Ω b n E)) := by
  intro a U g mk h
  obtain ⟨h1, h2, ⟨h3, k1, k2, k3⟩, h4⟩ := h
  exact ⟨h1, h2, ⟨⟨va_K.moved (u := U) (U := U.calling g mk a) (Vm.Alike.refl U.vm) h3.1, fun q hq => va_Nw.same rfl rfl (h3.2.1 q hq), fun q hq => va_Nc.moved (Vm.Alike.refl U.vm) (h3.2.2.1 q hq), va_Nw.same rfl rfl h3.2.2.2.1, va_Nw.same rfl rfl h3.2.2.2.2⟩, fun q hq => va_Nw.same rfl rfl (k1 q hq), fun q hq => va_Nw.same rfl rfl (k2 q hq), fun q hq => va_AO.moved (Vm.Alike.refl U.vm) (k3 q hq)⟩, h4⟩
def Cb (Γ : Gx) (Ω : Om) (b : Nat) (own : String) (cc : ByteArray) (nL lev : Nat) (ret : Option FieldType) : Prop := match Γ with
  | (p, _, _, R, s, m, args, _, meth, c, _, cells, slots) => p.tables.exec = Jvm.exec ∧ c.code = cc ∧ c.maxLocals = nL ∧ s.vm.findClass own = some m.cls ∧ (∀ w ∈ tbw, w.before args s = true) ∧ Kbd Ω s ∧ b ≤ s.heap.size ∧ meth.locks = false ∧ meth.sig.returnType = ret ∧ lev ≤ R.frames ∧ 40 * lev ≤ R.locals ∧ cells ≤ R.cells ∧ slots ≤ R.slots
def XB (Γ : Gx) (Ω : Om) (b : Nat) (own : String) (cc : ByteArray) (nL lev : Nat) (ret : Option FieldType) (pc : Nat) (L : List (Option Value)) (st : List Value) (n : Nat) (E : Nat → va_E) (kc ks : Nat) : Prop := Cb Γ Ω b own cc nL lev ret → match Γ with
  | (p, l, e, R, s, m, args, below, meth, c, Q, cells, slots) => ∀ (H : Heap) (locs : List Loc) (ls : Array Slot), lhas ls nL L → L.length = nL → va_P Ω.1 vwCl (wsN b n E) H → va_S (inN b) s.heap H locs → s.heap.size + kc = b + n → W p l e R s m args below meth c H locs kc ks Q (F0 m pc ls st)
section
variable {p : Program} {l : Launch} {e : Env} {R : Room} {s : State} {m : MethodId} {args : Array Value} {below : List Frame} {meth : Method} {c : Code} {H : Heap} {locs : List Loc} {cells slots : Nat} {Q : State → Prop}
/-- the heap is no larger than what has been made -/
theorem W.sized {g : JFrame} (k : H.size ≤ s.heap.size + cells → W p l e R s m args below meth c H locs cells slots Q g) : W p l e R s m args below meth c H locs cells slots Q g := by
  intro T hT X
  exact k (by rw [← hT]; exact X.same.2.2.1) T hT X
end
section
variable {Γ : Gx} {Ω : Om} {b : Nat} {own : String} {cc : ByteArray} {nL lev : Nat} {ret : Option FieldType} {pc : Nat} {L : List (Option Value)} {st : List Value} {n : Nat} {E : Nat → va_E} {kc ks : Nat}
theorem b_congr (E' : Nat → va_E) (h : ∀ j, j < n → E' j = E j) (k : XB Γ Ω b own cc nL lev ret pc L st n E' kc ks) : XB Γ Ω b own cc nL lev ret pc L st n E kc ks := by
  obtain ⟨p, l, e, R, s, m, args, below, meth, c, Q, cells, slots⟩ := Γ
  intro C H locs ls hl hn hP hS hz
  exact k C H locs ls hl hn (by rw [← wsN_congr h]; exact hP) hS hz
theorem b_iconst {v0 : Int} (d : decode cc pc = .ok (.iconst v0, 1)) {v : Int32} (hv : Int32.ofInt v0 = v) (k : XB Γ Ω b own cc nL lev ret (pc + 1) L (.int v :: st) n E kc ks) : XB Γ Ω b own cc nL lev ret pc L st n E kc ks := by
  obtain ⟨p, l, e, R, s, m, args, below, meth, c, Q, cells, slots⟩ := Γ
  intro C H locs ls hl hn hP hS hz
  exact lv_iconst C.1 C.2.1 d hv (k C H locs ls hl hn hP hS hz)
theorem b_bipush {v0 : Int} (d : decode cc pc = .ok (.bipush v0, 2)) {v : Int32} (hv : (Int8.ofInt v0).toInt32 = v) (k : XB Γ Ω b own cc nL lev ret (pc + 2) L (.int v :: st) n E kc ks) : XB Γ Ω b own cc nL lev ret pc L st n E kc ks := by
  obtain ⟨p, l, e, R, s, m, args, below, meth, c, Q, cells, slots⟩ := Γ
  intro C H locs ls hl hn hP hS hz
  exact lv_bipush C.1 C.2.1 d hv (k C H locs ls hl hn hP hS hz)
theorem b_sipush {v0 : Int} (d : decode cc pc = .ok (.sipush v0, 3)) {v : Int32} (hv : (Int16.ofInt v0).toInt32 = v) (k : XB Γ Ω b own cc nL lev ret (pc + 3) L (.int v :: st) n E kc ks) : XB Γ Ω b own cc nL lev ret pc L st n E kc ks := by
  obtain ⟨p, l, e, R, s, m, args, below, meth, c, Q, cells, slots⟩ := Γ
  intro C H locs ls hl hn hP hS hz
  exact lv_sipush C.1 C.2.1 d hv (k C H locs ls hl hn hP hS hz)
theorem b_lconst {v0 : Fin 2} (d : decode cc pc = .ok (.lconst v0, 1)) {v : Int64} (hv : Int64.ofNat (v0 : Nat) = v) (k : XB Γ Ω b own cc nL lev ret (pc + 1) L (.long v :: st) n E kc ks) : XB Γ Ω b own cc nL lev ret pc L st n E kc ks := by
  obtain ⟨p, l, e, R, s, m, args, below, meth, c, Q, cells, slots⟩ := Γ
  intro C H locs ls hl hn hP hS hz
  exact lv_lconst C.1 C.2.1 d hv (k C H locs ls hl hn hP hS hz)
theorem b_null (d : decode cc pc = .ok (.aconst_null, 1)) (k : XB Γ Ω b own cc nL lev ret (pc + 1) L (.null :: st) n E kc ks) : XB Γ Ω b own cc nL lev ret pc L st n E kc ks := by
  obtain ⟨p, l, e, R, s, m, args, below, meth, c, Q, cells, slots⟩ := Γ
  intro C H locs ls hl hn hP hS hz
  exact lv_null C.1 C.2.1 d (k C H locs ls hl hn hP hS hz)
theorem b_aload_n {j : Fin 4} {x : Nat} (d : decode cc pc = .ok (.aload_n j, 1)) (h : L[(j : Nat)]? = some (some (.ref x))) (k : XB Γ Ω b own cc nL lev ret (pc + 1) L (.ref x :: st) n E kc ks) : XB Γ Ω b own cc nL lev ret pc L st n E kc ks := by
  obtain ⟨p, l, e, R, s, m, args, below, meth, c, Q, cells, slots⟩ := Γ
  intro C H locs ls hl hn hP hS hz
  exact lv_aload_n C.1 C.2.1 d rfl (hl.2.2 _ _ h) (k C H locs ls hl hn hP hS hz)
theorem b_iload_n {j : Fin 4} {x : Int32} (d : decode cc pc = .ok (.iload_n j, 1)) (h : L[(j : Nat)]? = some (some (.int x))) (k : XB Γ Ω b own cc nL lev ret (pc + 1) L (.int x :: st) n E kc ks) : XB Γ Ω b own cc nL lev ret pc L st n E kc ks := by
  obtain ⟨p, l, e, R, s, m, args, below, meth, c, Q, cells, slots⟩ := Γ
  intro C H locs ls hl hn hP hS hz
  exact lv_iload_n C.1 C.2.1 d rfl (hl.2.2 _ _ h) (k C H locs ls hl hn hP hS hz)
theorem b_istore_n {j : Fin 4} {x : Int32} (d : decode cc pc = .ok (.istore_n j, 1)) (k : XB Γ Ω b own cc nL lev ret (pc + 1) (lst1 L (j : Nat) (.int x)) st n E kc ks) (hj : (j : Nat) < nL := by decide) : XB Γ Ω b own cc nL lev ret pc L (.int x :: st) n E kc ks := by
  obtain ⟨p, l, e, R, s, m, args, below, meth, c, Q, cells, slots⟩ := Γ
  intro C H locs ls hl hn hP hS hz
  refine lv_istore_n C.1 C.2.1 d rfl (lhas_lv hl) hj rfl (fun ls' hv => ?_)
  refine k C H locs ls' ?_ (by rw [lst1_len]; exact hn) hP hS hz
  exact lst1_has hv (by omega) rfl
theorem b_astore_n {j : Fin 4} {x : Nat} (d : decode cc pc = .ok (.astore_n j, 1)) (k : XB Γ Ω b own cc nL lev ret (pc + 1) (lst1 L (j : Nat) (.ref x)) st n E kc ks) (hj : (j : Nat) < nL := by decide) : XB Γ Ω b own cc nL lev ret pc L (.ref x :: st) n E kc ks := by
  obtain ⟨p, l, e, R, s, m, args, below, meth, c, Q, cells, slots⟩ := Γ
  intro C H locs ls hl hn hP hS hz
  refine lv_astore_n C.1 C.2.1 d rfl (lhas_lv hl) hj rfl (fun ls' hv => ?_)
  refine k C H locs ls' ?_ (by rw [lst1_len]; exact hn) hP hS hz
  exact lst1_has hv (by omega) rfl
theorem b_iinc {j : Nat} {v0 : Int} {x v : Int32} (d : decode cc pc = .ok (.iinc j v0, 3)) (h : L[j]? = some (some (.int x))) (hv : x + Int32.ofInt v0 = v) (k : XB Γ Ω b own cc nL lev ret (pc + 3) (lst1 L j (.int v)) st n E kc ks) (hj : j < nL := by decide) : XB Γ Ω b own cc nL lev ret pc L st n E kc ks := by
  obtain ⟨p, l, e, R, s, m, args, below, meth, c, Q, cells, slots⟩ := Γ
  intro C H locs ls hl hn hP hS hz
  obtain ⟨kk, hk⟩ := List.getElem?_of_mem (lasc_mem L L.length j _ (by omega) h)
  refine lv_iinc C.1 C.2.1 d (lhas_lv hl) hk hv hj rfl (fun ls' hv => ?_)
  refine k C H locs ls' ?_ (by rw [lst1_len]; exact hn) hP hS hz
  exact lst1_has hv (by omega) rfl
theorem b_dup {v : Value} (d : decode cc pc = .ok (.dup, 1)) (hv : v.category = 1) (k : XB Γ Ω b own cc nL lev ret (pc + 1) L (v :: v :: st) n E kc ks) : XB Γ Ω b own cc nL lev ret pc L (v :: st) n E kc ks := by
  obtain ⟨p, l, e, R, s, m, args, below, meth, c, Q, cells, slots⟩ := Γ
  intro C H locs ls hl hn hP hS hz
  exact lv_dup C.1 C.2.1 d hv (k C H locs ls hl hn hP hS hz)
theorem b_goto {off : Int} (tgt : Nat) (d : decode cc pc = .ok (.goto off, 3)) (k : XB Γ Ω b own cc nL lev ret tgt L st n E kc ks) (ht : (pc : Int) + off = (tgt : Int) := by decide) : XB Γ Ω b own cc nL lev ret pc L st n E kc ks := by
  obtain ⟨p, l, e, R, s, m, args, below, meth, c, Q, cells, slots⟩ := Γ
  intro C H locs ls hl hn hP hS hz
  exact lv_goto C.1 C.2.1 d ht (k C H locs ls hl hn hP hS hz)
theorem b_icmp_ge {x y : Nat} (hx : x < 2 ^ 31) (hy : y < 2 ^ 31) {off : Int} (tgt : Nat) (d : decode cc pc = .ok (.if_icmp .ge off, 3)) (kt : y ≤ x → XB Γ Ω b own cc nL lev ret tgt L st n E kc ks) (kf : x < y → XB Γ Ω b own cc nL lev ret (pc + 3) L st n E kc ks) (ht : (pc : Int) + off = (tgt : Int) := by decide) : XB Γ Ω b own cc nL lev ret pc L (.int (nI y) :: .int (nI x) :: st) n E kc ks := by
  obtain ⟨p, l, e, R, s, m, args, below, meth, c, Q, cells, slots⟩ := Γ
  intro C H locs ls hl hn hP hS hz
  refine lv_icmp_ge C.1 C.2.1 d ht (fun h => ?_) (fun h => ?_)
  · refine kt ?_ C H locs ls hl hn hP hS hz
    rw [Int32.le_iff_toInt_le, nI_toInt hx, nI_toInt hy] at h
    omega
  · refine kf ?_ C H locs ls hl hn hP hS hz
    rw [Int32.le_iff_toInt_le, nI_toInt hx, nI_toInt hy] at h
    omega
/-- Object's constructor -/
theorem b_obj {idx a : Nat} (d : decode cc pc = .ok (.invokespecial idx, 3)) (hlk : Cond.methodLink own idx Lib.objectInit ∈ tbw) (hi : Cond.instanceMethod Lib.objectInit ∈ tbw) (hc : Cond.code Lib.objectInit ⟨#[0xb1]⟩ 1 none ∈ tbw) (hlev : 1 ≤ lev) (hs : (st.map fun v => v.category).sum ≤ 8) (k : XB Γ Ω b own cc nL lev ret (pc + 3) L st n E kc ks) : XB Γ Ω b own cc nL lev ret pc L (.ref a :: st) n E kc ks := by
  obtain ⟨p, l, e, R, s, m, args, below, meth, c, Q, cells, slots⟩ := Γ
  intro C H locs ls hl hn hP hS hz
  obtain ⟨hx, hb, hml, hown, hts, hK, hA, hlk2, hrt, hfr, hlo, hce, hsl⟩ := id C
  refine W.objInit hx hb hown (hts _ hlk) (hts _ hi) (hts _ hc) rfl (hl.1.trans hml.symm) rfl d (by omega) ?_ (k C H locs ls hl hn hP hS hz)
  show 2 * 0 + _ + 12 ≤ R.locals
  omega
/-- a new object -/
theorem b_new {ci idx N : Nat} {C : String} {T : u_T} {ty0 : Nat → FieldType} {fs : List Value} (E' : Nat → va_E) (d : decode cc pc = .ok (.new idx, 3)) (hin : ∀ w ∈ u_ws C T N, w ∈ tbw) (hty : ∀ k, k < N → parseFieldDescriptor (T k).2.2.1 = some (ty0 k)) (hcl : vwCl[ci]? = some (C, T, N)) (hlk : Cond.classLink own idx C ∈ tbw) (hins : Cond.instantiable C N ∈ tbw) (hini : Cond.initialized C ∈ tbw) (hfs : ∀ j, j < N → defaultValue (ty0 j) = vp_V fs j)
    (hE : E' n = .inr (ci, fs)) (hold : ∀ j, j < n → E' j = E j) (hkc : kc + 1 ≤ Γ.2.2.2.2.2.2.2.2.2.2.2.1) (hks : ks + N ≤ Γ.2.2.2.2.2.2.2.2.2.2.2.2) (kk : XB Γ Ω b own cc nL lev ret (pc + 3) L (.ref (b + n) :: st) (n + 1) E' (kc + 1) (ks + N)) : XB Γ Ω b own cc nL lev ret pc L st n E kc ks := by
  obtain ⟨p, l, e, R, s, m, args, below, meth, c, Q, cells, slots⟩ := Γ
  intro C0 H locs ls hl hn hP hS hz
  obtain ⟨hx, hb, hml, hown, hts, hK, hA, hlk2, hrt, hfr, hlo, hce, hsl⟩ := id C0
  have hkc : kc + 1 ≤ cells := hkc
  have hks : ks + N ≤ slots := hks
  refine va_new (A := inN b) (H0 := s.heap) hx hb hts hin ty0 hty hown (hts _ hlk) (hts _ hins) (hts _ hini) hK.1.1 hP wsN_D hS (fun q hq => Nat.le_trans hA hq) hcl hfs (by omega) (by omega) d ?_
  intro q H1 hP1 hD1 hS1
  refine W.sized (fun hz1 => ?_)
  have hq := wsN_new hP1 hD1 (by omega)
  subst hq
  rw [← hE, wsN_push hold] at hP1
  exact kk C0 H1 locs ls hl hn hP1 hS1 (by omega)
/-- a new int[] -/
theorem b_newi {z : Nat} {f : Nat → Int32} (E' : Nat → va_E) (d : decode cc pc = .ok (.newarray .int, 2)) (hac : Cond.arrayClass .int ∈ tbw) (hz0 : z < 2000) (hE : E' n = .inl (Ω.2.1 0, z, .inl f)) (hf : ∀ j, f j = 0) (hold : ∀ j, j < n → E' j = E j) (hkc : kc + 1 ≤ Γ.2.2.2.2.2.2.2.2.2.2.2.1) (hks : ks + z ≤ Γ.2.2.2.2.2.2.2.2.2.2.2.2) (kk : XB Γ Ω b own cc nL lev ret (pc + 2) L (.ref (b + n) :: st) (n + 1) E' (kc + 1) (ks + z)) : XB Γ Ω b own cc nL lev ret pc L (.int (nI z) :: st) n E kc ks := by
  obtain ⟨p, l, e, R, s, m, args, below, meth, c, Q, cells, slots⟩ := Γ
  intro C0 H locs ls hl hn hP hS hz
  obtain ⟨hx, hb, hml, hown, hts, hK, hA, hlk2, hrt, hfr, hlo, hce, hsl⟩ := id C0
  have hkc : kc + 1 ≤ cells := hkc
  have hks : ks + z ≤ slots := hks
  refine va_newa (atype := .int) (A := inN b) (H0 := s.heap) (ty := .int) (N' := z) (a0 := (z, .inl f)) hx hb (hts _ hac) rfl hK.1.1 hP wsN_D hS (fun q hq => Nat.le_trans hA hq) (fun cA => by rw [vp_cell_i]; congr 1; funext j; rw [hf j]; rfl) ?_ (nI_clamp (by omega)) ?_ (by omega) (by omega) d ?_
  · exact nI_nn hz0
  · show z * 4 ≤ 536870912
    omega
  intro q cA H1 hK1 hP1 hD1 hS1
  have e1 := (hK1.2 5 (cA, .int) rfl).2
  have e0 := (hK.1.1.2 0 (Ω.2.1 0, .int) rfl).2
  have e2 : cA = Ω.2.1 0 := Option.some.inj (e1.symm.trans e0)
  subst e2
  refine W.sized (fun hz1 => ?_)
  have hq := wsN_new hP1 hD1 (by omega)
  subst hq
  rw [← hE, wsN_push hold] at hP1
  exact kk C0 H1 locs ls hl hn hP1 hS1 (by omega)
/-- a new boolean[] -/
theorem b_newz {z : Nat} {f : Nat → Int32} (E' : Nat → va_E) (d : decode cc pc = .ok (.newarray .boolean, 2)) (hac : Cond.arrayClass .boolean ∈ tbw) (hz0 : z < 2000) (hE : E' n = .inl (Ω.2.1 1, z, .inl f)) (hf : ∀ j, f j = 0) (hold : ∀ j, j < n → E' j = E j) (hkc : kc + 1 ≤ Γ.2.2.2.2.2.2.2.2.2.2.2.1) (hks : ks + z ≤ Γ.2.2.2.2.2.2.2.2.2.2.2.2) (kk : XB Γ Ω b own cc nL lev ret (pc + 2) L (.ref (b + n) :: st) (n + 1) E' (kc + 1) (ks + z)) : XB Γ Ω b own cc nL lev ret pc L (.int (nI z) :: st) n E kc ks := by
  obtain ⟨p, l, e, R, s, m, args, below, meth, c, Q, cells, slots⟩ := Γ
  intro C0 H locs ls hl hn hP hS hz
  obtain ⟨hx, hb, hml, hown, hts, hK, hA, hlk2, hrt, hfr, hlo, hce, hsl⟩ := id C0
  have hkc : kc + 1 ≤ cells := hkc
  have hks : ks + z ≤ slots := hks
  refine va_newa (atype := .boolean) (A := inN b) (H0 := s.heap) (ty := .boolean) (N' := z) (a0 := (z, .inl f)) hx hb (hts _ hac) rfl hK.1.1 hP wsN_D hS (fun q hq => Nat.le_trans hA hq) (fun cA => by rw [vp_cell_i]; congr 1; funext j; rw [hf j]; rfl) ?_ (nI_clamp (by omega)) ?_ (by omega) (by omega) d ?_
  · exact nI_nn hz0
  · show z * 1 ≤ 536870912
    omega
  intro q cA H1 hK1 hP1 hD1 hS1
  have e1 := (hK1.2 5 (cA, .boolean) rfl).2
  have e0 := (hK.1.1.2 1 (Ω.2.1 1, .boolean) rfl).2
  have e2 : cA = Ω.2.1 1 := Option.some.inj (e1.symm.trans e0)
  subst e2
  refine W.sized (fun hz1 => ?_)
  have hq := wsN_new hP1 hD1 (by omega)
  subst hq
  rw [← hE, wsN_push hold] at hP1
  exact kk C0 H1 locs ls hl hn hP1 hS1 (by omega)
/-- a new array of references -/
theorem b_newq {z t idx : Nat} {C : String} (E' : Nat → va_E) (d : decode cc pc = .ok (.anewarray idx, 3)) (hlk : Cond.classLink own idx C ∈ tbw) (hao : C ∈ aos) (ht : (tysO Ω)[t]? = some (Ω.2.1 t, .object C)) (hz0 : z < 2000) (hE : E' n = .inl (Ω.2.1 t, z, .inr (.inr (.inr (.inr (fun _ => none)))))) (hold : ∀ j, j < n → E' j = E j) (hkc : kc + 1 ≤ Γ.2.2.2.2.2.2.2.2.2.2.2.1) (hks : ks + z ≤ Γ.2.2.2.2.2.2.2.2.2.2.2.2) (kk : XB Γ Ω b own cc nL lev ret (pc + 3) L (.ref (b + n) :: st) (n + 1) E' (kc + 1) (ks + z)) : XB Γ Ω b own cc nL lev ret pc L (.int (nI z) :: st) n E kc ks := by
  obtain ⟨p, l, e, R, s, m, args, below, meth, c, Q, cells, slots⟩ := Γ
  intro C0 H locs ls hl hn hP hS hz
  obtain ⟨hx, hb, hml, hown, hts, hK, hA, hlk2, hrt, hfr, hlo, hce, hsl⟩ := id C0
  have hkc : kc + 1 ≤ cells := hkc
  have hks : ks + z ≤ slots := hks
  refine va_newq (A := inN b) (H0 := s.heap) (N' := z) hx hb hown (hts _ hlk) (hK.2.2.2 _ hao) hK.1.1 hP wsN_D hS (fun q hq => Nat.le_trans hA hq) ?_ (nI_clamp (by omega)) (by omega) (by omega) (by omega) d ?_
  · exact nI_nn hz0
  intro q cA H1 hK1 hP1 hD1 hS1
  have e2 : cA = Ω.2.1 t := by
    obtain ⟨_, _, _, _, _, e1⟩ := (hK1.2 5 (cA, .object C) rfl).2
    obtain ⟨_, _, _, _, _, e0⟩ := (hK.1.1.2 t (Ω.2.1 t, .object C) ht).2
    exact Option.some.inj (e1.symm.trans e0)
  subst e2
  refine W.sized (fun hz1 => ?_)
  have hq := wsN_new hP1 hD1 (by omega)
  subst hq
  rw [← hE, wsN_push hold] at hP1
  exact kk C0 H1 locs ls hl hn hP1 hS1 (by omega)
/-- getfield -/
theorem b_get {i ci k idx N : Nat} {C : String} {T : u_T} {fs : List Value} {v : Value} (d : decode cc pc = .ok (.getfield idx, 3)) (hin : ∀ w ∈ u_ws C T N, w ∈ tbw) (hcl : vwCl[ci]? = some (C, T, N)) (hk : k < N) (hlk : Cond.fieldLink own idx (T k).1 (T k).2.1 (T k).2.2.1 ∈ tbw) (hi : i < n) (he : E i = .inr (ci, fs)) (hv : fs[k]? = some v) (kk : XB Γ Ω b own cc nL lev ret (pc + 3) L (v :: st) n E kc ks) : XB Γ Ω b own cc nL lev ret pc L (.ref (b + i) :: st) n E kc ks := by
  obtain ⟨p, l, e, R, s, m, args, below, meth, c, Q, cells, slots⟩ := Γ
  intro C0 H locs ls hl hn hP hS hz
  obtain ⟨hx, hb, hml, hown, hts, hK, hA, hlk2, hrt, hfr, hlo, hce, hsl⟩ := id C0
  exact va_get (ref := (T k).1) hx hb hts hin hown hK.1.1 hP i (by rw [wsN_at hi, he]) hcl k hk (hts _ hlk) (fun _ h => h) hv d (kk C0 H locs ls hl hn hP hS hz)
/-- putfield of what is not final -/
theorem b_put {i ci k idx N : Nat} {C : String} {T : u_T} {ty0 : Nat → FieldType} {ty : FieldType} {fs : List Value} {v : Value} (E' : Nat → va_E) (d : decode cc pc = .ok (.putfield idx, 3)) (hin : ∀ w ∈ u_ws C T N, w ∈ tbw) (hty : ∀ k, k < N → parseFieldDescriptor (T k).2.2.1 = some (ty0 k)) (hnm : ∀ a, a < N → ∀ b, b < N → a ≠ b → (T a).2.1 ≠ (T b).2.1) (hcl : vwCl[ci]? = some (C, T, N)) (hk : k < N) (hlk : Cond.fieldLink own idx (T k).1 (T k).2.1 (T k).2.2.1 ∈ tbw) (hfin : (T k).2.2.2 = false) (hd : parseFieldDescriptor (T k).2.2.1 = some ty) (hnar : narrow ty v = v) (hfit : fits ty v = true)
    (hi : i < n) (he : E i = .inr (ci, fs)) (hlen : k < fs.length) (hE : E' i = .inr (ci, fs.set k v)) (hold : ∀ j, j < n → j ≠ i → E' j = E j) (kk : XB Γ Ω b own cc nL lev ret (pc + 3) L st n E' kc ks) : XB Γ Ω b own cc nL lev ret pc L (v :: .ref (b + i) :: st) n E kc ks := by
  obtain ⟨p, l, e, R, s, m, args, below, meth, c, Q, cells, slots⟩ := Γ
  intro C0 H locs ls hl hn hP hS hz
  obtain ⟨hx, hb, hml, hown, hts, hK, hA, hlk2, hrt, hfr, hlo, hce, hsl⟩ := id C0
  refine va_put (ref := (T k).1) (A := inN b) (H0 := s.heap) hx hb hts hin ty0 hty hnm hown hK.1.1 hP wsN_D hS i (by rw [wsN_at hi, he]) hcl k hk (hts _ hlk) (fun _ h => h) hfin hd hnar hfit hlen d ?_
  intro H1 locs1 hP1 hD1 hS1
  rw [← hE, wsN_set hi hold] at hP1
  exact kk C0 H1 locs1 ls hl hn hP1 hS1 hz
/-- putfield of a final field, in a constructor -/
theorem b_putF {i ci k idx N : Nat} {C : String} {T : u_T} {ty0 : Nat → FieldType} {ty : FieldType} {fs : List Value} {v : Value} (E' : Nat → va_E) (d : decode cc pc = .ok (.putfield idx, 3)) (hin2 : Γ.2.2.2.2.2.2.2.2.1.name = "<init>") (hin : ∀ w ∈ u_ws C T N, w ∈ tbw) (hty : ∀ k, k < N → parseFieldDescriptor (T k).2.2.1 = some (ty0 k)) (hnm : ∀ a, a < N → ∀ b, b < N → a ≠ b → (T a).2.1 ≠ (T b).2.1) (hcl : vwCl[ci]? = some (C, T, N)) (hk : k < N) (hlk : Cond.fieldLink own idx (T k).1 (T k).2.1 (T k).2.2.1 ∈ tbw) (hfin : (T k).2.2.2 = true) (hdc : (T k).1 = own) (hd : parseFieldDescriptor (T k).2.2.1 = some ty) (hnar : narrow ty v = v) (hfit : fits ty v = true)
    (hi : i < n) (he : E i = .inr (ci, fs)) (hlen : k < fs.length) (hE : E' i = .inr (ci, fs.set k v)) (hold : ∀ j, j < n → j ≠ i → E' j = E j) (kk : XB Γ Ω b own cc nL lev ret (pc + 3) L st n E' kc ks) : XB Γ Ω b own cc nL lev ret pc L (v :: .ref (b + i) :: st) n E kc ks := by
  obtain ⟨p, l, e, R, s, m, args, below, meth, c, Q, cells, slots⟩ := Γ
  intro C0 H locs ls hl hn hP hS hz
  obtain ⟨hx, hb, hml, hown, hts, hK, hA, hlk2, hrt, hfr, hlo, hce, hsl⟩ := id C0
  refine va_putF (ref := (T k).1) (A := inN b) (H0 := s.heap) hx hb hts hin ty0 hty hnm hown hK.1.1 hP wsN_D hS i (by rw [wsN_at hi, he]) hcl k hk (hts _ hlk) (fun _ h => h) hfin hin2 hdc hd hnar hfit hlen d ?_
  intro H1 locs1 hP1 hD1 hS1
  rw [← hE, wsN_set hi hold] at hP1
  exact kk C0 H1 locs1 ls hl hn hP1 hS1 hz
/-- an int[]'s element -/
theorem b_ias {i z k : Nat} {x : Int32} {f : Nat → Int32} (E' : Nat → va_E) (d : decode cc pc = .ok (.iastore, 1)) (hi : i < n) (he : E i = .inl (Ω.2.1 0, z, .inl f)) (hk : k < z) (hz0 : z < 2000) (hE : E' i = .inl (Ω.2.1 0, z, .inl (upd f k x))) (hold : ∀ j, j < n → j ≠ i → E' j = E j) (kk : XB Γ Ω b own cc nL lev ret (pc + 1) L st n E' kc ks) : XB Γ Ω b own cc nL lev ret pc L (.int x :: .int (nI k) :: .ref (b + i) :: st) n E kc ks := by
  obtain ⟨p, l, e, R, s, m, args, below, meth, c, Q, cells, slots⟩ := Γ
  intro C0 H locs ls hl hn hP hS hz
  obtain ⟨hx, hb, hml, hown, hts, hK, hA, hlk2, hrt, hfr, hlo, hce, hsl⟩ := id C0
  refine va_iast (A := inN b) (H0 := s.heap) hx hb hK.1.1 hP wsN_D hS i 0 (by rw [wsN_at hi, he]) rfl (vp_in_nI hk (by omega)) d ?_
  intro H1 locs1 hP1 hD1 hS1
  rw [nI_clamp (by omega), ← hE, wsN_set hi hold] at hP1
  exact kk C0 H1 locs1 ls hl hn hP1 hS1 hz
/-- an element of an array of references: an object of the class itself -/
theorem b_ast {i t z k q ci : Nat} {r : vw_C} {vs : List Value} {f : Nat → Option Nat} (E' : Nat → va_E) (d : decode cc pc = .ok (.aastore, 1)) (hi : i < n) (hq : q < n) (he : E i = .inl (Ω.2.1 t, z, .inr (.inr (.inr (.inr f))))) (ht : (tysO Ω)[t]? = some (Ω.2.1 t, .object r.1)) (hv : E q = .inr (ci, vs)) (hcl : vwCl[ci]? = some r) (hk : k < z) (hz0 : z < 2000) (hE : E' i = .inl (Ω.2.1 t, z, .inr (.inr (.inr (.inr (va_up f k (some (b + q)))))))) (hold : ∀ j, j < n → j ≠ i → E' j = E j) (kk : XB Γ Ω b own cc nL lev ret (pc + 1) L st n E' kc ks) : XB Γ Ω b own cc nL lev ret pc L (.ref (b + q) :: .int (nI k) :: .ref (b + i) :: st) n E kc ks := by
  obtain ⟨p, l, e, R, s, m, args, below, meth, c, Q, cells, slots⟩ := Γ
  intro C0 H locs ls hl hn hP hS hz
  obtain ⟨hx, hb, hml, hown, hts, hK, hA, hlk2, hrt, hfr, hlo, hce, hsl⟩ := id C0
  refine va_astq (A := inN b) (H0 := s.heap) hx hb hK.1.1 hP wsN_D hS i t q ci (by rw [wsN_at hi, he]) ht (by rw [wsN_at hq, hv]) hcl (vp_in_nI hk (by omega)) d ?_
  intro H1 locs1 hP1 hD1 hS1
  rw [nI_clamp (by omega), ← hE, wsN_set hi hold] at hP1
  exact kk C0 H1 locs1 ls hl hn hP1 hS1 hz
/-- an element of kinds -/
theorem b_astG {i z k q ci : Nat} {r : vw_C} {vs : List Value} {f : Nat → Option Nat} (E' : Nat → va_E) (d : decode cc pc = .ok (.aastore, 1)) (hi : i < n) (hq : q < n) (he : E i = .inl (Ω.2.1 2, z, .inr (.inr (.inr (.inr f))))) (hg : r.1 ∈ gsK) (hv : E q = .inr (ci, vs)) (hcl : vwCl[ci]? = some r) (hk : k < z) (hz0 : z < 2000) (hE : E' i = .inl (Ω.2.1 2, z, .inr (.inr (.inr (.inr (va_up f k (some (b + q)))))))) (hold : ∀ j, j < n → j ≠ i → E' j = E j) (kk : XB Γ Ω b own cc nL lev ret (pc + 1) L st n E' kc ks) : XB Γ Ω b own cc nL lev ret pc L (.ref (b + q) :: .int (nI k) :: .ref (b + i) :: st) n E kc ks := by
  obtain ⟨p, l, e, R, s, m, args, below, meth, c, Q, cells, slots⟩ := Γ
  intro C0 H locs ls hl hn hP hS hz
  obtain ⟨hx, hb, hml, hown, hts, hK, hA, hlk2, hrt, hfr, hlo, hce, hsl⟩ := id C0
  refine va_astqO (A := inN b) (H0 := s.heap) (E := RX7) hx hb hK.1.1 hP wsN_D hS i 2 q ci (by rw [wsN_at hi, he]) rfl (hK.2.2.1 _ hg) (by rw [wsN_at hq, hv]) hcl (vp_in_nI hk (by omega)) d ?_
  intro H1 locs1 hP1 hD1 hS1
  rw [nI_clamp (by omega), ← hE, wsN_set hi hold] at hP1
  exact kk C0 H1 locs1 ls hl hn hP1 hS1 hz
theorem b_astN {i z k : Nat} {f : Nat → Option Nat} (E' : Nat → va_E) (d : decode cc pc = .ok (.aastore, 1)) (hi : i < n) (he : E i = .inl (Ω.2.1 2, z, .inr (.inr (.inr (.inr f))))) (hk : k < z) (hz0 : z < 2000) (hE : E' i = .inl (Ω.2.1 2, z, .inr (.inr (.inr (.inr (va_up f k none)))))) (hold : ∀ j, j < n → j ≠ i → E' j = E j) (kk : XB Γ Ω b own cc nL lev ret (pc + 1) L st n E' kc ks) : XB Γ Ω b own cc nL lev ret pc L (.null :: .int (nI k) :: .ref (b + i) :: st) n E kc ks := by
  obtain ⟨p, l, e, R, s, m, args, below, meth, c, Q, cells, slots⟩ := Γ
  intro C0 H locs ls hl hn hP hS hz
  obtain ⟨hx, hb, hml, hown, hts, hK, hA, hlk2, hrt, hfr, hlo, hce, hsl⟩ := id C0
  refine va_astqN (A := inN b) (H0 := s.heap) (C := RX7) hx hb hK.1.1 hP wsN_D hS i 2 (by rw [wsN_at hi, he]) rfl (vp_in_nI hk (by omega)) d ?_
  intro H1 locs1 hP1 hD1 hS1
  rw [nI_clamp (by omega), ← hE, wsN_set hi hold] at hP1
  exact kk C0 H1 locs1 ls hl hn hP1 hS1 hz
theorem Cb.fix {p : Program} {l : Launch} {e : Env} {R : Room} {s : State} {m : MethodId} {args : Array Value} {below : List Frame} {meth : Method} {c : Code} {Q : State → Prop} {cells slots : Nat} (C : Cb (p, l, e, R, s, m, args, below, meth, c, Q, cells, slots) Ω b own cc nL lev ret) : CallFix p m c cc nL s args tbw own := ⟨C.1, C.2.1, C.2.2.1, C.2.2.2.1, C.2.2.2.2.1⟩
theorem b_after {p : Program} {l : Launch} {e : Env} {R : Room} {s : State} {m : MethodId} {args : Array Value} {below : List Frame} {meth : Method} {c : Code} {Q : State → Prop} {cells slots mc ms : Nat} {H : Heap} {locs : List Loc} {ls : Array Slot} {st0 rest : List Value} {a : Array Value} {n2 : Nat} {E2 : Nat → va_E} (C : Cb (p, l, e, R, s, m, args, below, meth, c, Q, cells, slots) Ω b own cc nL lev ret)
    (hr : va_Run p l e R s m args below meth c H locs kc ks mc ms (F0 m pc ls st0) rest (QB Ω b n2 E2 a) (inN b)) (hl : lhas ls nL L) (hn : L.length = nL) (hS : va_S (inN b) s.heap H locs) (hz : s.heap.size + (kc + mc) = b + n2)
    (k : XB (p, l, e, R, s, m, args, below, meth, c, Q, cells, slots) Ω b own cc nL lev ret (pc + 3) L rest n2 E2 (kc + mc) (ks + ms)) : W p l e R s m args below meth c H locs kc ks Q (F0 m pc ls st0) := by
  intro T hT X0
  obtain ⟨v, st₀, t, T', L1, h0, X', hL, e1, e2, ⟨⟨hv, hb⟩, hz1, hk⟩, stp⟩ := hr T hT X0
  cases hv
  rw [h0] at hz1 hk
  obtain ⟨t2, a1, b1⟩ := k C T'.heap (locs ++ L1) ls hl hn (by rw [e1]; exact hb)
    ⟨Nat.le_trans hS.1 (by rw [e1]; exact hz1), fun q h1 h2 => by rw [e1, hk q (Nat.lt_of_lt_of_le h1 hS.1) h2]; exact hS.2.1 q h1 h2, fun q hq => by
      rcases List.mem_append.mp hq with h | h
      · exact hS.2.2 q h
      · exact hL q h⟩ hz T' rfl X'
  exact ⟨t2, stp t2 a1, b1⟩
/-- a constructor is called -/
theorem b_call {y : MethodName} {cb : ByteArray} {mL lv i mc ms n2 nn : Nat} {E2 : Nat → va_E} {As rest : List Value} {idx : Nat} (hc : CtB Ω b Γ.2.1 y cb mL lv (.ref (b + i) :: As) n E n2 E2 mc ms) (d : decode cc pc = .ok (.invokespecial idx, 3)) (hlk : Cond.methodLink own idx y ∈ tbw) (hi : Cond.instanceMethod y ∈ tbw) (hini : Cond.initialized y.cls ∈ tbw) (hco : Cond.code y cb mL none ∈ tbw) (hy : y.name = "<init>") (hd : y.cls ≠ "java/lang/invoke/MethodHandle" ∧ y.cls ≠ "java/lang/invoke/VarHandle" ∧ (parseMethodDescriptor y.desc).map (fun d => d.parameters.length) = some nn) (hlv : lv < lev) (hmL : mL ≤ 21) (hAs : As.length = nn) (hst : st = As.reverse ++ .ref (b + i) :: rest) (hsum : (rest.map fun v => v.category).sum ≤ 8) (hn0 : 0 < n) (hn2 : n2 = n + mc) (hkc : kc + mc ≤ Γ.2.2.2.2.2.2.2.2.2.2.2.1) (hks : ks + ms ≤ Γ.2.2.2.2.2.2.2.2.2.2.2.2)
    (k : XB Γ Ω b own cc nL lev ret (pc + 3) L rest n2 E2 (kc + mc) (ks + ms)) : XB Γ Ω b own cc nL lev ret pc L st n E kc ks := by
  obtain ⟨p, l, e, R, s, m, args, below, meth, c, Q, cells, slots⟩ := Γ
  intro C H locs ls hl hn hP hS hz
  subst hst
  obtain ⟨hx, hb, hml, hown, hts, hK, hA, hlk2, hrt, hfr, hlo, hce, hsl⟩ := id C
  have hkc : kc + mc ≤ cells := hkc
  have hks : ks + ms ≤ slots := hks
  refine W.sized (fun hz1 => ?_)
  have h2 : b + (n - 1) < H.size := (hP (n - 1) _ (wsN_at (by omega))).lt
  have hsz : H.size = b + n := by omega
  exact b_after C (va_runI C.fix hc (cwI (R := R) nn hts (good_cons hco) rfl rfl rfl (hts _ hini) (hts _ hlk) (hts _ hi) hy hd ⟨by show lv + 1 ≤ _; omega, by show 8 + (mL + 11) + 40 * lv ≤ _; omega⟩)
    ⟨PB_blind, fun U hU hW => ⟨rfl, by rw [hU]; exact hP, hK.warm hW, by rw [hU]; exact hsz⟩⟩ rfl hAs hl.1 rfl (lv_room hsum) d ⟨by omega, by omega⟩) hl hn hS (by omega) k
/-- a private constructor of a nest mate is called -/
theorem b_callN {y : MethodName} {cb : ByteArray} {mL lv i mc ms n2 nn : Nat} {E2 : Nat → va_E} {As rest : List Value} {idx : Nat} (hc : CtB Ω b Γ.2.1 y cb mL lv (.ref (b + i) :: As) n E n2 E2 mc ms) (d : decode cc pc = .ok (.invokespecial idx, 3)) (hlk : (own, idx, y) ∈ nst) (hi : Cond.instanceMethod y ∈ tbw) (hini : Cond.initialized y.cls ∈ tbw) (hco : Cond.code y cb mL none ∈ tbw) (hy : y.name = "<init>") (hd : y.cls ≠ "java/lang/invoke/MethodHandle" ∧ y.cls ≠ "java/lang/invoke/VarHandle" ∧ (parseMethodDescriptor y.desc).map (fun d => d.parameters.length) = some nn) (hlv : lv < lev) (hmL : mL ≤ 21) (hAs : As.length = nn) (hst : st = As.reverse ++ .ref (b + i) :: rest) (hsum : (rest.map fun v => v.category).sum ≤ 8) (hn0 : 0 < n) (hn2 : n2 = n + mc) (hkc : kc + mc ≤ Γ.2.2.2.2.2.2.2.2.2.2.2.1) (hks : ks + ms ≤ Γ.2.2.2.2.2.2.2.2.2.2.2.2)
    (k : XB Γ Ω b own cc nL lev ret (pc + 3) L rest n2 E2 (kc + mc) (ks + ms)) : XB Γ Ω b own cc nL lev ret pc L st n E kc ks := by
  obtain ⟨p, l, e, R, s, m, args, below, meth, c, Q, cells, slots⟩ := Γ
  intro C H locs ls hl hn hP hS hz
  subst hst
  obtain ⟨hx, hb, hml, hown, hts, hK, hA, hlk2, hrt, hfr, hlo, hce, hsl⟩ := id C
  have hkc : kc + mc ≤ cells := hkc
  have hks : ks + ms ≤ slots := hks
  refine W.sized (fun hz1 => ?_)
  have h2 : b + (n - 1) < H.size := (hP (n - 1) _ (wsN_at (by omega))).lt
  have hsz : H.size = b + n := by omega
  exact b_after C (va_runIN (host := RX11) C.fix hc ⟨va_cnB (R := R) nn hts (good_cons hco) rfl rfl rfl (hK.2.1 _ hlk) (hts _ hini) hd ⟨by show lv + 1 ≤ _; omega, by show 8 + (mL + 11) + 40 * lv ≤ _; omega⟩, hy, hts _ hi⟩
    ⟨PB_blind, fun U hU hW => ⟨rfl, by rw [hU]; exact hP, hK.warm hW, by rw [hU]; exact hsz⟩⟩ rfl hAs hl.1 rfl (lv_room hsum) d ⟨by omega, by omega⟩) hl hn hS (by omega) k
def mkB (p : Program) (l : Launch) (e : Env) (R : Room) (s : State) (m : MethodId) (args : Array Value) (below : List Frame) (meth : Method) (c : Code) (Ω : Om) (b n2 : Nat) (E2 : Nat → va_E) (mc ms : Nat) : Gx := (p, l, e, R, s, m, args, below, meth, c, MQ below (QB Ω b n2 E2) args s mc ms (inN b), mc, ms)
/-- a constructor's contract, by the walk of its body -/
theorem ctB_of {l : Launch} {y : MethodName} {cb : ByteArray} {mL : Nat} {av : List Value} {n2 : Nat} {E2 : Nat → va_E} {mc ms : Nat} (hy : plainName y.cls = true) (hnm : y.name = "<init>") (he : (entL av).length ≤ mL)
    (h : ∀ p e R s m args below meth c, meth.name = "<init>" → XB (mkB p l e R s m args below meth c Ω b n2 E2 mc ms) Ω b y.cls cb mL lev none 0 (entN av mL) [] n E 0 0) : CtB Ω b l y cb mL lev av n E n2 E2 mc ms := by
  refine Met.ofW (cc := cb) (maxL := mL) (ret := none) hy rfl ?_
  intro p e s m args below meth c s₁ B hml hv
  obtain ⟨rfl, hP, hK, hA⟩ := hv
  have hts := atoms_spec (ws := Cond.code y cb mL none :: tbw) B.pre
  have hown : s.vm.findClass y.cls = some m.cls := findClass_of_methodNamed B.named
  have hin : meth.name = "<init>" := (name_of_methodNamed B.named B.method).1.trans hnm
  rw [lg_entry_eq]
  exact h p e (headSpec (Cond.code y cb mL none :: tbw) (rmB lev mc ms)).room s m _ below meth c hin ⟨B.exec, B.bytes, hml, hown, fun w hw => hts w (List.mem_cons_of_mem _ hw), hK, by omega, B.notSynchronized, B.returns, Nat.le_refl _, Nat.le_refl _, Nat.le_refl _, Nat.le_refl _⟩ s.heap [] _ (ent_has he).1 (ent_has he).2 hP va_S.rf (by omega)
theorem b_vret {p : Program} {l : Launch} {e : Env} {R : Room} {s : State} {m : MethodId} {args : Array Value} {below : List Frame} {meth : Method} {c : Code} {E2 : Nat → va_E} {mc ms : Nat} (d : decode cc pc = .ok (.return_, 1)) (h : ∀ j, j < n → E2 j = E j) (hk : kc = mc) (hs : ks = ms) : XB (mkB p l e R s m args below meth c Ω b n E2 mc ms) Ω b own cc nL lev none pc L [] n E kc ks := by
  subst hk
  subst hs
  intro C H locs ls hl hn hP hS hz
  exact W.vret C.1 C.2.1 C.2.2.2.2.2.2.2.2.1 (fun t ht _ => ⟨⟨rfl, by rw [ht, ← wsN_congr h]; exact hP⟩, hS.F ht⟩) (fun q hq => hS.2.2 q hq) d C.2.2.2.2.2.2.2.1
end
