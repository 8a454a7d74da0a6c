/-! calls over the one world -/
section
variable {Γ : Gx} {Ω : Om} {own : String} {cc : ByteArray} {nL lev : Nat} {ret : Option FieldType} {pc : Nat} {L : List (Option Value)} {st : List Value} {M : Mem}
theorem x_after {p : Program} {l : Launch} {e : Env} {R : Room} {s : State} {m : MethodId} {args : Array Value} {below : List Frame} {meth : Method} {c : Code} {Q : State → Prop} {cells slots : Nat} {H : Heap} {locs : List Loc} {ls : Array Slot} {st0 rest : List Value} {a : Array Value} {post : Option Value → Mem → Prop} (C : Cx (p, l, e, R, s, m, args, below, meth, c, Q, cells, slots) Ω own cc nL lev ret)
    (hr : va_Run p l e R s m args below meth c H locs cells slots 0 0 (F0 m pc ls st0) rest (Qx Ω post a) (inW Ω)) (hl : lhas ls nL L) (hn : L.length = nL) (hS : va_S (inW Ω) s.heap H locs)
    (k : ∀ (v : Option Value) (M' : Mem), post v M' → X (p, l, e, R, s, m, args, below, meth, c, Q, cells, slots) Ω own cc nL lev ret (pc + 3) L (v.toList ++ rest) M') : W p l e R s m args below meth c H locs cells slots Q (F0 m pc ls st0) := by
  intro T hT X0
  obtain ⟨v, st₀, t, T', L1, h0, X', hL, e1, e2, ⟨⟨v', M', hv, hp, hb⟩, hz, hk⟩, stp⟩ := hr T hT X0
  cases hv
  rw [h0] at hz hk
  obtain ⟨t2, a1, b1⟩ := k v M' hp C T'.heap (locs ++ L1) ls hl hn (by rw [e1]; exact hb)
    ⟨Nat.le_trans hS.1 (by rw [e1]; exact hz), fun q h1 h2 => by rw [e1, hk q (Nat.lt_of_lt_of_le h1 hS.1) h2]; exact hS.2.1 q h1 h2, fun q hq => by
      rcases List.mem_append.mp hq with h | h
      · exact hS.2.2 q h
      · exact hL q h⟩ T' rfl X'
  exact ⟨t2, stp t2 a1, b1⟩
theorem good_cons {w0 : Cond} (h : w0 ∈ tbw) : GoodIn tbw (w0 :: tbw) := fun w hw => by
  rcases List.mem_cons.mp hw with rfl | hw
  · exact ⟨h, good_of_word (tbw_good _ h)⟩
  · exact ⟨hw, good_of_word (tbw_good _ hw)⟩
theorem good_app {ws : List Cond} {w0 : Cond} (h : w0 ∈ tbw) (hs : ∀ w ∈ ws, w ∈ tbw) : GoodIn tbw (ws ++ (w0 :: tbw)) := fun w hw => by
  rcases List.mem_append.mp hw with hw | hw
  · exact ⟨hs w hw, good_of_word (tbw_good _ (hs w hw))⟩
  · exact good_cons h w hw
theorem all_of {ws : List Cond} (h : ∀ w ∈ ws, w ∈ tbw) : ∀ w ∈ ws, w ∈ tbw := h
/-- invokevirtual, where the receiver's class is the method's own (private methods too) -/
theorem x_callV {y : MethodName} {cb : ByteArray} {mL lv : Nat} {rt : Option FieldType} {As rest : List Value} {post : Option Value → Mem → Prop} {idx q ci n : Nat} {T : u_T} {N : Nat} (hc : Ct Ω Γ.2.1 y cb mL lv rt (.ref (Ω.2.2 q) :: As) M post) (d : decode cc pc = .ok (.invokevirtual idx, 3)) (hq : q < NC) (hkd : kd q = ci) (hci : ci < 12) (hcl : vwCl[ci]? = some (y.cls, T, N))
    (hw : ∀ w ∈ [Cond.methodLink own idx y, .instanceMethod y, .selects y.cls y y, .initialized y.cls], w ∈ tbw) (hco : Cond.code y cb mL rt ∈ tbw) (hd : y.cls ≠ "java/lang/invoke/MethodHandle" ∧ y.cls ≠ "java/lang/invoke/VarHandle" ∧ (parseMethodDescriptor y.desc).map (fun d => d.parameters.length) = some n) (hlv : lv < lev) (hmL : mL ≤ 21) (hAs : As.length = n) (hst : st = As.reverse ++ .ref (Ω.2.2 q) :: rest) (hsum : (rest.map fun v => v.category).sum ≤ 8)
    (k : ∀ (v : Option Value) (M' : Mem), post v M' → X Γ Ω own cc nL lev ret (pc + 3) L (v.toList ++ rest) M') : X Γ Ω own cc nL lev ret pc L st M := by
  obtain ⟨p, l, e, R, s, m, args, below, meth, c, Q, cells, slots⟩ := Γ
  intro C H locs ls hl hn hP hS
  subst hst
  obtain ⟨hx, hb, hml, hown, hts, hK, hA, hlk, hrt, hfr, hlo, hce, hsl⟩ := id C
  exact x_after C (va_runV (C := y.cls) C.fix hc (cwV (R := R) n hts (good_app hco hw) rfl rfl rfl ⟨rfl, hd⟩ ⟨by show lv + 1 ≤ _; omega, by show 8 + (mL + 11) + 40 * lv ≤ _; omega⟩)
    ⟨Px_blind, va_recv hK.1 hP hcl (by rw [wsO_at Ω M hq, cel_ob hkd hci]), fun U hU hW => ⟨rfl, by rw [hU]; exact hP, hK.warm hW, hA⟩⟩ rfl hAs hl.1 rfl (lv_room hsum) d ⟨hce, hsl⟩) hl hn hS k
/-- invokestatic: a method of any class (the JDK's too) -/
theorem x_callS {y : MethodName} {cb : ByteArray} {mL lv : Nat} {rt : Option FieldType} {As rest : List Value} {post : Option Value → Mem → Prop} {idx n : Nat} (hc : Ct Ω Γ.2.1 y cb mL lv rt As M post) (d : decode cc pc = .ok (.invokestatic idx, 3))
    (hw : ∀ w ∈ [Cond.methodLink own idx y, .static y, .initialized y.cls], w ∈ tbw) (hco : Cond.code y cb mL rt ∈ tbw) (hd : y.cls ≠ "java/lang/invoke/MethodHandle" ∧ y.cls ≠ "java/lang/invoke/VarHandle" ∧ (parseMethodDescriptor y.desc).map (fun d => d.parameters.length) = some n) (hlv : lv < lev) (hmL : mL ≤ 21) (hAs : As.length = n) (hst : st = As.reverse ++ rest) (hsum : (rest.map fun v => v.category).sum ≤ 8)
    (k : ∀ (v : Option Value) (M' : Mem), post v M' → X Γ Ω own cc nL lev ret (pc + 3) L (v.toList ++ rest) M') : X Γ Ω own cc nL lev ret pc L st M := by
  obtain ⟨p, l, e, R, s, m, args, below, meth, c, Q, cells, slots⟩ := Γ
  intro C H locs ls hl hn hP hS
  subst hst
  obtain ⟨hx, hb, hml, hown, hts, hK, hA, hlk, hrt, hfr, hlo, hce, hsl⟩ := id C
  exact x_after C (va_runS C.fix hc ⟨callB_of (R := R) n hts (good_cons hco) rfl rfl rfl (hts _ (hw _ (by simp))) (hts _ (hw _ (by simp))) hd ⟨by show lv + 1 ≤ _; omega, by show 8 + (mL + 11) + 40 * lv ≤ _; omega⟩, hts _ (hw _ (by simp))⟩
    ⟨Px_blind, fun U hU hW => ⟨rfl, by rw [hU]; exact hP, hK.warm hW, hA⟩⟩ rfl hAs hl.1 rfl (lv_room hsum) d ⟨hce, hsl⟩) hl hn hS k
/-- invokestatic of a private method of a nest mate: isWithin, out of Tape -/
theorem x_callSN {cb : ByteArray} {mL lv : Nat} {rt : Option FieldType} {As rest : List Value} {post : Option Value → Mem → Prop} {n : Nat} (hc : Ct Ω Γ.2.1 yX11_isWithin cb mL lv rt As M post) (d : decode cc pc = .ok (.invokestatic 76, 3)) (ho : own = RX10)
    (hw : ∀ w ∈ [Cond.static yX11_isWithin, .initialized yX11_isWithin.cls], w ∈ tbw) (hco : Cond.code yX11_isWithin cb mL rt ∈ tbw) (hd : yX11_isWithin.cls ≠ "java/lang/invoke/MethodHandle" ∧ yX11_isWithin.cls ≠ "java/lang/invoke/VarHandle" ∧ (parseMethodDescriptor yX11_isWithin.desc).map (fun d => d.parameters.length) = some n) (hlv : lv < lev) (hmL : mL ≤ 21) (hAs : As.length = n) (hst : st = As.reverse ++ rest) (hsum : (rest.map fun v => v.category).sum ≤ 8)
    (k : ∀ (v : Option Value) (M' : Mem), post v M' → X Γ Ω own cc nL lev ret (pc + 3) L (v.toList ++ rest) M') : X Γ Ω own cc nL lev ret pc L st M := by
  obtain ⟨p, l, e, R, s, m, args, below, meth, c, Q, cells, slots⟩ := Γ
  intro C H locs ls hl hn hP hS
  subst hst
  subst ho
  obtain ⟨hx, hb, hml, hown, hts, hK, hA, hlk, hrt, hfr, hlo, hce, hsl⟩ := id C
  exact x_after C (va_runSN (host := RX11) C.fix hc ⟨va_cnB (R := R) n hts (good_cons hco) rfl rfl rfl hK.2.2.2.1 (hts _ (hw _ (by simp))) hd ⟨by show lv + 1 ≤ _; omega, by show 8 + (mL + 11) + 40 * lv ≤ _; omega⟩, hts _ (hw _ (by simp)), trivial⟩
    ⟨Px_blind, fun U hU hW => ⟨rfl, by rw [hU]; exact hP, hK.warm hW, hA⟩⟩ rfl hAs hl.1 rfl (lv_room hsum) d ⟨hce, hsl⟩) hl hn hS k
/-- invokevirtual of x on a receiver of class C whose class selects y; what x names is abstract, or stands in 'owner' -/
theorem x_callU {x y : MethodName} {C owner : String} {cb : ByteArray} {mL lv : Nat} {rt : Option FieldType} {As rest : List Value} {post : Option Value → Mem → Prop} {idx q ci n : Nat} {T : u_T} {N : Nat} (hc : Ct Ω Γ.2.1 y cb mL lv rt (.ref (Ω.2.2 q) :: As) M post) (d : decode cc pc = .ok (.invokevirtual idx, 3)) (hq : q < NC) (hkd : kd q = ci) (hci : ci < 12) (hcl : vwCl[ci]? = some (C, T, N))
    (hw : ∀ w ∈ [Cond.methodLink own idx x, .sameMethod x.cls owner x.name x.desc, .selects C x y, .instanceMethod y, .initialized y.cls], w ∈ tbw) (hdc : (owner = RX7 ∧ x.name = "climb" ∧ x.desc = "(LLadderSprings$Lake;I)V") ∨ (∃ b0 m0 r0, Cond.code ⟨owner, x.name, x.desc⟩ b0 m0 r0 ∈ tbw ∧ Cond.instanceMethod ⟨owner, x.name, x.desc⟩ ∈ tbw)) (hco : Cond.code y cb mL rt ∈ tbw) (hd : owner ≠ "java/lang/invoke/MethodHandle" ∧ owner ≠ "java/lang/invoke/VarHandle" ∧ (parseMethodDescriptor x.desc).map (fun d => d.parameters.length) = some n) (hlv : lv < lev) (hmL : mL ≤ 21) (hAs : As.length = n) (hst : st = As.reverse ++ .ref (Ω.2.2 q) :: rest) (hsum : (rest.map fun v => v.category).sum ≤ 8)
    (k : ∀ (v : Option Value) (M' : Mem), post v M' → X Γ Ω own cc nL lev ret (pc + 3) L (v.toList ++ rest) M') : X Γ Ω own cc nL lev ret pc L st M := by
  obtain ⟨p, l, e, R, s, m, args, below, meth, c, Q, cells, slots⟩ := Γ
  intro Cc H locs ls hl hn hP hS
  subst hst
  obtain ⟨hx, hb, hml, hown, hts, hK, hA, hlk, hrt, hfr, hlo, hce, hsl⟩ := id Cc
  have hdecl : va_Decl s ⟨owner, x.name, x.desc⟩ := by
    rcases hdc with ⟨h1, h2, h3⟩ | ⟨b0, m0, r0, h1, h2⟩
    · rw [h1, h2, h3]; exact va_Decl.abs hK.2.2.2.2
    · exact va_Decl.of (hts _ h2) (hts _ h1)
  have cu : va_CU R s args own C owner idx x y cb mL rt (Cond.code y cb mL rt :: tbw) (rmL lv) 0 0 n := by
    refine ⟨⟨rfl, rfl, by show lv + 1 ≤ _; omega, by show 8 + (mL + 11) + 40 * lv ≤ _; omega, pay_in hts (good_cons hco), List.mem_cons_self⟩, hts _ hco, hts _ (hw _ (by simp)), ⟨hd.1, hd.2.1⟩, fun sig h => ?_, hts _ (hw _ (by simp)), hts _ (hw _ (by simp)), hdecl, hts _ (hw _ (by simp)), hts _ (hw _ (by simp))⟩
    have h2 := hd.2.2
    rw [h] at h2
    exact (Option.some.inj h2).symm
  exact x_after Cc (va_runU (C := C) (owner := owner) (x := x) Cc.fix hc cu
    ⟨Px_blind, va_recv hK.1 hP hcl (by rw [wsO_at Ω M hq, cel_ob hkd hci]), fun U hU hW => ⟨rfl, by rw [hU]; exact hP, hK.warm hW, hA⟩⟩ rfl hAs hl.1 rfl (lv_room hsum) d ⟨hce, hsl⟩) hl hn hS k
/-- invokespecial: super.y -/
theorem x_callSU {y : MethodName} {C : String} {cb : ByteArray} {mL lv : Nat} {rt : Option FieldType} {As rest : List Value} {post : Option Value → Mem → Prop} {idx q ci n : Nat} {T : u_T} {N : Nat} (hc : Ct Ω Γ.2.1 y cb mL lv rt (.ref (Ω.2.2 q) :: As) M post) (d : decode cc pc = .ok (.invokespecial idx, 3)) (hq : q < NC) (hkd : kd q = ci) (hci : ci < 12) (hcl : vwCl[ci]? = some (C, T, N))
    (hw : ∀ w ∈ [Cond.methodLink own idx y, .sameMethod y.cls y.cls y.name y.desc, .superclass own y.cls, .instanceMethod y, .initialized y.cls], w ∈ tbw) (hco : Cond.code y cb mL rt ∈ tbw) (hd : y.name ≠ "<init>" ∧ (parseMethodDescriptor y.desc).map (fun d => d.parameters.length) = some n) (hlv : lv < lev) (hmL : mL ≤ 21) (hAs : As.length = n) (hst : st = As.reverse ++ .ref (Ω.2.2 q) :: rest) (hsum : (rest.map fun v => v.category).sum ≤ 8)
    (k : ∀ (v : Option Value) (M' : Mem), post v M' → X Γ Ω own cc nL lev ret (pc + 3) L (v.toList ++ rest) M') : X Γ Ω own cc nL lev ret pc L st M := by
  obtain ⟨p, l, e, R, s, m, args, below, meth, c, Q, cells, slots⟩ := Γ
  intro Cc H locs ls hl hn hP hS
  subst hst
  obtain ⟨hx, hb, hml, hown, hts, hK, hA, hlk, hrt, hfr, hlo, hce, hsl⟩ := id Cc
  exact x_after Cc (va_runSU (C := C) (hK.1.1 ci _ hcl).2 Cc.fix hc (va_cwSU (R := R) n hts (good_app hco hw) rfl rfl rfl hd ⟨by show lv + 1 ≤ _; omega, by show 8 + (mL + 11) + 40 * lv ≤ _; omega⟩)
    ⟨Px_blind, va_recv hK.1 hP hcl (by rw [wsO_at Ω M hq, cel_ob hkd hci]), fun U hU hW => ⟨rfl, by rw [hU]; exact hP, hK.warm hW, hA⟩⟩ rfl hAs hl.1 rfl (lv_room hsum) d ⟨hce, hsl⟩) hl hn hS k
/-- instanceof -/
theorem x_instY {C nm : String} {idx q ci : Nat} {T : u_T} {N : Nat} (d : decode cc pc = .ok (.instanceof idx, 3)) (hlk : Cond.classLink own idx nm ∈ tbw) (hq : q < NC) (hkd : kd q = ci) (hci : ci < 12) (hcl : vwCl[ci]? = some (C, T, N)) (hcs : (C, nm) ∈ csts ∨ C = nm) (k : X Γ Ω own cc nL lev ret (pc + 3) L (.int 1 :: st) M) : X Γ Ω own cc nL lev ret pc L (.ref (Ω.2.2 q) :: st) M := by
  obtain ⟨p, l, e, R, s, m, args, below, meth, c, Q, cells, slots⟩ := Γ
  intro Cc H locs ls hl hn hP hS
  obtain ⟨hx, hb, hml, hown, hts, hK, hA, hlk2, hrt, hfr, hlo, hce, hsl⟩ := id Cc
  have hr := va_recv hK.1 hP hcl (a := Ω.2.2 q) (q0 := q) (by rw [wsO_at Ω M hq, cel_ob hkd hci])
  rcases hcs with h | h
  · exact va_instY hx hb hown (hts _ hlk) (hK.2.1 _ h) hr d (k Cc H locs ls hl hn hP hS)
  · subst h
    obtain ⟨cell, h1, h2, h3⟩ := hr
    have hat := (hK.1.1 ci _ hcl).2
    exact va_instS hx hb hown (hts _ hlk) hat ⟨cell, h1, h2, h3⟩ d (k Cc H locs ls hl hn hP hS)
theorem x_instN {C nm : String} {idx q ci : Nat} {T : u_T} {N : Nat} (d : decode cc pc = .ok (.instanceof idx, 3)) (hlk : Cond.classLink own idx nm ∈ tbw) (hq : q < NC) (hkd : kd q = ci) (hci : ci < 12) (hcl : vwCl[ci]? = some (C, T, N)) (hcs : (C, nm) ∈ cstN) (k : X Γ Ω own cc nL lev ret (pc + 3) L (.int 0 :: st) M) : X Γ Ω own cc nL lev ret pc L (.ref (Ω.2.2 q) :: st) M := by
  obtain ⟨p, l, e, R, s, m, args, below, meth, c, Q, cells, slots⟩ := Γ
  intro Cc H locs ls hl hn hP hS
  obtain ⟨hx, hb, hml, hown, hts, hK, hA, hlk2, hrt, hfr, hlo, hce, hsl⟩ := id Cc
  have hr := va_recv hK.1 hP hcl (a := Ω.2.2 q) (q0 := q) (by rw [wsO_at Ω M hq, cel_ob hkd hci])
  exact va_instNo hx hb hown (hts _ hlk) (hK.2.2.1 _ hcs) hr d (k Cc H locs ls hl hn hP hS)
/-- System.arraycopy of ints -/
theorem x_copy {idx a b : Nat} {sp dp n : Int32} (d : decode cc pc = .ok (.invokestatic idx, 3)) (hw : ∀ w ∈ [Cond.methodLink own idx arraycopyName, .native arraycopyName, .static arraycopyName, .initialized "java/lang/System"], w ∈ tbw) (ha : a < NC) (hb : b < NC) (hka : kd a = 12) (hkb : kd b = 12) (h1 : ¬ sp < 0) (h2 : ¬ dp < 0) (h3 : ¬ n < 0) (h4 : sp.toNatClampNeg + n.toNatClampNeg ≤ ln a) (h5 : dp.toNatClampNeg + n.toNatClampNeg ≤ ln b) (hlv : 1 ≤ lev) (hsum : (st.map fun v => v.category).sum ≤ 8)
    (k : X Γ Ω own cc nL lev ret (pc + 3) L st (upR M b (va_cpy (M.1 a) (M.1 b) sp.toNatClampNeg dp.toNatClampNeg n.toNatClampNeg))) : X Γ Ω own cc nL lev ret pc L (.int n :: .int dp :: .ref (Ω.2.2 b) :: .int sp :: .ref (Ω.2.2 a) :: st) M := by
  obtain ⟨p, l, e, R, s, m, args, below, meth, c, Q, cells, slots⟩ := Γ
  intro Cc H locs ls hl hn hP hS
  obtain ⟨hx, hbc, hml, hown, hts, hK, hA, hlk2, hrt, hfr, hlo, hce, hsl⟩ := id Cc
  refine va_copyi (A := inW Ω) (H0 := s.heap) (ty := .int) hx hbc (hml.trans hl.1.symm) hown (hts _ (hw _ (by simp))) (hts _ (hw _ (by simp))) (hts _ (hw _ (by simp))) (hts _ (hw _ (by simp))) hK.1 hP (va_D_wsO hA M) hS a b 0 0 (by rw [wsO_at Ω M ha, cel_12 hka]) (by rw [wsO_at Ω M hb, cel_12 hkb]) rfl rfl rfl h1 h2 h3 h4 h5 (fun _ _ => rfl) (by omega) ?_ d ?_
  · have : nativeFrameWords "java/lang/System" "arraycopy" 5 + 11 ≤ 32 := by decide +kernel
    omega
  · intro H1 locs1 hP1 hD1 hS1
    have e : (Sum.inl (Ω.2.1 0, ln b, .inl (va_cpy (M.1 a) (M.1 b) sp.toNatClampNeg dp.toNatClampNeg n.toNatClampNeg)) : va_E) = cel Ω (upR M b (va_cpy (M.1 a) (M.1 b) sp.toNatClampNeg dp.toNatClampNeg n.toNatClampNeg)) b := by
      rw [cel_12 hkb, upR_row]
    rw [e, wsO_set Ω M _ hb (fun d _ h => cel_dep (upR_ne M _ h) rfl)] at hP1
    exact k Cc H1 locs1 ls hl hn hP1 hS1
theorem x_bastore {c : Nat} {i x : Int32} (d : decode cc pc = .ok (.bastore, 1)) (hc : c < NC) (hkd : kd c = 13) (hi : vp_in i (ln c)) (hx : x = 0 ∨ x = 1) (kk : X Γ Ω own cc nL lev ret (pc + 1) L st (up1 M c i.toNatClampNeg x)) : X Γ Ω own cc nL lev ret pc L (.int x :: .int i :: .ref (Ω.2.2 c) :: st) M := by
  obtain ⟨p, l, e, R, s, m, args, below, meth, cod, Q, cells, slots⟩ := Γ
  intro C0 H locs ls hl hn hP hS
  refine va_zast (A := inW Ω) (H0 := s.heap) C0.1 C0.2.1 C0.2.2.2.2.2.1.1 hP (va_D_wsO C0.2.2.2.2.2.2.1 M) hS c 1 (by rw [wsO_at Ω M hc, cel_13 hkd]) rfl hi d ?_
  intro H1 locs1 hP1 hD1 hS1
  have hz : vp_nar .boolean x = x := by rcases hx with rfl | rfl <;> rfl
  rw [hz] at hP1
  have e : (Sum.inl (Ω.2.1 1, ln c, .inl (upd (M.1 c) i.toNatClampNeg x)) : va_E) = cel Ω (up1 M c i.toNatClampNeg x) c := by
    rw [cel_13 hkd, up1_row]; rfl
  rw [e, wsO_set Ω M _ hc (fun d _ h => cel_dep (up1_ne M _ _ h) rfl)] at hP1
  exact kk C0 H1 locs1 ls hl hn hP1 hS1
end
