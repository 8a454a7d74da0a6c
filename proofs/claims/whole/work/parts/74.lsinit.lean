/-! LADDERSPRINGS' constructor (laid by gen_ctor2.py) -/
def GE (F : Nat → va_E) (o a1 a4 a5 a8 : va_E) : Nat → va_E := fun j => if j = 0 then o else if j = 1 then a1 else if j = 4 then a4 else if j = 5 then a5 else if j = 8 then a8 else F j
section
variable {F : Nat → va_E} {o o2 a1 a4 a5 a8 x : va_E} {j : Nat}
theorem GE_o (h : j ≠ 0) : GE F o2 a1 a4 a5 a8 j = GE F o a1 a4 a5 a8 j := by unfold GE; rw [if_neg h, if_neg h]
theorem GE_1 (h : j ≠ 1) : GE F o x a4 a5 a8 j = GE F o a1 a4 a5 a8 j := by unfold GE; rw [if_neg h, if_neg h]
theorem GE_4 (h : j ≠ 4) : GE F o a1 x a5 a8 j = GE F o a1 a4 a5 a8 j := by unfold GE; rw [if_neg h, if_neg h]
theorem GE_5 (h : j ≠ 5) : GE F o a1 a4 x a8 j = GE F o a1 a4 a5 a8 j := by unfold GE; rw [if_neg h, if_neg h]
theorem GE_8 (h : j ≠ 8) : GE F o a1 a4 a5 x j = GE F o a1 a4 a5 a8 j := by unfold GE; rw [if_neg h, if_neg h]
theorem GE_F (h : j ≠ 0 ∧ j ≠ 1 ∧ j ≠ 4 ∧ j ≠ 5 ∧ j ≠ 8) : GE F o a1 a4 a5 a8 j = F j := by unfold GE; rw [if_neg h.1, if_neg h.2.1, if_neg h.2.2.1, if_neg h.2.2.2.1, if_neg h.2.2.2.2]
end
section
variable {Γ : Gx} {Ω : Om} {b : Nat} {own : String} {cc : ByteArray} {nL lev : Nat} {ret : Option FieldType} {pc : Nat} {L : List (Option Value)} {st : List Value} {n : Nat} {E : Nat → va_E} {kc ks : Nat}
theorem b_cs {n2 kc2 ks2 : Nat} (hn : n = n2) (hk : kc = kc2) (hs : ks = ks2) (k : XB Γ Ω b own cc nL lev ret pc L st n2 E kc2 ks2) : XB Γ Ω b own cc nL lev ret pc L st n E kc ks := by
  subst hn; subst hk; subst hs; exact k
theorem b_putL {k idx : Nat} {ty : FieldType} {fs : List Value} {v : Value} {F : Nat → va_E} {a1 a4 a5 a8 : va_E} (d : decode cc pc = .ok (.putfield idx, 3)) (hin2 : Γ.2.2.2.2.2.2.2.2.1.name = "<init>") (hk : k < 13) (hlk : Cond.fieldLink RX11 idx (TX11 k).1 (TX11 k).2.1 (TX11 k).2.2.1 ∈ tbw) (hfin : (TX11 k).2.2.2 = true) (hdc : (TX11 k).1 = RX11) (hd : parseFieldDescriptor (TX11 k).2.2.1 = some ty) (hnar : narrow ty v = v) (hfit : fits ty v = true)
    (hi : 0 < n) (hlen : k < fs.length) (kk : XB Γ Ω b RX11 cc nL lev ret (pc + 3) L st n (GE F (.inr (10, fs.set k v)) a1 a4 a5 a8) kc ks) : XB Γ Ω b RX11 cc nL lev ret pc L (v :: .ref (b + 0) :: st) n (GE F (.inr (10, fs)) a1 a4 a5 a8) kc ks :=
  b_putF (GE F (.inr (10, fs.set k v)) a1 a4 a5 a8) d hin2 inX11 tyX11_ok nmX11 (ci := 10) rfl hk hlk hfin hdc hd hnar hfit hi rfl hlen rfl (fun j _ h => GE_o h) kk
end
section
variable {D : va_G} {A : Nat → ClassId} {b : Nat} {l : Launch}

set_option maxRecDepth 100000 in
set_option maxHeartbeats 4000000 in
theorem ls_rows {Γ : Gx} (hc0 : 273 ≤ Γ.2.2.2.2.2.2.2.2.2.2.2.1) (hs0 : 2467 ≤ Γ.2.2.2.2.2.2.2.2.2.2.2.2) {lev : Nat} (hlev : 4 ≤ lev) {fs : List Value} {a4 a5 a8 : va_E} (hfs : fs[0]? = some (.ref (b + 1)))
    (kend : XB Γ (mkO D A b) b RX11 cX11_init 3 lev none 175 [some (.ref (b + 0)), some (.ref (b + 8)), some (.int (nI 8))] [] (50 + 2 * 8) (GE (FF D A b) (.inr (10, fs)) (aR (mkO D A b) 4 8 (pf b 50 2 (8))) a4 a5 a8) (49 + 2 * 8) (459 + 43 * 8)) :
    ∀ (d i : Nat), i + d = 8 → XB Γ (mkO D A b) b RX11 cX11_init 3 lev none 150 [some (.ref (b + 0)), some (.ref (b + 8)), some (.int (nI i))] [] (50 + 2 * i) (GE (FF D A b) (.inr (10, fs)) (aR (mkO D A b) 4 8 (pf b 50 2 (i))) a4 a5 a8) (49 + 2 * i) (459 + 43 * i) := by
  intro d
  induction d with
  | zero =>
    intro i hi
    have hi : i = 8 := by omega
    subst hi
    refine b_iload_n dX11_init_150 rfl ?_
    refine b_bipush (v := nI 8) dX11_init_151 rfl ?_
    refine b_icmp_ge (by decide) (by decide) 175 dX11_init_153 (fun _ => ?_) (fun h => absurd h (by omega))
    exact kend
  | succ d ih =>
    intro i hi
    have hi8 : i < 8 := by omega
    refine b_iload_n dX11_init_150 rfl ?_
    refine b_bipush (v := nI 8) dX11_init_151 rfl ?_
    refine b_icmp_ge (by omega) (by decide) 175 dX11_init_153 (fun h => absurd h (by omega)) (fun _ => ?_)
    refine b_aload_n dX11_init_156 rfl ?_
    refine b_get dX11_init_157 inX11 (ci := 10) rfl (k := 0) (by decide) (tb 351 (by decide +kernel) (by decide +kernel)) (by omega) rfl hfs ?_
    refine b_iload_n dX11_init_160 rfl ?_
    refine b_new (wE (GE (FF D A b) (.inr (10, fs)) (aR (mkO D A b) 4 8 (pf b 50 2 (i))) a4 a5 a8) (50 + 2 * i) (.inr (8, [.null, .int 0, .int 0]))) dX11_init_161 inX9 tyX9_ok (ci := 8) rfl (tb 100 (by decide +kernel) (by decide +kernel)) (tb 332 (by decide +kernel) (by decide +kernel)) (tb 88 (by decide +kernel) (by decide +kernel)) (by decide +kernel) wE_eq (fun j hj => wE_ne (by omega)) (by omega) (by omega) ?_
    refine b_dup dX11_init_164 rfl ?_
    have hrw := FF_row (D := D) (A := A) (b := b) hi8
    have hg : GE (FF D A b) (.inr (10, fs)) (aR (mkO D A b) 4 8 (pf b 50 2 (i))) a4 a5 a8 (50 + 2 * i) = .inr (8, [.ref (b + ((50 + 2 * i) + 1)), .int 0, .int (-1)]) := (GE_F (by omega)).trans hrw.1
    have hg1 : GE (FF D A b) (.inr (10, fs)) (aR (mkO D A b) 4 8 (pf b 50 2 (i))) a4 a5 a8 ((50 + 2 * i) + 1) = FF D A b ((50 + 2 * i) + 1) := GE_F (by omega)
    refine b_callN (nn := 0) (cb_row (E' := GE (FF D A b) (.inr (10, fs)) (aR (mkO D A b) 4 8 (pf b 50 2 (i))) a4 a5 a8) wE_eq (fun j hj => (wE_ne (by omega)).symm) hg (by rw [hg1]; exact hrw.2)) dX11_init_165 (by simp [nst]) (tb 334 (by decide +kernel) (by decide +kernel)) (tb 88 (by decide +kernel) (by decide +kernel)) (tb 335 (by decide +kernel) (by decide +kernel)) rfl (by decide +kernel) (by omega) (by decide) rfl rfl (Nat.le_of_ble_eq_true rfl) (by omega) rfl (by omega) (by omega) ?_
    refine b_ast (GE (FF D A b) (.inr (10, fs)) (aR (mkO D A b) 4 8 (pf b 50 2 (i + 1))) a4 a5 a8) dX11_init_168 (i := 1) (t := 4) (q := (50 + 2 * i)) (ci := 8) (by omega) (by omega) rfl rfl hg rfl hi8 (by decide) (congrArg (aR (mkO D A b) 4 8) pf_up).symm (fun j _ h => GE_1 h) ?_
    refine b_iinc (v := nI (i + 1)) dX11_init_169 rfl (by rw [nI_succ]; rfl) ?_
    refine b_goto 150 dX11_init_172 ?_
    refine b_cs (by omega) (by omega) (by omega) (ih (i + 1) (by omega))
set_option maxRecDepth 100000 in
set_option maxHeartbeats 4000000 in
theorem ls_acts {Γ : Gx} (hc0 : 273 ≤ Γ.2.2.2.2.2.2.2.2.2.2.2.1) (hs0 : 2467 ≤ Γ.2.2.2.2.2.2.2.2.2.2.2.2) {lev : Nat} (hlev : 4 ≤ lev) {fs : List Value} {a1 a5 a8 : va_E} (hfs : fs[4]? = some (.ref (b + 4)))
    (kend : XB Γ (mkO D A b) b RX11 cX11_init 3 lev none 203 [some (.ref (b + 0)), some (.ref (b + 8)), some (.int (nI 24))] [] (66 + 8 * 24) (GE (FF D A b) (.inr (10, fs)) a1 (aR (mkO D A b) 3 24 (pf b 66 8 (24))) a5 a8) (65 + 8 * 24) (803 + 64 * 24)) :
    ∀ (d i : Nat), i + d = 24 → XB Γ (mkO D A b) b RX11 cX11_init 3 lev none 177 [some (.ref (b + 0)), some (.ref (b + 8)), some (.int (nI i))] [] (66 + 8 * i) (GE (FF D A b) (.inr (10, fs)) a1 (aR (mkO D A b) 3 24 (pf b 66 8 (i))) a5 a8) (65 + 8 * i) (803 + 64 * i) := by
  intro d
  induction d with
  | zero =>
    intro i hi
    have hi : i = 24 := by omega
    subst hi
    refine b_iload_n dX11_init_177 rfl ?_
    refine b_bipush (v := nI 24) dX11_init_178 rfl ?_
    refine b_icmp_ge (by decide) (by decide) 203 dX11_init_180 (fun _ => ?_) (fun h => absurd h (by omega))
    exact kend
  | succ d ih =>
    intro i hi
    have hi8 : i < 24 := by omega
    refine b_iload_n dX11_init_177 rfl ?_
    refine b_bipush (v := nI 24) dX11_init_178 rfl ?_
    refine b_icmp_ge (by omega) (by decide) 203 dX11_init_180 (fun h => absurd h (by omega)) (fun _ => ?_)
    refine b_aload_n dX11_init_183 rfl ?_
    refine b_get dX11_init_184 inX11 (ci := 10) rfl (k := 4) (by decide) (tb 355 (by decide +kernel) (by decide +kernel)) (by omega) rfl hfs ?_
    refine b_iload_n dX11_init_187 rfl ?_
    refine b_new (wE (GE (FF D A b) (.inr (10, fs)) a1 (aR (mkO D A b) 3 24 (pf b 66 8 (i))) a5 a8) (66 + 8 * i) lk0) dX11_init_188 inX8 tyX8_ok (ci := 7) rfl (tb 134 (by decide +kernel) (by decide +kernel)) (tb 203 (by decide +kernel) (by decide +kernel)) (tb 86 (by decide +kernel) (by decide +kernel)) (by decide +kernel) wE_eq (fun j hj => wE_ne (by omega)) (by omega) (by omega) ?_
    refine b_dup dX11_init_191 rfl ?_
    refine b_aload_n dX11_init_192 rfl ?_
    have hlk : LkAt (mkO D A b) b (b + 8) (FF D A b) (66 + 8 * i) := (FF_lkA (i := i) (by omega))
    have hlk2 : LkAt (mkO D A b) b (b + 8) (GE (FF D A b) (.inr (10, fs)) a1 (aR (mkO D A b) 3 24 (pf b 66 8 (i))) a5 a8) (66 + 8 * i) := hlk.congr (fun k hk => GE_F (by omega))
    refine b_call (nn := 1) (cb_lake (E' := GE (FF D A b) (.inr (10, fs)) a1 (aR (mkO D A b) 3 24 (pf b 66 8 (i))) a5 a8) wE_eq (fun j hj => (wE_ne (by omega)).symm) hlk2) dX11_init_193 (tb 204 (by decide +kernel) (by decide +kernel)) (tb 205 (by decide +kernel) (by decide +kernel)) (tb 86 (by decide +kernel) (by decide +kernel)) (tb 206 (by decide +kernel) (by decide +kernel)) rfl (by decide +kernel) (by omega) (by decide) rfl rfl (Nat.le_of_ble_eq_true rfl) (by omega) rfl (by omega) (by omega) ?_
    refine b_ast (GE (FF D A b) (.inr (10, fs)) a1 (aR (mkO D A b) 3 24 (pf b 66 8 (i + 1))) a5 a8) dX11_init_196 (i := 4) (t := 3) (q := (66 + 8 * i)) (ci := 7) (by omega) (by omega) rfl rfl hlk2.1 rfl hi8 (by decide) (congrArg (aR (mkO D A b) 3 24) pf_up).symm (fun j _ h => GE_4 h) ?_
    refine b_iinc (v := nI (i + 1)) dX11_init_197 rfl (by rw [nI_succ]; rfl) ?_
    refine b_goto 177 dX11_init_200 ?_
    refine b_cs (by omega) (by omega) (by omega) (ih (i + 1) (by omega))
set_option maxRecDepth 100000 in
set_option maxHeartbeats 4000000 in
theorem ls_imgs {Γ : Gx} (hc0 : 273 ≤ Γ.2.2.2.2.2.2.2.2.2.2.2.1) (hs0 : 2467 ≤ Γ.2.2.2.2.2.2.2.2.2.2.2.2) {lev : Nat} (hlev : 4 ≤ lev) {fs : List Value} {a1 a4 a8 : va_E} (hfs : fs[5]? = some (.ref (b + 5)))
    (kend : XB Γ (mkO D A b) b RX11 cX11_init 3 lev none 230 [some (.ref (b + 0)), some (.ref (b + 8)), some (.int (nI 2))] [] (258 + 8 * 2) (GE (FF D A b) (.inr (10, fs)) a1 a4 (aR (mkO D A b) 3 2 (pf b 258 8 (2))) a8) (257 + 8 * 2) (2339 + 64 * 2)) :
    ∀ (d i : Nat), i + d = 2 → XB Γ (mkO D A b) b RX11 cX11_init 3 lev none 205 [some (.ref (b + 0)), some (.ref (b + 8)), some (.int (nI i))] [] (258 + 8 * i) (GE (FF D A b) (.inr (10, fs)) a1 a4 (aR (mkO D A b) 3 2 (pf b 258 8 (i))) a8) (257 + 8 * i) (2339 + 64 * i) := by
  intro d
  induction d with
  | zero =>
    intro i hi
    have hi : i = 2 := by omega
    subst hi
    refine b_iload_n dX11_init_205 rfl ?_
    refine b_iconst (v := nI 2) dX11_init_206 rfl ?_
    refine b_icmp_ge (by decide) (by decide) 230 dX11_init_207 (fun _ => ?_) (fun h => absurd h (by omega))
    exact kend
  | succ d ih =>
    intro i hi
    have hi8 : i < 2 := by omega
    refine b_iload_n dX11_init_205 rfl ?_
    refine b_iconst (v := nI 2) dX11_init_206 rfl ?_
    refine b_icmp_ge (by omega) (by decide) 230 dX11_init_207 (fun h => absurd h (by omega)) (fun _ => ?_)
    refine b_aload_n dX11_init_210 rfl ?_
    refine b_get dX11_init_211 inX11 (ci := 10) rfl (k := 5) (by decide) (tb 356 (by decide +kernel) (by decide +kernel)) (by omega) rfl hfs ?_
    refine b_iload_n dX11_init_214 rfl ?_
    refine b_new (wE (GE (FF D A b) (.inr (10, fs)) a1 a4 (aR (mkO D A b) 3 2 (pf b 258 8 (i))) a8) (258 + 8 * i) lk0) dX11_init_215 inX8 tyX8_ok (ci := 7) rfl (tb 134 (by decide +kernel) (by decide +kernel)) (tb 203 (by decide +kernel) (by decide +kernel)) (tb 86 (by decide +kernel) (by decide +kernel)) (by decide +kernel) wE_eq (fun j hj => wE_ne (by omega)) (by omega) (by omega) ?_
    refine b_dup dX11_init_218 rfl ?_
    refine b_aload_n dX11_init_219 rfl ?_
    have hlk : LkAt (mkO D A b) b (b + 8) (FF D A b) (258 + 8 * i) := (by rw [show 258 + 8 * i = 66 + 8 * (24 + i) by omega]; exact FF_lkA (i := 24 + i) (by omega))
    have hlk2 : LkAt (mkO D A b) b (b + 8) (GE (FF D A b) (.inr (10, fs)) a1 a4 (aR (mkO D A b) 3 2 (pf b 258 8 (i))) a8) (258 + 8 * i) := hlk.congr (fun k hk => GE_F (by omega))
    refine b_call (nn := 1) (cb_lake (E' := GE (FF D A b) (.inr (10, fs)) a1 a4 (aR (mkO D A b) 3 2 (pf b 258 8 (i))) a8) wE_eq (fun j hj => (wE_ne (by omega)).symm) hlk2) dX11_init_220 (tb 204 (by decide +kernel) (by decide +kernel)) (tb 205 (by decide +kernel) (by decide +kernel)) (tb 86 (by decide +kernel) (by decide +kernel)) (tb 206 (by decide +kernel) (by decide +kernel)) rfl (by decide +kernel) (by omega) (by decide) rfl rfl (Nat.le_of_ble_eq_true rfl) (by omega) rfl (by omega) (by omega) ?_
    refine b_ast (GE (FF D A b) (.inr (10, fs)) a1 a4 (aR (mkO D A b) 3 2 (pf b 258 8 (i + 1))) a8) dX11_init_223 (i := 5) (t := 3) (q := (258 + 8 * i)) (ci := 7) (by omega) (by omega) rfl rfl hlk2.1 rfl hi8 (by decide) (congrArg (aR (mkO D A b) 3 2) pf_up).symm (fun j _ h => GE_5 h) ?_
    refine b_iinc (v := nI (i + 1)) dX11_init_224 rfl (by rw [nI_succ]; rfl) ?_
    refine b_goto 205 dX11_init_227 ?_
    refine b_cs (by omega) (by omega) (by omega) (ih (i + 1) (by omega))
set_option maxRecDepth 100000 in
set_option maxHeartbeats 8000000 in
theorem cb_ls {E : Nat → va_E} (h0 : E 0 = .inr (10, [.null, .null, .null, .null, .null, .null, .null, .null, .int 0, .int 0, .int 0, .int 0, .int 0])) : CtB (mkO D A b) b l yX11_init cX11_init 3 4 [.ref (b + 0)] 1 E 274 (FF D A b) 273 2467 := by
  refine ctB_of (by decide) rfl (Nat.le_of_ble_eq_true rfl) ?_
  intro p e R s m args below meth c hin
  refine b_congr (GE (FF D A b) (.inr (10, [.null, .null, .null, .null, .null, .null, .null, .null, .int 0, .int 0, .int 0, .int 0, .int 0])) (aR (mkO D A b) 4 8 (pf b 50 2 0)) (aR (mkO D A b) 3 24 (pf b 66 8 0)) (aR (mkO D A b) 3 2 (pf b 258 8 0)) (aR (mkO D A b) 2 6 (kf b 0))) (fun j hj => ?_) ?_
  · have : j = 0 := by omega
    rw [this, h0]; rfl
  refine b_aload_n dX11_init_0 rfl ?_
  refine b_obj dX11_init_1 (tb 97 (by decide +kernel) (by decide +kernel)) (tb 98 (by decide +kernel) (by decide +kernel)) (tb 99 (by decide +kernel) (by decide +kernel)) (by decide) (Nat.le_of_ble_eq_true rfl) ?_
  refine b_aload_n dX11_init_4 rfl ?_
  refine b_bipush (v := nI 8) dX11_init_5 rfl ?_
  refine b_newq (z := 8) (t := 4) (C := RX9) (GE (FF D A b) (.inr (10, [.null, .null, .null, .null, .null, .null, .null, .null, .int 0, .int 0, .int 0, .int 0, .int 0])) (aR (mkO D A b) 4 8 (pf b 50 2 0)) (aR (mkO D A b) 3 24 (pf b 66 8 0)) (aR (mkO D A b) 3 2 (pf b 258 8 0)) (aR (mkO D A b) 2 6 (kf b 0))) dX11_init_7 (tb 100 (by decide +kernel) (by decide +kernel)) (by simp [aos]) rfl (by decide) (congrArg (aR (mkO D A b) 4 8) pf_0) (fun _ _ => rfl) (Nat.le_of_ble_eq_true rfl) (Nat.le_of_ble_eq_true rfl) ?_
  show XB _ _ _ _ _ _ _ _ _ _ _ 2 _ 1 8
  refine b_putL dX11_init_10 hin (k := 0) (by decide) (tb 351 (by decide +kernel) (by decide +kernel)) rfl rfl (ty := .array (.object "LadderSprings$Row")) (by decide +kernel) rfl rfl (by decide) (Nat.le_of_ble_eq_true rfl) ?_
  show XB _ _ _ _ _ _ _ _ _ _ _ 2 (GE (FF D A b) (.inr (10, [.ref (b + 1), .null, .null, .null, .null, .null, .null, .null, .int 0, .int 0, .int 0, .int 0, .int 0])) (aR (mkO D A b) 4 8 (pf b 50 2 0)) (aR (mkO D A b) 3 24 (pf b 66 8 0)) (aR (mkO D A b) 3 2 (pf b 258 8 0)) (aR (mkO D A b) 2 6 (kf b 0))) 1 8
  refine b_aload_n dX11_init_13 rfl ?_
  refine b_new (wE (GE (FF D A b) (.inr (10, [.ref (b + 1), .null, .null, .null, .null, .null, .null, .null, .int 0, .int 0, .int 0, .int 0, .int 0])) (aR (mkO D A b) 4 8 (pf b 50 2 0)) (aR (mkO D A b) 3 24 (pf b 66 8 0)) (aR (mkO D A b) 3 2 (pf b 258 8 0)) (aR (mkO D A b) 2 6 (kf b 0))) 2 (.inr (9, [.null, .int 0, .int 0, .int 0, .int 0, .int 0, .int 0]))) dX11_init_14 inX10 tyX10_ok (ci := 9) rfl (tb 102 (by decide +kernel) (by decide +kernel)) (tb 103 (by decide +kernel) (by decide +kernel)) (tb 78 (by decide +kernel) (by decide +kernel)) (by decide +kernel) wE_eq (fun j hj => wE_ne (by omega)) (Nat.le_of_ble_eq_true rfl) (Nat.le_of_ble_eq_true rfl) ?_
  show XB _ _ _ _ _ _ _ _ _ _ _ 3 _ 2 15
  refine b_dup dX11_init_17 rfl ?_
  refine b_callN (nn := 0) (cb_tape (n := 2) (E' := GE (FF D A b) (.inr (10, [.ref (b + 1), .null, .null, .null, .null, .null, .null, .null, .int 0, .int 0, .int 0, .int 0, .int 0])) (aR (mkO D A b) 4 8 (pf b 50 2 0)) (aR (mkO D A b) 3 24 (pf b 66 8 0)) (aR (mkO D A b) 3 2 (pf b 258 8 0)) (aR (mkO D A b) 2 6 (kf b 0))) wE_eq (fun j hj => (wE_ne (by omega)).symm) rfl (FF_ZA (j := 3) rfl rfl (by decide) (by decide))) dX11_init_18 (by simp [nst]) (tb 105 (by decide +kernel) (by decide +kernel)) (tb 78 (by decide +kernel) (by decide +kernel)) (tb 106 (by decide +kernel) (by decide +kernel)) rfl (by decide +kernel) (by decide) (by decide) rfl rfl (Nat.le_of_ble_eq_true rfl) (by decide) rfl (Nat.le_of_ble_eq_true rfl) (Nat.le_of_ble_eq_true rfl) ?_
  show XB _ _ _ _ _ _ _ _ _ _ _ 4 _ 3 115
  refine b_putL dX11_init_21 hin (k := 1) (by decide) (tb 352 (by decide +kernel) (by decide +kernel)) rfl rfl (ty := .object "LadderSprings$Tape") (by decide +kernel) rfl rfl (by decide) (Nat.le_of_ble_eq_true rfl) ?_
  show XB _ _ _ _ _ _ _ _ _ _ _ 4 (GE (FF D A b) (.inr (10, [.ref (b + 1), .ref (b + 2), .null, .null, .null, .null, .null, .null, .int 0, .int 0, .int 0, .int 0, .int 0])) (aR (mkO D A b) 4 8 (pf b 50 2 0)) (aR (mkO D A b) 3 24 (pf b 66 8 0)) (aR (mkO D A b) 3 2 (pf b 258 8 0)) (aR (mkO D A b) 2 6 (kf b 0))) 3 115
  refine b_aload_n dX11_init_24 rfl ?_
  refine b_bipush (v := nI 24) dX11_init_25 rfl ?_
  refine b_newq (z := 24) (t := 3) (C := RX8) (GE (FF D A b) (.inr (10, [.ref (b + 1), .ref (b + 2), .null, .null, .null, .null, .null, .null, .int 0, .int 0, .int 0, .int 0, .int 0])) (aR (mkO D A b) 4 8 (pf b 50 2 0)) (aR (mkO D A b) 3 24 (pf b 66 8 0)) (aR (mkO D A b) 3 2 (pf b 258 8 0)) (aR (mkO D A b) 2 6 (kf b 0))) dX11_init_27 (tb 134 (by decide +kernel) (by decide +kernel)) (by simp [aos]) rfl (by decide) (congrArg (aR (mkO D A b) 3 24) pf_0) (fun _ _ => rfl) (Nat.le_of_ble_eq_true rfl) (Nat.le_of_ble_eq_true rfl) ?_
  show XB _ _ _ _ _ _ _ _ _ _ _ 5 _ 4 139
  refine b_putL dX11_init_30 hin (k := 4) (by decide) (tb 355 (by decide +kernel) (by decide +kernel)) rfl rfl (ty := .array (.object "LadderSprings$Lake")) (by decide +kernel) rfl rfl (by decide) (Nat.le_of_ble_eq_true rfl) ?_
  show XB _ _ _ _ _ _ _ _ _ _ _ 5 (GE (FF D A b) (.inr (10, [.ref (b + 1), .ref (b + 2), .null, .null, .ref (b + 4), .null, .null, .null, .int 0, .int 0, .int 0, .int 0, .int 0])) (aR (mkO D A b) 4 8 (pf b 50 2 0)) (aR (mkO D A b) 3 24 (pf b 66 8 0)) (aR (mkO D A b) 3 2 (pf b 258 8 0)) (aR (mkO D A b) 2 6 (kf b 0))) 4 139
  refine b_aload_n dX11_init_33 rfl ?_
  refine b_iconst (v := nI 2) dX11_init_34 rfl ?_
  refine b_newq (z := 2) (t := 3) (C := RX8) (GE (FF D A b) (.inr (10, [.ref (b + 1), .ref (b + 2), .null, .null, .ref (b + 4), .null, .null, .null, .int 0, .int 0, .int 0, .int 0, .int 0])) (aR (mkO D A b) 4 8 (pf b 50 2 0)) (aR (mkO D A b) 3 24 (pf b 66 8 0)) (aR (mkO D A b) 3 2 (pf b 258 8 0)) (aR (mkO D A b) 2 6 (kf b 0))) dX11_init_35 (tb 134 (by decide +kernel) (by decide +kernel)) (by simp [aos]) rfl (by decide) (congrArg (aR (mkO D A b) 3 2) pf_0) (fun _ _ => rfl) (Nat.le_of_ble_eq_true rfl) (Nat.le_of_ble_eq_true rfl) ?_
  show XB _ _ _ _ _ _ _ _ _ _ _ 6 _ 5 141
  refine b_putL dX11_init_38 hin (k := 5) (by decide) (tb 356 (by decide +kernel) (by decide +kernel)) rfl rfl (ty := .array (.object "LadderSprings$Lake")) (by decide +kernel) rfl rfl (by decide) (Nat.le_of_ble_eq_true rfl) ?_
  show XB _ _ _ _ _ _ _ _ _ _ _ 6 (GE (FF D A b) (.inr (10, [.ref (b + 1), .ref (b + 2), .null, .null, .ref (b + 4), .ref (b + 5), .null, .null, .int 0, .int 0, .int 0, .int 0, .int 0])) (aR (mkO D A b) 4 8 (pf b 50 2 0)) (aR (mkO D A b) 3 24 (pf b 66 8 0)) (aR (mkO D A b) 3 2 (pf b 258 8 0)) (aR (mkO D A b) 2 6 (kf b 0))) 5 141
  refine b_aload_n dX11_init_41 rfl ?_
  refine b_new (wE (GE (FF D A b) (.inr (10, [.ref (b + 1), .ref (b + 2), .null, .null, .ref (b + 4), .ref (b + 5), .null, .null, .int 0, .int 0, .int 0, .int 0, .int 0])) (aR (mkO D A b) 4 8 (pf b 50 2 0)) (aR (mkO D A b) 3 24 (pf b 66 8 0)) (aR (mkO D A b) 3 2 (pf b 258 8 0)) (aR (mkO D A b) 2 6 (kf b 0))) 6 (.inr (0, [.null, .int 0, .int 0, .int 0, .int 0]))) dX11_init_42 inX0 tyX0_ok (ci := 0) rfl (tb 136 (by decide +kernel) (by decide +kernel)) (tb 137 (by decide +kernel) (by decide +kernel)) (tb 79 (by decide +kernel) (by decide +kernel)) (by decide +kernel) wE_eq (fun j hj => wE_ne (by omega)) (Nat.le_of_ble_eq_true rfl) (Nat.le_of_ble_eq_true rfl) ?_
  show XB _ _ _ _ _ _ _ _ _ _ _ 7 _ 6 146
  refine b_dup dX11_init_45 rfl ?_
  refine b_callN (nn := 0) (cb_asked (n := 6) (E' := GE (FF D A b) (.inr (10, [.ref (b + 1), .ref (b + 2), .null, .null, .ref (b + 4), .ref (b + 5), .null, .null, .int 0, .int 0, .int 0, .int 0, .int 0])) (aR (mkO D A b) 4 8 (pf b 50 2 0)) (aR (mkO D A b) 3 24 (pf b 66 8 0)) (aR (mkO D A b) 3 2 (pf b 258 8 0)) (aR (mkO D A b) 2 6 (kf b 0))) wE_eq (fun j hj => (wE_ne (by omega)).symm) rfl (FF_ZA (j := 7) rfl rfl (by decide) (by decide))) dX11_init_46 (by simp [nst]) (tb 139 (by decide +kernel) (by decide +kernel)) (tb 79 (by decide +kernel) (by decide +kernel)) (tb 140 (by decide +kernel) (by decide +kernel)) rfl (by decide +kernel) (by decide) (by decide) rfl rfl (Nat.le_of_ble_eq_true rfl) (by decide) rfl (Nat.le_of_ble_eq_true rfl) (Nat.le_of_ble_eq_true rfl) ?_
  show XB _ _ _ _ _ _ _ _ _ _ _ 8 _ 7 162
  refine b_putL dX11_init_49 hin (k := 7) (by decide) (tb 358 (by decide +kernel) (by decide +kernel)) rfl rfl (ty := .object "LadderSprings$Asked") (by decide +kernel) rfl rfl (by decide) (Nat.le_of_ble_eq_true rfl) ?_
  show XB _ _ _ _ _ _ _ _ _ _ _ 8 (GE (FF D A b) (.inr (10, [.ref (b + 1), .ref (b + 2), .null, .null, .ref (b + 4), .ref (b + 5), .null, .ref (b + 6), .int 0, .int 0, .int 0, .int 0, .int 0])) (aR (mkO D A b) 4 8 (pf b 50 2 0)) (aR (mkO D A b) 3 24 (pf b 66 8 0)) (aR (mkO D A b) 3 2 (pf b 258 8 0)) (aR (mkO D A b) 2 6 (kf b 0))) 7 162
  refine b_bipush (v := nI 6) dX11_init_52 rfl ?_
  refine b_newq (z := 6) (t := 2) (C := RX7) (GE (FF D A b) (.inr (10, [.ref (b + 1), .ref (b + 2), .null, .null, .ref (b + 4), .ref (b + 5), .null, .ref (b + 6), .int 0, .int 0, .int 0, .int 0, .int 0])) (aR (mkO D A b) 4 8 (pf b 50 2 0)) (aR (mkO D A b) 3 24 (pf b 66 8 0)) (aR (mkO D A b) 3 2 (pf b 258 8 0)) (aR (mkO D A b) 2 6 (kf b 0))) dX11_init_54 (tb 163 (by decide +kernel) (by decide +kernel)) (by simp [aos]) rfl (by decide) (congrArg (aR (mkO D A b) 2 6) kf_0) (fun _ _ => rfl) (Nat.le_of_ble_eq_true rfl) (Nat.le_of_ble_eq_true rfl) ?_
  show XB _ _ _ _ _ _ _ _ _ _ _ 9 _ 8 168
  refine b_dup dX11_init_57 rfl ?_
  refine b_iconst (v := nI 0) dX11_init_58 rfl ?_
  refine b_null dX11_init_59 ?_
  refine b_astN (GE (FF D A b) (.inr (10, [.ref (b + 1), .ref (b + 2), .null, .null, .ref (b + 4), .ref (b + 5), .null, .ref (b + 6), .int 0, .int 0, .int 0, .int 0, .int 0])) (aR (mkO D A b) 4 8 (pf b 50 2 0)) (aR (mkO D A b) 3 24 (pf b 66 8 0)) (aR (mkO D A b) 3 2 (pf b 258 8 0)) (aR (mkO D A b) 2 6 (kf b 1))) dX11_init_60 (i := 8) (z := 6) (k := 0) (by decide) rfl (by decide) (by decide) (congrArg (aR (mkO D A b) 2 6) kf_1).symm (fun j _ h => GE_8 h) ?_
  refine b_dup dX11_init_61 rfl ?_
  refine b_iconst (v := nI 1) dX11_init_62 rfl ?_
  refine b_new (GE (FF D A b) (.inr (10, [.ref (b + 1), .ref (b + 2), .null, .null, .ref (b + 4), .ref (b + 5), .null, .ref (b + 6), .int 0, .int 0, .int 0, .int 0, .int 0])) (aR (mkO D A b) 4 8 (pf b 50 2 0)) (aR (mkO D A b) 3 24 (pf b 66 8 0)) (aR (mkO D A b) 3 2 (pf b 258 8 0)) (aR (mkO D A b) 2 6 (kf b 1))) dX11_init_63 inX1 tyX1_ok (ci := 1) rfl (tb 165 (by decide +kernel) (by decide +kernel)) (tb 166 (by decide +kernel) (by decide +kernel)) (tb 81 (by decide +kernel) (by decide +kernel)) (fun j hj => absurd hj (Nat.not_lt_zero _)) rfl (fun _ _ => rfl) (Nat.le_of_ble_eq_true rfl) (Nat.le_of_ble_eq_true rfl) ?_
  show XB _ _ _ _ _ _ _ _ _ _ _ 10 _ 9 168
  refine b_dup dX11_init_66 rfl ?_
  refine b_callN (nn := 0) (cb_climber (i := 9) (by decide)) dX11_init_67 (by simp [nst]) (tb 168 (by decide +kernel) (by decide +kernel)) (tb 81 (by decide +kernel) (by decide +kernel)) (tb 169 (by decide +kernel) (by decide +kernel)) rfl (by decide +kernel) (by decide) (by decide) rfl rfl (Nat.le_of_ble_eq_true rfl) (by decide) rfl (Nat.le_of_ble_eq_true rfl) (Nat.le_of_ble_eq_true rfl) ?_
  show XB _ _ _ _ _ _ _ _ _ _ _ 10 _ 9 168
  refine b_astG (GE (FF D A b) (.inr (10, [.ref (b + 1), .ref (b + 2), .null, .null, .ref (b + 4), .ref (b + 5), .null, .ref (b + 6), .int 0, .int 0, .int 0, .int 0, .int 0])) (aR (mkO D A b) 4 8 (pf b 50 2 0)) (aR (mkO D A b) 3 24 (pf b 66 8 0)) (aR (mkO D A b) 3 2 (pf b 258 8 0)) (aR (mkO D A b) 2 6 (kf b 2))) dX11_init_70 (i := 8) (z := 6) (k := 1) (q := 9) (ci := 1) (by decide) (by decide) rfl (by simp [gsK]) rfl rfl (by decide) (by decide) (congrArg (aR (mkO D A b) 2 6) (kf_up (k := 1) (by decide))).symm (fun j _ h => GE_8 h) ?_
  refine b_dup dX11_init_71 rfl ?_
  refine b_iconst (v := nI 2) dX11_init_72 rfl ?_
  refine b_new (GE (FF D A b) (.inr (10, [.ref (b + 1), .ref (b + 2), .null, .null, .ref (b + 4), .ref (b + 5), .null, .ref (b + 6), .int 0, .int 0, .int 0, .int 0, .int 0])) (aR (mkO D A b) 4 8 (pf b 50 2 0)) (aR (mkO D A b) 3 24 (pf b 66 8 0)) (aR (mkO D A b) 3 2 (pf b 258 8 0)) (aR (mkO D A b) 2 6 (kf b 2))) dX11_init_73 inX3 tyX3_ok (ci := 3) rfl (tb 175 (by decide +kernel) (by decide +kernel)) (tb 176 (by decide +kernel) (by decide +kernel)) (tb 82 (by decide +kernel) (by decide +kernel)) (fun j hj => absurd hj (Nat.not_lt_zero _)) rfl (fun _ _ => rfl) (Nat.le_of_ble_eq_true rfl) (Nat.le_of_ble_eq_true rfl) ?_
  show XB _ _ _ _ _ _ _ _ _ _ _ 11 _ 10 168
  refine b_dup dX11_init_76 rfl ?_
  refine b_callN (nn := 0) (cb_draper (i := 10) (by decide)) dX11_init_77 (by simp [nst]) (tb 178 (by decide +kernel) (by decide +kernel)) (tb 82 (by decide +kernel) (by decide +kernel)) (tb 179 (by decide +kernel) (by decide +kernel)) rfl (by decide +kernel) (by decide) (by decide) rfl rfl (Nat.le_of_ble_eq_true rfl) (by decide) rfl (Nat.le_of_ble_eq_true rfl) (Nat.le_of_ble_eq_true rfl) ?_
  show XB _ _ _ _ _ _ _ _ _ _ _ 11 _ 10 168
  refine b_astG (GE (FF D A b) (.inr (10, [.ref (b + 1), .ref (b + 2), .null, .null, .ref (b + 4), .ref (b + 5), .null, .ref (b + 6), .int 0, .int 0, .int 0, .int 0, .int 0])) (aR (mkO D A b) 4 8 (pf b 50 2 0)) (aR (mkO D A b) 3 24 (pf b 66 8 0)) (aR (mkO D A b) 3 2 (pf b 258 8 0)) (aR (mkO D A b) 2 6 (kf b 3))) dX11_init_80 (i := 8) (z := 6) (k := 2) (q := 10) (ci := 3) (by decide) (by decide) rfl (by simp [gsK]) rfl rfl (by decide) (by decide) (congrArg (aR (mkO D A b) 2 6) (kf_up (k := 2) (by decide))).symm (fun j _ h => GE_8 h) ?_
  refine b_dup dX11_init_81 rfl ?_
  refine b_iconst (v := nI 3) dX11_init_82 rfl ?_
  refine b_new (GE (FF D A b) (.inr (10, [.ref (b + 1), .ref (b + 2), .null, .null, .ref (b + 4), .ref (b + 5), .null, .ref (b + 6), .int 0, .int 0, .int 0, .int 0, .int 0])) (aR (mkO D A b) 4 8 (pf b 50 2 0)) (aR (mkO D A b) 3 24 (pf b 66 8 0)) (aR (mkO D A b) 3 2 (pf b 258 8 0)) (aR (mkO D A b) 2 6 (kf b 3))) dX11_init_83 inX2 tyX2_ok (ci := 2) rfl (tb 182 (by decide +kernel) (by decide +kernel)) (tb 183 (by decide +kernel) (by decide +kernel)) (tb 83 (by decide +kernel) (by decide +kernel)) (fun j hj => absurd hj (Nat.not_lt_zero _)) rfl (fun _ _ => rfl) (Nat.le_of_ble_eq_true rfl) (Nat.le_of_ble_eq_true rfl) ?_
  show XB _ _ _ _ _ _ _ _ _ _ _ 12 _ 11 168
  refine b_dup dX11_init_86 rfl ?_
  refine b_callN (nn := 0) (cb_curate (i := 11) (by decide)) dX11_init_87 (by simp [nst]) (tb 185 (by decide +kernel) (by decide +kernel)) (tb 83 (by decide +kernel) (by decide +kernel)) (tb 186 (by decide +kernel) (by decide +kernel)) rfl (by decide +kernel) (by decide) (by decide) rfl rfl (Nat.le_of_ble_eq_true rfl) (by decide) rfl (Nat.le_of_ble_eq_true rfl) (Nat.le_of_ble_eq_true rfl) ?_
  show XB _ _ _ _ _ _ _ _ _ _ _ 12 _ 11 168
  refine b_astG (GE (FF D A b) (.inr (10, [.ref (b + 1), .ref (b + 2), .null, .null, .ref (b + 4), .ref (b + 5), .null, .ref (b + 6), .int 0, .int 0, .int 0, .int 0, .int 0])) (aR (mkO D A b) 4 8 (pf b 50 2 0)) (aR (mkO D A b) 3 24 (pf b 66 8 0)) (aR (mkO D A b) 3 2 (pf b 258 8 0)) (aR (mkO D A b) 2 6 (kf b 4))) dX11_init_90 (i := 8) (z := 6) (k := 3) (q := 11) (ci := 2) (by decide) (by decide) rfl (by simp [gsK]) rfl rfl (by decide) (by decide) (congrArg (aR (mkO D A b) 2 6) (kf_up (k := 3) (by decide))).symm (fun j _ h => GE_8 h) ?_
  refine b_dup dX11_init_91 rfl ?_
  refine b_iconst (v := nI 4) dX11_init_92 rfl ?_
  refine b_new (GE (FF D A b) (.inr (10, [.ref (b + 1), .ref (b + 2), .null, .null, .ref (b + 4), .ref (b + 5), .null, .ref (b + 6), .int 0, .int 0, .int 0, .int 0, .int 0])) (aR (mkO D A b) 4 8 (pf b 50 2 0)) (aR (mkO D A b) 3 24 (pf b 66 8 0)) (aR (mkO D A b) 3 2 (pf b 258 8 0)) (aR (mkO D A b) 2 6 (kf b 4))) dX11_init_93 inX4 tyX4_ok (ci := 4) rfl (tb 189 (by decide +kernel) (by decide +kernel)) (tb 190 (by decide +kernel) (by decide +kernel)) (tb 84 (by decide +kernel) (by decide +kernel)) (fun j hj => absurd hj (Nat.not_lt_zero _)) rfl (fun _ _ => rfl) (Nat.le_of_ble_eq_true rfl) (Nat.le_of_ble_eq_true rfl) ?_
  show XB _ _ _ _ _ _ _ _ _ _ _ 13 _ 12 168
  refine b_dup dX11_init_96 rfl ?_
  refine b_callN (nn := 0) (cb_fetcher (i := 12) (by decide)) dX11_init_97 (by simp [nst]) (tb 192 (by decide +kernel) (by decide +kernel)) (tb 84 (by decide +kernel) (by decide +kernel)) (tb 193 (by decide +kernel) (by decide +kernel)) rfl (by decide +kernel) (by decide) (by decide) rfl rfl (Nat.le_of_ble_eq_true rfl) (by decide) rfl (Nat.le_of_ble_eq_true rfl) (Nat.le_of_ble_eq_true rfl) ?_
  show XB _ _ _ _ _ _ _ _ _ _ _ 13 _ 12 168
  refine b_astG (GE (FF D A b) (.inr (10, [.ref (b + 1), .ref (b + 2), .null, .null, .ref (b + 4), .ref (b + 5), .null, .ref (b + 6), .int 0, .int 0, .int 0, .int 0, .int 0])) (aR (mkO D A b) 4 8 (pf b 50 2 0)) (aR (mkO D A b) 3 24 (pf b 66 8 0)) (aR (mkO D A b) 3 2 (pf b 258 8 0)) (aR (mkO D A b) 2 6 (kf b 5))) dX11_init_100 (i := 8) (z := 6) (k := 4) (q := 12) (ci := 4) (by decide) (by decide) rfl (by simp [gsK]) rfl rfl (by decide) (by decide) (congrArg (aR (mkO D A b) 2 6) (kf_up (k := 4) (by decide))).symm (fun j _ h => GE_8 h) ?_
  refine b_dup dX11_init_101 rfl ?_
  refine b_iconst (v := nI 5) dX11_init_102 rfl ?_
  refine b_new (GE (FF D A b) (.inr (10, [.ref (b + 1), .ref (b + 2), .null, .null, .ref (b + 4), .ref (b + 5), .null, .ref (b + 6), .int 0, .int 0, .int 0, .int 0, .int 0])) (aR (mkO D A b) 4 8 (pf b 50 2 0)) (aR (mkO D A b) 3 24 (pf b 66 8 0)) (aR (mkO D A b) 3 2 (pf b 258 8 0)) (aR (mkO D A b) 2 6 (kf b 5))) dX11_init_103 inX6 tyX6_ok (ci := 6) rfl (tb 196 (by decide +kernel) (by decide +kernel)) (tb 197 (by decide +kernel) (by decide +kernel)) (tb 85 (by decide +kernel) (by decide +kernel)) (fun j hj => absurd hj (Nat.not_lt_zero _)) rfl (fun _ _ => rfl) (Nat.le_of_ble_eq_true rfl) (Nat.le_of_ble_eq_true rfl) ?_
  show XB _ _ _ _ _ _ _ _ _ _ _ 14 _ 13 168
  refine b_dup dX11_init_106 rfl ?_
  refine b_callN (nn := 0) (cb_girl (i := 13) (by decide)) dX11_init_107 (by simp [nst]) (tb 199 (by decide +kernel) (by decide +kernel)) (tb 85 (by decide +kernel) (by decide +kernel)) (tb 200 (by decide +kernel) (by decide +kernel)) rfl (by decide +kernel) (by decide) (by decide) rfl rfl (Nat.le_of_ble_eq_true rfl) (by decide) rfl (Nat.le_of_ble_eq_true rfl) (Nat.le_of_ble_eq_true rfl) ?_
  show XB _ _ _ _ _ _ _ _ _ _ _ 14 _ 13 168
  refine b_astG (GE (FF D A b) (.inr (10, [.ref (b + 1), .ref (b + 2), .null, .null, .ref (b + 4), .ref (b + 5), .null, .ref (b + 6), .int 0, .int 0, .int 0, .int 0, .int 0])) (aR (mkO D A b) 4 8 (pf b 50 2 0)) (aR (mkO D A b) 3 24 (pf b 66 8 0)) (aR (mkO D A b) 3 2 (pf b 258 8 0)) (aR (mkO D A b) 2 6 (kf b 6))) dX11_init_110 (i := 8) (z := 6) (k := 5) (q := 13) (ci := 6) (by decide) (by decide) rfl (by simp [gsK]) rfl rfl (by decide) (by decide) (congrArg (aR (mkO D A b) 2 6) (kf_up (k := 5) (by decide))).symm (fun j _ h => GE_8 h) ?_
  refine b_astore_n dX11_init_111 ?_
  show XB _ _ _ _ _ _ _ _ _ [some (.ref (b + 0)), some (.ref (b + 8)), none] _ _ _ _ _
  refine b_aload_n dX11_init_112 rfl ?_
  refine b_new (wE (GE (FF D A b) (.inr (10, [.ref (b + 1), .ref (b + 2), .null, .null, .ref (b + 4), .ref (b + 5), .null, .ref (b + 6), .int 0, .int 0, .int 0, .int 0, .int 0])) (aR (mkO D A b) 4 8 (pf b 50 2 0)) (aR (mkO D A b) 3 24 (pf b 66 8 0)) (aR (mkO D A b) 3 2 (pf b 258 8 0)) (aR (mkO D A b) 2 6 (kf b 6))) 14 lk0) dX11_init_113 inX8 tyX8_ok (ci := 7) rfl (tb 134 (by decide +kernel) (by decide +kernel)) (tb 203 (by decide +kernel) (by decide +kernel)) (tb 86 (by decide +kernel) (by decide +kernel)) (by decide +kernel) wE_eq (fun j hj => wE_ne (by omega)) (Nat.le_of_ble_eq_true rfl) (Nat.le_of_ble_eq_true rfl) ?_
  show XB _ _ _ _ _ _ _ _ _ _ _ 15 _ 14 182
  refine b_dup dX11_init_116 rfl ?_
  refine b_aload_n dX11_init_117 rfl ?_
  refine b_call (nn := 1) (cb_lake (n := 14) (kq := b + 8) (E' := GE (FF D A b) (.inr (10, [.ref (b + 1), .ref (b + 2), .null, .null, .ref (b + 4), .ref (b + 5), .null, .ref (b + 6), .int 0, .int 0, .int 0, .int 0, .int 0])) (aR (mkO D A b) 4 8 (pf b 50 2 0)) (aR (mkO D A b) 3 24 (pf b 66 8 0)) (aR (mkO D A b) 3 2 (pf b 258 8 0)) (aR (mkO D A b) 2 6 (kf b 6))) wE_eq (fun j hj => (wE_ne (by omega)).symm) (FF_lk14.congr (fun k hk => GE_F (by omega)))) dX11_init_118 (tb 204 (by decide +kernel) (by decide +kernel)) (tb 205 (by decide +kernel) (by decide +kernel)) (tb 86 (by decide +kernel) (by decide +kernel)) (tb 206 (by decide +kernel) (by decide +kernel)) rfl (by decide +kernel) (by decide) (by decide) rfl rfl (Nat.le_of_ble_eq_true rfl) (by decide) rfl (Nat.le_of_ble_eq_true rfl) (Nat.le_of_ble_eq_true rfl) ?_
  show XB _ _ _ _ _ _ _ _ _ _ _ 22 _ 21 232
  refine b_putL dX11_init_121 hin (k := 2) (by decide) (tb 353 (by decide +kernel) (by decide +kernel)) rfl rfl (ty := .object "LadderSprings$Lake") (by decide +kernel) rfl rfl (by decide) (Nat.le_of_ble_eq_true rfl) ?_
  show XB _ _ _ _ _ _ _ _ _ _ _ 22 (GE (FF D A b) (.inr (10, [.ref (b + 1), .ref (b + 2), .ref (b + 14), .null, .ref (b + 4), .ref (b + 5), .null, .ref (b + 6), .int 0, .int 0, .int 0, .int 0, .int 0])) (aR (mkO D A b) 4 8 (pf b 50 2 0)) (aR (mkO D A b) 3 24 (pf b 66 8 0)) (aR (mkO D A b) 3 2 (pf b 258 8 0)) (aR (mkO D A b) 2 6 (kf b 6))) 21 232
  refine b_aload_n dX11_init_124 rfl ?_
  refine b_new (wE (GE (FF D A b) (.inr (10, [.ref (b + 1), .ref (b + 2), .ref (b + 14), .null, .ref (b + 4), .ref (b + 5), .null, .ref (b + 6), .int 0, .int 0, .int 0, .int 0, .int 0])) (aR (mkO D A b) 4 8 (pf b 50 2 0)) (aR (mkO D A b) 3 24 (pf b 66 8 0)) (aR (mkO D A b) 3 2 (pf b 258 8 0)) (aR (mkO D A b) 2 6 (kf b 6))) 22 lk0) dX11_init_125 inX8 tyX8_ok (ci := 7) rfl (tb 134 (by decide +kernel) (by decide +kernel)) (tb 203 (by decide +kernel) (by decide +kernel)) (tb 86 (by decide +kernel) (by decide +kernel)) (by decide +kernel) wE_eq (fun j hj => wE_ne (by omega)) (Nat.le_of_ble_eq_true rfl) (Nat.le_of_ble_eq_true rfl) ?_
  show XB _ _ _ _ _ _ _ _ _ _ _ 23 _ 22 246
  refine b_dup dX11_init_128 rfl ?_
  refine b_aload_n dX11_init_129 rfl ?_
  refine b_call (nn := 1) (cb_lake (n := 22) (kq := b + 8) (E' := GE (FF D A b) (.inr (10, [.ref (b + 1), .ref (b + 2), .ref (b + 14), .null, .ref (b + 4), .ref (b + 5), .null, .ref (b + 6), .int 0, .int 0, .int 0, .int 0, .int 0])) (aR (mkO D A b) 4 8 (pf b 50 2 0)) (aR (mkO D A b) 3 24 (pf b 66 8 0)) (aR (mkO D A b) 3 2 (pf b 258 8 0)) (aR (mkO D A b) 2 6 (kf b 6))) wE_eq (fun j hj => (wE_ne (by omega)).symm) (FF_lk22.congr (fun k hk => GE_F (by omega)))) dX11_init_130 (tb 204 (by decide +kernel) (by decide +kernel)) (tb 205 (by decide +kernel) (by decide +kernel)) (tb 86 (by decide +kernel) (by decide +kernel)) (tb 206 (by decide +kernel) (by decide +kernel)) rfl (by decide +kernel) (by decide) (by decide) rfl rfl (Nat.le_of_ble_eq_true rfl) (by decide) rfl (Nat.le_of_ble_eq_true rfl) (Nat.le_of_ble_eq_true rfl) ?_
  show XB _ _ _ _ _ _ _ _ _ _ _ 30 _ 29 296
  refine b_putL dX11_init_133 hin (k := 3) (by decide) (tb 354 (by decide +kernel) (by decide +kernel)) rfl rfl (ty := .object "LadderSprings$Lake") (by decide +kernel) rfl rfl (by decide) (Nat.le_of_ble_eq_true rfl) ?_
  show XB _ _ _ _ _ _ _ _ _ _ _ 30 (GE (FF D A b) (.inr (10, [.ref (b + 1), .ref (b + 2), .ref (b + 14), .ref (b + 22), .ref (b + 4), .ref (b + 5), .null, .ref (b + 6), .int 0, .int 0, .int 0, .int 0, .int 0])) (aR (mkO D A b) 4 8 (pf b 50 2 0)) (aR (mkO D A b) 3 24 (pf b 66 8 0)) (aR (mkO D A b) 3 2 (pf b 258 8 0)) (aR (mkO D A b) 2 6 (kf b 6))) 29 296
  refine b_aload_n dX11_init_136 rfl ?_
  refine b_new (wE (GE (FF D A b) (.inr (10, [.ref (b + 1), .ref (b + 2), .ref (b + 14), .ref (b + 22), .ref (b + 4), .ref (b + 5), .null, .ref (b + 6), .int 0, .int 0, .int 0, .int 0, .int 0])) (aR (mkO D A b) 4 8 (pf b 50 2 0)) (aR (mkO D A b) 3 24 (pf b 66 8 0)) (aR (mkO D A b) 3 2 (pf b 258 8 0)) (aR (mkO D A b) 2 6 (kf b 6))) 30 (.inr (5, [.null, .null, .int 0, .null, .null, .int 0, .int 0, .null, .long 0, .long 0, .null, .int 0, .int 0, .int 0]))) dX11_init_137 inX5 tyX5_ok (ci := 5) rfl (tb 275 (by decide +kernel) (by decide +kernel)) (tb 276 (by decide +kernel) (by decide +kernel)) (tb 87 (by decide +kernel) (by decide +kernel)) (by decide +kernel) wE_eq (fun j hj => wE_ne (by omega)) (Nat.le_of_ble_eq_true rfl) (Nat.le_of_ble_eq_true rfl) ?_
  show XB _ _ _ _ _ _ _ _ _ _ _ 31 _ 30 310
  refine b_dup dX11_init_140 rfl ?_
  refine b_aload_n dX11_init_141 rfl ?_
  refine b_call (nn := 1) (cb_fore (n := 30) (kq := b + 8) (E' := GE (FF D A b) (.inr (10, [.ref (b + 1), .ref (b + 2), .ref (b + 14), .ref (b + 22), .ref (b + 4), .ref (b + 5), .null, .ref (b + 6), .int 0, .int 0, .int 0, .int 0, .int 0])) (aR (mkO D A b) 4 8 (pf b 50 2 0)) (aR (mkO D A b) 3 24 (pf b 66 8 0)) (aR (mkO D A b) 3 2 (pf b 258 8 0)) (aR (mkO D A b) 2 6 (kf b 6))) wE_eq (fun j hj => (wE_ne (by omega)).symm) rfl (FF_ZA (j := 31) rfl rfl (by decide) (by decide)) (FF_ZA (j := 32) rfl rfl (by decide) (by decide)) (FF_ZA (j := 33) rfl rfl (by decide) (by decide)) (FF_lk34.congr (fun k hk => GE_F (by omega))) (FF_lk42.congr (fun k hk => GE_F (by omega)))) dX11_init_142 (tb 277 (by decide +kernel) (by decide +kernel)) (tb 278 (by decide +kernel) (by decide +kernel)) (tb 87 (by decide +kernel) (by decide +kernel)) (tb 279 (by decide +kernel) (by decide +kernel)) rfl (by decide +kernel) (by decide) (by decide) rfl rfl (Nat.le_of_ble_eq_true rfl) (by decide) rfl (Nat.le_of_ble_eq_true rfl) (Nat.le_of_ble_eq_true rfl) ?_
  show XB _ _ _ _ _ _ _ _ _ _ _ 50 _ 49 459
  refine b_putL dX11_init_145 hin (k := 6) (by decide) (tb 357 (by decide +kernel) (by decide +kernel)) rfl rfl (ty := .object "LadderSprings$Foretold") (by decide +kernel) rfl rfl (by decide) (Nat.le_of_ble_eq_true rfl) ?_
  show XB _ _ _ _ _ _ _ _ _ _ _ 50 (GE (FF D A b) (.inr (10, [.ref (b + 1), .ref (b + 2), .ref (b + 14), .ref (b + 22), .ref (b + 4), .ref (b + 5), .ref (b + 30), .ref (b + 6), .int 0, .int 0, .int 0, .int 0, .int 0])) (aR (mkO D A b) 4 8 (pf b 50 2 0)) (aR (mkO D A b) 3 24 (pf b 66 8 0)) (aR (mkO D A b) 3 2 (pf b 258 8 0)) (aR (mkO D A b) 2 6 (kf b 6))) 49 459
  refine b_iconst (v := nI 0) dX11_init_148 rfl ?_
  refine b_istore_n dX11_init_149 ?_
  show XB _ _ _ _ _ _ _ _ _ [some (.ref (b + 0)), some (.ref (b + 8)), some (.int (nI 0))] _ _ _ _ _
  refine ls_rows (Nat.le_of_ble_eq_true rfl) (Nat.le_of_ble_eq_true rfl) (by decide) rfl ?_ 8 0 (by decide)
  show XB _ _ _ _ _ _ _ _ _ _ _ 66 _ 65 803
  refine b_iconst (v := nI 0) dX11_init_175 rfl ?_
  refine b_istore_n dX11_init_176 ?_
  show XB _ _ _ _ _ _ _ _ _ [some (.ref (b + 0)), some (.ref (b + 8)), some (.int (nI 0))] _ _ _ _ _
  refine ls_acts (Nat.le_of_ble_eq_true rfl) (Nat.le_of_ble_eq_true rfl) (by decide) rfl ?_ 24 0 (by decide)
  show XB _ _ _ _ _ _ _ _ _ _ _ 258 _ 257 2339
  refine b_iconst (v := nI 0) dX11_init_203 rfl ?_
  refine b_istore_n dX11_init_204 ?_
  show XB _ _ _ _ _ _ _ _ _ [some (.ref (b + 0)), some (.ref (b + 8)), some (.int (nI 0))] _ _ _ _ _
  refine ls_imgs (Nat.le_of_ble_eq_true rfl) (Nat.le_of_ble_eq_true rfl) (by decide) rfl ?_ 2 0 (by decide)
  show XB _ _ _ _ _ _ _ _ _ _ _ 274 _ 273 2467
  refine b_vret dX11_init_230 (fun j hj => ?_) rfl rfl
  by_cases e0 : j = 0
  · rw [e0]; rfl
  by_cases e1 : j = 1
  · rw [e1, FF_1]; rfl
  by_cases e4 : j = 4
  · rw [e4, FF_4]; rfl
  by_cases e5 : j = 5
  · rw [e5, FF_5]; rfl
  by_cases e8 : j = 8
  · rw [e8, FF_8]; rfl
  exact (GE_F ⟨e0, e1, e4, e5, e8⟩).symm
end
