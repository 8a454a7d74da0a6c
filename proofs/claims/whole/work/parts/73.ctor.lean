/-! THE CONSTRUCTORS of the nested classes (laid by gen_ctor.py) -/
section
variable {Γ : Gx} {Ω : Om} {b : Nat} {own : String} {cc : ByteArray} {nL lev : Nat} {ret : Option FieldType} {pc : Nat} {L : List (Option Value)} {st : List Value} {n : Nat} {E0 : Nat → va_E} {i : Nat} {e0 : va_E} {kc ks : Nat}
theorem b_newiW {z : Nat} (d : decode cc pc = .ok (.newarray .int, 2)) (hE : ZA Ω (E0 n) z) (hni : n ≠ i) (hkc : kc + 1 ≤ Γ.2.2.2.2.2.2.2.2.2.2.2.1) (hks : ks + z ≤ Γ.2.2.2.2.2.2.2.2.2.2.2.2) (kk : XB Γ Ω b own cc nL lev ret (pc + 2) L (.ref (b + n) :: st) (n + 1) (wE E0 i e0) (kc + 1) (ks + z)) (hz0 : z < 2000 := by decide) : XB Γ Ω b own cc nL lev ret pc L (.int (nI z) :: st) n (wE E0 i e0) kc ks := by
  obtain ⟨f, h1, h2⟩ := hE
  exact b_newi (wE E0 i e0) d (tb 133 (by decide +kernel) (by decide +kernel)) hz0 (by rw [wE_ne hni]; exact h1) h2 (fun _ _ => rfl) hkc hks kk
theorem b_putFW {ci k idx N : Nat} {C : String} {T : u_T} {ty0 : Nat → FieldType} {ty : FieldType} {fs : List Value} {v : Value} (d : decode cc pc = .ok (.putfield idx, 3)) (hin2 : Γ.2.2.2.2.2.2.2.2.1.name = "<init>") (hin : ∀ w ∈ u_ws C T N, w ∈ tbw) (hty : ∀ k, k < N → parseFieldDescriptor (T k).2.2.1 = some (ty0 k)) (hnm : ∀ a, a < N → ∀ b, b < N → a ≠ b → (T a).2.1 ≠ (T b).2.1) (hcl : vwCl[ci]? = some (C, T, N)) (hk : k < N) (hlk : Cond.fieldLink own idx (T k).1 (T k).2.1 (T k).2.2.1 ∈ tbw) (hfin : (T k).2.2.2 = true) (hdc : (T k).1 = own) (hd : parseFieldDescriptor (T k).2.2.1 = some ty) (hnar : narrow ty v = v) (hfit : fits ty v = true)
    (hi : i < n) (hlen : k < fs.length) (kk : XB Γ Ω b own cc nL lev ret (pc + 3) L st n (wE E0 i (.inr (ci, fs.set k v))) kc ks) : XB Γ Ω b own cc nL lev ret pc L (v :: .ref (b + i) :: st) n (wE E0 i (.inr (ci, fs))) kc ks :=
  b_putF (wE E0 i (.inr (ci, fs.set k v))) d hin2 hin hty hnm hcl hk hlk hfin hdc hd hnar hfit hi wE_eq hlen wE_eq (fun j _ h => wE_2 h) kk
theorem b_putW {ci k idx N : Nat} {C : String} {T : u_T} {ty0 : Nat → FieldType} {ty : FieldType} {fs : List Value} {v : Value} (d : decode cc pc = .ok (.putfield idx, 3)) (hin : ∀ w ∈ u_ws C T N, w ∈ tbw) (hty : ∀ k, k < N → parseFieldDescriptor (T k).2.2.1 = some (ty0 k)) (hnm : ∀ a, a < N → ∀ b, b < N → a ≠ b → (T a).2.1 ≠ (T b).2.1) (hcl : vwCl[ci]? = some (C, T, N)) (hk : k < N) (hlk : Cond.fieldLink own idx (T k).1 (T k).2.1 (T k).2.2.1 ∈ tbw) (hfin : (T k).2.2.2 = false) (hd : parseFieldDescriptor (T k).2.2.1 = some ty) (hnar : narrow ty v = v) (hfit : fits ty v = true)
    (hi : i < n) (hlen : k < fs.length) (kk : XB Γ Ω b own cc nL lev ret (pc + 3) L st n (wE E0 i (.inr (ci, fs.set k v))) kc ks) : XB Γ Ω b own cc nL lev ret pc L (v :: .ref (b + i) :: st) n (wE E0 i (.inr (ci, fs))) kc ks :=
  b_put (wE E0 i (.inr (ci, fs.set k v))) d hin hty hnm hcl hk hlk hfin hd hnar hfit hi wE_eq hlen wE_eq (fun j _ h => wE_2 h) kk
end
section
variable {Ω : Om} {b : Nat} {l : Launch} {n : Nat} {E E' : Nat → va_E}

set_option maxRecDepth 100000 in
set_option maxHeartbeats 4000000 in
theorem cb_row (h0 : E n = .inr (8, [.null, .int 0, .int 0])) (h : ∀ j, j < n → E' j = E j) (hf : E' n = .inr (8, [.ref (b + (n + 1)), .int 0, .int (-1)])) (hz1 : ZA Ω (E' (n + 1)) 40) : CtB Ω b l yX9_init cX9_init 1 1 [.ref (b + n)] (n + 1) E (n + 2) E' 1 40 := by
  refine ctB_of (by decide) rfl (Nat.le_of_ble_eq_true rfl) ?_
  intro p e R s m args below meth c hin
  refine b_congr (wE E' n (.inr (8, [.null, .int 0, .int 0]))) (fun j hj => ?_) ?_
  · by_cases e : j = n
    · rw [e, wE_eq, h0]
    · rw [wE_ne e, h j (by omega)]
  refine b_aload_n dX9_init_0 rfl ?_
  refine b_obj dX9_init_1 (tb 336 (by decide +kernel) (by decide +kernel)) (tb 98 (by decide +kernel) (by decide +kernel)) (tb 99 (by decide +kernel) (by decide +kernel)) (by decide) (Nat.le_of_ble_eq_true rfl) ?_
  refine b_aload_n dX9_init_4 rfl ?_
  refine b_bipush (v := nI 40) dX9_init_5 rfl ?_
  refine b_newiW dX9_init_7 hz1 (by omega) (Nat.le_of_ble_eq_true rfl) (Nat.le_of_ble_eq_true rfl) ?_
  refine b_putFW dX9_init_9 hin inX9 tyX9_ok nmX9 (ci := 8) rfl (k := 0) (by decide) (tb 337 (by decide +kernel) (by decide +kernel)) rfl rfl (ty := .array .int) (by decide +kernel) rfl rfl (by omega) (Nat.le_of_ble_eq_true rfl) ?_
  refine b_aload_n dX9_init_12 rfl ?_
  refine b_iconst (v := -1) dX9_init_13 rfl ?_
  refine b_putW dX9_init_14 inX9 tyX9_ok nmX9 (ci := 8) rfl (k := 2) (by decide) (tb 342 (by decide +kernel) (by decide +kernel)) rfl (ty := .int) (by decide +kernel) rfl rfl (by omega) (Nat.le_of_ble_eq_true rfl) ?_
  refine b_vret dX9_init_17 (fun j hj => ?_) rfl rfl
  by_cases e : j = n
  · rw [e, wE_eq]; exact hf
  · rw [wE_ne e]
set_option maxRecDepth 100000 in
set_option maxHeartbeats 4000000 in
theorem cb_tape (h0 : E n = .inr (9, [.null, .int 0, .int 0, .int 0, .int 0, .int 0, .int 0])) (h : ∀ j, j < n → E' j = E j) (hf : E' n = .inr (9, [.ref (b + (n + 1)), .int 0, .int 0, .int 0, .int 0, .int 0, .int 0])) (hz1 : ZA Ω (E' (n + 1)) 100) : CtB Ω b l yX10_init cX10_init 1 1 [.ref (b + n)] (n + 1) E (n + 2) E' 1 100 := by
  refine ctB_of (by decide) rfl (Nat.le_of_ble_eq_true rfl) ?_
  intro p e R s m args below meth c hin
  refine b_congr (wE E' n (.inr (9, [.null, .int 0, .int 0, .int 0, .int 0, .int 0, .int 0]))) (fun j hj => ?_) ?_
  · by_cases e : j = n
    · rw [e, wE_eq, h0]
    · rw [wE_ne e, h j (by omega)]
  refine b_aload_n dX10_init_0 rfl ?_
  refine b_obj dX10_init_1 (tb 107 (by decide +kernel) (by decide +kernel)) (tb 98 (by decide +kernel) (by decide +kernel)) (tb 99 (by decide +kernel) (by decide +kernel)) (by decide) (Nat.le_of_ble_eq_true rfl) ?_
  refine b_aload_n dX10_init_4 rfl ?_
  refine b_bipush (v := nI 100) dX10_init_5 rfl ?_
  refine b_newiW dX10_init_7 hz1 (by omega) (Nat.le_of_ble_eq_true rfl) (Nat.le_of_ble_eq_true rfl) ?_
  refine b_putFW dX10_init_9 hin inX10 tyX10_ok nmX10 (ci := 9) rfl (k := 0) (by decide) (tb 108 (by decide +kernel) (by decide +kernel)) rfl rfl (ty := .array .int) (by decide +kernel) rfl rfl (by omega) (Nat.le_of_ble_eq_true rfl) ?_
  refine b_vret dX10_init_12 (fun j hj => ?_) rfl rfl
  by_cases e : j = n
  · rw [e, wE_eq]; exact hf
  · rw [wE_ne e]
set_option maxRecDepth 100000 in
set_option maxHeartbeats 4000000 in
theorem cb_asked (h0 : E n = .inr (0, [.null, .int 0, .int 0, .int 0, .int 0])) (h : ∀ j, j < n → E' j = E j) (hf : E' n = .inr (0, [.ref (b + (n + 1)), .int 0, .int 0, .int 0, .int 0])) (hz1 : ZA Ω (E' (n + 1)) 16) : CtB Ω b l yX0_init cX0_init 1 1 [.ref (b + n)] (n + 1) E (n + 2) E' 1 16 := by
  refine ctB_of (by decide) rfl (Nat.le_of_ble_eq_true rfl) ?_
  intro p e R s m args below meth c hin
  refine b_congr (wE E' n (.inr (0, [.null, .int 0, .int 0, .int 0, .int 0]))) (fun j hj => ?_) ?_
  · by_cases e : j = n
    · rw [e, wE_eq, h0]
    · rw [wE_ne e, h j (by omega)]
  refine b_aload_n dX0_init_0 rfl ?_
  refine b_obj dX0_init_1 (tb 141 (by decide +kernel) (by decide +kernel)) (tb 98 (by decide +kernel) (by decide +kernel)) (tb 99 (by decide +kernel) (by decide +kernel)) (by decide) (Nat.le_of_ble_eq_true rfl) ?_
  refine b_aload_n dX0_init_4 rfl ?_
  refine b_bipush (v := nI 16) dX0_init_5 rfl ?_
  refine b_newiW dX0_init_7 hz1 (by omega) (Nat.le_of_ble_eq_true rfl) (Nat.le_of_ble_eq_true rfl) ?_
  refine b_putFW dX0_init_9 hin inX0 tyX0_ok nmX0 (ci := 0) rfl (k := 0) (by decide) (tb 142 (by decide +kernel) (by decide +kernel)) rfl rfl (ty := .array .int) (by decide +kernel) rfl rfl (by omega) (Nat.le_of_ble_eq_true rfl) ?_
  refine b_vret dX0_init_12 (fun j hj => ?_) rfl rfl
  by_cases e : j = n
  · rw [e, wE_eq]; exact hf
  · rw [wE_ne e]
set_option maxRecDepth 100000 in
set_option maxHeartbeats 4000000 in
theorem cb_lake {kq : Nat} (h0 : E n = lk0) (h : ∀ j, j < n → E' j = E j) (hk : LkAt Ω b kq E' n) : CtB Ω b l yX8_init cX8_init 2 1 [.ref (b + n), .ref kq] (n + 1) E (n + 8) E' 7 50 := by
  obtain ⟨hf, hz1, hz2, hz3, hz4, hz5, hz6, hz7⟩ := hk
  refine ctB_of (by decide) rfl (Nat.le_of_ble_eq_true rfl) ?_
  intro p e R s m args below meth c hin
  refine b_congr (wE E' n lk0) (fun j hj => ?_) ?_
  · by_cases e : j = n
    · rw [e, wE_eq, h0]
    · rw [wE_ne e, h j (by omega)]
  refine b_aload_n dX8_init_0 rfl ?_
  refine b_obj dX8_init_1 (tb 207 (by decide +kernel) (by decide +kernel)) (tb 98 (by decide +kernel) (by decide +kernel)) (tb 99 (by decide +kernel) (by decide +kernel)) (by decide) (Nat.le_of_ble_eq_true rfl) ?_
  refine b_aload_n dX8_init_4 rfl ?_
  refine b_bipush (v := nI 10) dX8_init_5 rfl ?_
  refine b_newiW dX8_init_7 hz1 (by omega) (Nat.le_of_ble_eq_true rfl) (Nat.le_of_ble_eq_true rfl) ?_
  refine b_putFW dX8_init_9 hin inX8 tyX8_ok nmX8 (ci := 7) rfl (k := 1) (by decide) (tb 209 (by decide +kernel) (by decide +kernel)) rfl rfl (ty := .array .int) (by decide +kernel) rfl rfl (by omega) (Nat.le_of_ble_eq_true rfl) ?_
  refine b_aload_n dX8_init_12 rfl ?_
  refine b_bipush (v := nI 10) dX8_init_13 rfl ?_
  refine b_newiW dX8_init_15 hz2 (by omega) (Nat.le_of_ble_eq_true rfl) (Nat.le_of_ble_eq_true rfl) ?_
  refine b_putFW dX8_init_17 hin inX8 tyX8_ok nmX8 (ci := 7) rfl (k := 2) (by decide) (tb 210 (by decide +kernel) (by decide +kernel)) rfl rfl (ty := .array .int) (by decide +kernel) rfl rfl (by omega) (Nat.le_of_ble_eq_true rfl) ?_
  refine b_aload_n dX8_init_20 rfl ?_
  refine b_bipush (v := nI 6) dX8_init_21 rfl ?_
  refine b_newiW dX8_init_23 hz3 (by omega) (Nat.le_of_ble_eq_true rfl) (Nat.le_of_ble_eq_true rfl) ?_
  refine b_putFW dX8_init_25 hin inX8 tyX8_ok nmX8 (ci := 7) rfl (k := 3) (by decide) (tb 214 (by decide +kernel) (by decide +kernel)) rfl rfl (ty := .array .int) (by decide +kernel) rfl rfl (by omega) (Nat.le_of_ble_eq_true rfl) ?_
  refine b_aload_n dX8_init_28 rfl ?_
  refine b_bipush (v := nI 6) dX8_init_29 rfl ?_
  refine b_newiW dX8_init_31 hz4 (by omega) (Nat.le_of_ble_eq_true rfl) (Nat.le_of_ble_eq_true rfl) ?_
  refine b_putFW dX8_init_33 hin inX8 tyX8_ok nmX8 (ci := 7) rfl (k := 4) (by decide) (tb 217 (by decide +kernel) (by decide +kernel)) rfl rfl (ty := .array .int) (by decide +kernel) rfl rfl (by omega) (Nat.le_of_ble_eq_true rfl) ?_
  refine b_aload_n dX8_init_36 rfl ?_
  refine b_bipush (v := nI 6) dX8_init_37 rfl ?_
  refine b_newiW dX8_init_39 hz5 (by omega) (Nat.le_of_ble_eq_true rfl) (Nat.le_of_ble_eq_true rfl) ?_
  refine b_putFW dX8_init_41 hin inX8 tyX8_ok nmX8 (ci := 7) rfl (k := 5) (by decide) (tb 221 (by decide +kernel) (by decide +kernel)) rfl rfl (ty := .array .int) (by decide +kernel) rfl rfl (by omega) (Nat.le_of_ble_eq_true rfl) ?_
  refine b_aload_n dX8_init_44 rfl ?_
  refine b_bipush (v := nI 6) dX8_init_45 rfl ?_
  refine b_newiW dX8_init_47 hz6 (by omega) (Nat.le_of_ble_eq_true rfl) (Nat.le_of_ble_eq_true rfl) ?_
  refine b_putFW dX8_init_49 hin inX8 tyX8_ok nmX8 (ci := 7) rfl (k := 6) (by decide) (tb 224 (by decide +kernel) (by decide +kernel)) rfl rfl (ty := .array .int) (by decide +kernel) rfl rfl (by omega) (Nat.le_of_ble_eq_true rfl) ?_
  refine b_aload_n dX8_init_52 rfl ?_
  refine b_bipush (v := nI 6) dX8_init_53 rfl ?_
  refine b_newiW dX8_init_55 hz7 (by omega) (Nat.le_of_ble_eq_true rfl) (Nat.le_of_ble_eq_true rfl) ?_
  refine b_putFW dX8_init_57 hin inX8 tyX8_ok nmX8 (ci := 7) rfl (k := 7) (by decide) (tb 228 (by decide +kernel) (by decide +kernel)) rfl rfl (ty := .array .int) (by decide +kernel) rfl rfl (by omega) (Nat.le_of_ble_eq_true rfl) ?_
  refine b_aload_n dX8_init_60 rfl ?_
  refine b_aload_n dX8_init_61 rfl ?_
  refine b_putFW dX8_init_62 hin inX8 tyX8_ok nmX8 (ci := 7) rfl (k := 0) (by decide) (tb 208 (by decide +kernel) (by decide +kernel)) rfl rfl (ty := .array (.object "LadderSprings$Goer")) (by decide +kernel) rfl rfl (by omega) (Nat.le_of_ble_eq_true rfl) ?_
  refine b_vret dX8_init_65 (fun j hj => ?_) rfl rfl
  by_cases e : j = n
  · rw [e, wE_eq]; exact hf
  · rw [wE_ne e]
set_option maxRecDepth 100000 in
set_option maxHeartbeats 4000000 in
theorem cb_fore {kq : Nat} (h0 : E n = .inr (5, [.null, .null, .int 0, .null, .null, .int 0, .int 0, .null, .long 0, .long 0, .null, .int 0, .int 0, .int 0])) (h : ∀ j, j < n → E' j = E j) (hf : E' n = .inr (5, [.ref (b + (n + 4)), .ref (b + (n + 12)), .int 0, .ref (b + (n + 1)), .ref (b + (n + 2)), .int 0, .int 0, .ref (b + (n + 3)), .long 0, .long 1, .null, .int 0, .int 0, .int 0])) (hz1 : ZA Ω (E' (n + 1)) 6) (hz2 : ZA Ω (E' (n + 2)) 6) (hz3 : ZA Ω (E' (n + 3)) 9) (hk4 : LkAt Ω b kq E' (n + 4)) (hk12 : LkAt Ω b kq E' (n + 12)) : CtB Ω b l yX5_init cX5_init 2 2 [.ref (b + n), .ref kq] (n + 1) E (n + 20) E' 19 149 := by
  refine ctB_of (by decide) rfl (Nat.le_of_ble_eq_true rfl) ?_
  intro p e R s m args below meth c hin
  refine b_congr (wE E' n (.inr (5, [.null, .null, .int 0, .null, .null, .int 0, .int 0, .null, .long 0, .long 0, .null, .int 0, .int 0, .int 0]))) (fun j hj => ?_) ?_
  · by_cases e : j = n
    · rw [e, wE_eq, h0]
    · rw [wE_ne e, h j (by omega)]
  refine b_aload_n dX5_init_0 rfl ?_
  refine b_obj dX5_init_1 (tb 280 (by decide +kernel) (by decide +kernel)) (tb 98 (by decide +kernel) (by decide +kernel)) (tb 99 (by decide +kernel) (by decide +kernel)) (by decide) (Nat.le_of_ble_eq_true rfl) ?_
  refine b_aload_n dX5_init_4 rfl ?_
  refine b_bipush (v := nI 6) dX5_init_5 rfl ?_
  refine b_newiW dX5_init_7 hz1 (by omega) (Nat.le_of_ble_eq_true rfl) (Nat.le_of_ble_eq_true rfl) ?_
  refine b_putFW dX5_init_9 hin inX5 tyX5_ok nmX5 (ci := 5) rfl (k := 3) (by decide) (tb 287 (by decide +kernel) (by decide +kernel)) rfl rfl (ty := .array .int) (by decide +kernel) rfl rfl (by omega) (Nat.le_of_ble_eq_true rfl) ?_
  refine b_aload_n dX5_init_12 rfl ?_
  refine b_bipush (v := nI 6) dX5_init_13 rfl ?_
  refine b_newiW dX5_init_15 hz2 (by omega) (Nat.le_of_ble_eq_true rfl) (Nat.le_of_ble_eq_true rfl) ?_
  refine b_putFW dX5_init_17 hin inX5 tyX5_ok nmX5 (ci := 5) rfl (k := 4) (by decide) (tb 288 (by decide +kernel) (by decide +kernel)) rfl rfl (ty := .array .int) (by decide +kernel) rfl rfl (by omega) (Nat.le_of_ble_eq_true rfl) ?_
  refine b_aload_n dX5_init_20 rfl ?_
  refine b_bipush (v := nI 9) dX5_init_21 rfl ?_
  refine b_newiW dX5_init_23 hz3 (by omega) (Nat.le_of_ble_eq_true rfl) (Nat.le_of_ble_eq_true rfl) ?_
  refine b_putFW dX5_init_25 hin inX5 tyX5_ok nmX5 (ci := 5) rfl (k := 7) (by decide) (tb 294 (by decide +kernel) (by decide +kernel)) rfl rfl (ty := .array .int) (by decide +kernel) rfl rfl (by omega) (Nat.le_of_ble_eq_true rfl) ?_
  refine b_aload_n dX5_init_28 rfl ?_
  refine b_lconst (v := 1) dX5_init_29 rfl ?_
  refine b_putW dX5_init_30 inX5 tyX5_ok nmX5 (ci := 5) rfl (k := 9) (by decide) (tb 297 (by decide +kernel) (by decide +kernel)) rfl (ty := .long) (by decide +kernel) rfl rfl (by omega) (Nat.le_of_ble_eq_true rfl) ?_
  refine b_aload_n dX5_init_33 rfl ?_
  refine b_new (wE (wE E' n _) (n + 4) lk0) dX5_init_34 inX8 tyX8_ok (ci := 7) rfl (tb 281 (by decide +kernel) (by decide +kernel)) (tb 203 (by decide +kernel) (by decide +kernel)) (tb 86 (by decide +kernel) (by decide +kernel)) (by decide +kernel) wE_eq (fun j hj => wE_ne (by omega)) (Nat.le_of_ble_eq_true rfl) (Nat.le_of_ble_eq_true rfl) ?_
  refine b_dup dX5_init_37 rfl ?_
  refine b_aload_n dX5_init_38 rfl ?_
  refine b_call (nn := 1) (cb_lake (E' := wE E' n _) wE_eq (fun j hj => (wE_ne (by omega)).symm) (LkAt.congr hk4 (fun k hk => wE_ne (by omega)))) dX5_init_39 (tb 282 (by decide +kernel) (by decide +kernel)) (tb 205 (by decide +kernel) (by decide +kernel)) (tb 86 (by decide +kernel) (by decide +kernel)) (tb 206 (by decide +kernel) (by decide +kernel)) rfl (by decide +kernel) (by decide) (by decide) rfl rfl (Nat.le_of_ble_eq_true rfl) (by omega) rfl (Nat.le_of_ble_eq_true rfl) (Nat.le_of_ble_eq_true rfl) ?_
  refine b_putFW dX5_init_42 hin inX5 tyX5_ok nmX5 (ci := 5) rfl (k := 0) (by decide) (tb 283 (by decide +kernel) (by decide +kernel)) rfl rfl (ty := .object "LadderSprings$Lake") (by decide +kernel) rfl rfl (by omega) (Nat.le_of_ble_eq_true rfl) ?_
  refine b_aload_n dX5_init_45 rfl ?_
  refine b_new (wE (wE E' n _) (n + 12) lk0) dX5_init_46 inX8 tyX8_ok (ci := 7) rfl (tb 281 (by decide +kernel) (by decide +kernel)) (tb 203 (by decide +kernel) (by decide +kernel)) (tb 86 (by decide +kernel) (by decide +kernel)) (by decide +kernel) wE_eq (fun j hj => wE_ne (by omega)) (Nat.le_of_ble_eq_true rfl) (Nat.le_of_ble_eq_true rfl) ?_
  refine b_dup dX5_init_49 rfl ?_
  refine b_aload_n dX5_init_50 rfl ?_
  refine b_call (nn := 1) (cb_lake (E' := wE E' n _) wE_eq (fun j hj => (wE_ne (by omega)).symm) (LkAt.congr hk12 (fun k hk => wE_ne (by omega)))) dX5_init_51 (tb 282 (by decide +kernel) (by decide +kernel)) (tb 205 (by decide +kernel) (by decide +kernel)) (tb 86 (by decide +kernel) (by decide +kernel)) (tb 206 (by decide +kernel) (by decide +kernel)) rfl (by decide +kernel) (by decide) (by decide) rfl rfl (Nat.le_of_ble_eq_true rfl) (by omega) rfl (Nat.le_of_ble_eq_true rfl) (Nat.le_of_ble_eq_true rfl) ?_
  refine b_putFW dX5_init_54 hin inX5 tyX5_ok nmX5 (ci := 5) rfl (k := 1) (by decide) (tb 285 (by decide +kernel) (by decide +kernel)) rfl rfl (ty := .object "LadderSprings$Lake") (by decide +kernel) rfl rfl (by omega) (Nat.le_of_ble_eq_true rfl) ?_
  refine b_vret dX5_init_57 (fun j hj => ?_) rfl rfl
  by_cases e : j = n
  · rw [e, wE_eq]; exact hf
  · rw [wE_ne e]
theorem cb_goer {i : Nat} (hn : 0 < n) : CtB Ω b l yX7_init cX7_init 1 1 [.ref (b + i)] n E n E 0 0 := by
  refine ctB_of (by decide) rfl (Nat.le_of_ble_eq_true rfl) ?_
  intro p e R s m args below meth c hin
  refine b_aload_n dX7_init_0 rfl ?_
  refine b_obj dX7_init_1 (tb 173 (by decide +kernel) (by decide +kernel)) (tb 98 (by decide +kernel) (by decide +kernel)) (tb 99 (by decide +kernel) (by decide +kernel)) (by decide) (Nat.le_of_ble_eq_true rfl) ?_
  exact b_vret dX7_init_4 (fun _ _ => rfl) rfl rfl
theorem cb_climber {i : Nat} (hn : 0 < n) : CtB Ω b l yX1_init cX1_init 1 2 [.ref (b + i)] n E n E 0 0 := by
  refine ctB_of (by decide) rfl (Nat.le_of_ble_eq_true rfl) ?_
  intro p e R s m args below meth c hin
  refine b_aload_n dX1_init_0 rfl ?_
  refine b_callN (nn := 0) (cb_goer hn) dX1_init_1 (by simp [nst]; decide) (tb 171 (by decide +kernel) (by decide +kernel)) (tb 80 (by decide +kernel) (by decide +kernel)) (tb 172 (by decide +kernel) (by decide +kernel)) rfl (by decide +kernel) (by decide) (by decide) rfl rfl (Nat.le_of_ble_eq_true rfl) hn rfl (Nat.le_refl _) (Nat.le_refl _) ?_
  exact b_vret dX1_init_4 (fun _ _ => rfl) rfl rfl
theorem cb_draper {i : Nat} (hn : 0 < n) : CtB Ω b l yX3_init cX3_init 1 3 [.ref (b + i)] n E n E 0 0 := by
  refine ctB_of (by decide) rfl (Nat.le_of_ble_eq_true rfl) ?_
  intro p e R s m args below meth c hin
  refine b_aload_n dX3_init_0 rfl ?_
  refine b_callN (nn := 0) (cb_climber hn) dX3_init_1 (by simp [nst]; decide) (tb 168 (by decide +kernel) (by decide +kernel)) (tb 81 (by decide +kernel) (by decide +kernel)) (tb 169 (by decide +kernel) (by decide +kernel)) rfl (by decide +kernel) (by decide) (by decide) rfl rfl (Nat.le_of_ble_eq_true rfl) hn rfl (Nat.le_refl _) (Nat.le_refl _) ?_
  exact b_vret dX3_init_4 (fun _ _ => rfl) rfl rfl
theorem cb_curate {i : Nat} (hn : 0 < n) : CtB Ω b l yX2_init cX2_init 1 3 [.ref (b + i)] n E n E 0 0 := by
  refine ctB_of (by decide) rfl (Nat.le_of_ble_eq_true rfl) ?_
  intro p e R s m args below meth c hin
  refine b_aload_n dX2_init_0 rfl ?_
  refine b_callN (nn := 0) (cb_climber hn) dX2_init_1 (by simp [nst]; decide) (tb 168 (by decide +kernel) (by decide +kernel)) (tb 81 (by decide +kernel) (by decide +kernel)) (tb 169 (by decide +kernel) (by decide +kernel)) rfl (by decide +kernel) (by decide) (by decide) rfl rfl (Nat.le_of_ble_eq_true rfl) hn rfl (Nat.le_refl _) (Nat.le_refl _) ?_
  exact b_vret dX2_init_4 (fun _ _ => rfl) rfl rfl
theorem cb_fetcher {i : Nat} (hn : 0 < n) : CtB Ω b l yX4_init cX4_init 1 2 [.ref (b + i)] n E n E 0 0 := by
  refine ctB_of (by decide) rfl (Nat.le_of_ble_eq_true rfl) ?_
  intro p e R s m args below meth c hin
  refine b_aload_n dX4_init_0 rfl ?_
  refine b_callN (nn := 0) (cb_goer hn) dX4_init_1 (by simp [nst]; decide) (tb 171 (by decide +kernel) (by decide +kernel)) (tb 80 (by decide +kernel) (by decide +kernel)) (tb 172 (by decide +kernel) (by decide +kernel)) rfl (by decide +kernel) (by decide) (by decide) rfl rfl (Nat.le_of_ble_eq_true rfl) hn rfl (Nat.le_refl _) (Nat.le_refl _) ?_
  exact b_vret dX4_init_4 (fun _ _ => rfl) rfl rfl
theorem cb_girl {i : Nat} (hn : 0 < n) : CtB Ω b l yX6_init cX6_init 1 3 [.ref (b + i)] n E n E 0 0 := by
  refine ctB_of (by decide) rfl (Nat.le_of_ble_eq_true rfl) ?_
  intro p e R s m args below meth c hin
  refine b_aload_n dX6_init_0 rfl ?_
  refine b_callN (nn := 0) (cb_fetcher hn) dX6_init_1 (by simp [nst]; decide) (tb 192 (by decide +kernel) (by decide +kernel)) (tb 84 (by decide +kernel) (by decide +kernel)) (tb 193 (by decide +kernel) (by decide +kernel)) rfl (by decide +kernel) (by decide) (by decide) rfl rfl (Nat.le_of_ble_eq_true rfl) hn rfl (Nat.le_refl _) (Nat.le_refl _) ?_
  exact b_vret dX6_init_4 (fun _ _ => rfl) rfl rfl
end
