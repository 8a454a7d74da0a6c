/-! THE REFERENCE's constructor (laid by gen_ctor3.py) -/
def sf (k : Nat) : Nat → Int32 := fun j => if j < k then -1 else 0
theorem sf_up {k : Nat} : upd (sf k) k (-1) = sf (k + 1) := by
  funext j
  unfold upd sf
  by_cases h : j = k
  · rw [if_pos h, if_pos (by omega)]
  · rw [if_neg h]
    by_cases h2 : j < k
    · rw [if_pos h2, if_pos (by omega)]
    · rw [if_neg h2, if_neg (by omega)]
theorem sf_0 (j : Nat) : sf 0 j = 0 := if_neg (by omega)
abbrev szE (Ω : Om) (k : Nat) : va_E := .inl (Ω.2.1 0, 8, .inl (sf k))
section
variable {Γ : Gx} {Ω : Om} {b : Nat} {own : String} {cc : ByteArray} {nL lev : Nat} {ret : Option FieldType} {pc : Nat} {L : List (Option Value)} {st : List Value} {n : Nat} {E0 : Nat → va_E} {i : Nat} {e0 : va_E} {kc ks : Nat}
theorem b_newzW {z : Nat} {f : Nat → Int32} (d : decode cc pc = .ok (.newarray .boolean, 2)) (hE : E0 n = .inl (Ω.2.1 1, z, .inl f)) (hf : ∀ j, f j = 0) (hni : n ≠ i) (hkc : kc + 1 ≤ Γ.2.2.2.2.2.2.2.2.2.2.2.1) (hks : ks + z ≤ Γ.2.2.2.2.2.2.2.2.2.2.2.2) (kk : XB Γ Ω b own cc nL lev ret (pc + 2) L (.ref (b + n) :: st) (n + 1) (wE E0 i e0) (kc + 1) (ks + z)) (hz0 : z < 2000 := by decide) : XB Γ Ω b own cc nL lev ret pc L (.int (nI z) :: st) n (wE E0 i e0) kc ks :=
  b_newz (wE E0 i e0) d (tb 1091 (by decide +kernel) (by decide +kernel)) hz0 (by rw [wE_ne hni]; exact hE) hf (fun _ _ => rfl) hkc hks kk
end
section
variable {D : va_G} {A : Nat → ClassId} {b : Nat} {l : Launch}
theorem FF_276 : FF D A b 276 = szE (mkO D A b) 8 := by
  show cel (mkO D A b) M0 36 = _
  rw [cel_12 rfl]
  show (Sum.inl (A 0, 8, .inl (M0.1 36)) : va_E) = .inl (A 0, 8, .inl (sf 8))
  congr 4
  funext j
  unfold sf M0
  by_cases h : j < 8
  · rw [if_pos h]
    exact if_pos (Or.inr ⟨rfl, h⟩)
  · rw [if_neg h]
    exact if_neg (by omega)

set_option maxRecDepth 100000 in
set_option maxHeartbeats 4000000 in
theorem md_loop {Γ : Gx} {lev : Nat} {fs : List Value} (hfs : fs[1]? = some (.ref (b + 276)))
    (kend : XB Γ (mkO D A b) b RX12 cX12_init 2 lev none 138 [some (.ref (b + 274)), some (.int (nI 8))] [] 289 (wE (wE (FF D A b) 276 (szE (mkO D A b) 8)) 274 (.inr (11, fs))) 14 1811) :
    ∀ (d i : Nat), i + d = 8 → XB Γ (mkO D A b) b RX12 cX12_init 2 lev none 119 [some (.ref (b + 274)), some (.int (nI i))] [] 289 (wE (wE (FF D A b) 276 (szE (mkO D A b) i)) 274 (.inr (11, fs))) 14 1811 := by
  intro d
  induction d with
  | zero =>
    intro i hi
    have hi : i = 8 := by omega
    subst hi
    refine b_iload_n dX12_init_119 rfl ?_
    refine b_bipush (v := nI 8) dX12_init_120 rfl ?_
    refine b_icmp_ge (by decide) (by decide) 138 dX12_init_122 (fun _ => ?_) (fun h => absurd h (by omega))
    exact kend
  | succ d ih =>
    intro i hi
    have hi8 : i < 8 := by omega
    refine b_iload_n dX12_init_119 rfl ?_
    refine b_bipush (v := nI 8) dX12_init_120 rfl ?_
    refine b_icmp_ge (by omega) (by decide) 138 dX12_init_122 (fun h => absurd h (by omega)) (fun _ => ?_)
    refine b_aload_n dX12_init_125 rfl ?_
    refine b_get dX12_init_126 inX12 (ci := 11) rfl (k := 1) (by decide) (tb 1013 (by decide +kernel) (by decide +kernel)) (by decide) wE_eq hfs ?_
    refine b_iload_n dX12_init_129 rfl ?_
    refine b_iconst (v := -1) dX12_init_130 rfl ?_
    refine b_ias (wE (wE (FF D A b) 276 (szE (mkO D A b) (i + 1))) 274 (.inr (11, fs))) dX12_init_131 (i := 276) (z := 8) (k := i) (f := sf i) (by decide) rfl hi8 (by decide) (by rw [sf_up]; rfl) (fun j _ h => ?_) ?_
    · unfold wE
      rw [if_neg h, if_neg h]
    refine b_iinc (v := nI (i + 1)) dX12_init_132 rfl (by rw [nI_succ]; rfl) ?_
    refine b_goto 119 dX12_init_135 ?_
    exact ih (i + 1) (by omega)
set_option maxRecDepth 100000 in
set_option maxHeartbeats 8000000 in
theorem cb_model {E : Nat → va_E} (h : ∀ j, j < 274 → FF D A b j = E j) (h0 : E 274 = .inr (11, [.null, .null, .null, .int 0, .int 0, .null, .null, .null, .int 0, .int 0, .int 0, .int 0, .int 0, .int 0, .int 0, .null, .int 0, .null, .int 0, .null, .null, .null, .null, .null, .null, .int 0])) : CtB (mkO D A b) b l yX12_init cX12_init 2 1 [.ref (b + 274)] 275 E 289 (FF D A b) 14 1811 := by
  refine ctB_of (by decide) rfl (Nat.le_of_ble_eq_true rfl) ?_
  intro p e R s m args below meth c hin
  refine b_congr (wE (wE (FF D A b) 276 (szE (mkO D A b) 0)) 274 (.inr (11, [.null, .null, .null, .int 0, .int 0, .null, .null, .null, .int 0, .int 0, .int 0, .int 0, .int 0, .int 0, .int 0, .null, .int 0, .null, .int 0, .null, .null, .null, .null, .null, .null, .int 0]))) (fun j hj => ?_) ?_
  · by_cases e : j = 274
    · rw [e, wE_eq, h0]
    · rw [wE_ne e, wE_ne (by omega), h j (by omega)]
  refine b_aload_n dX12_init_0 rfl ?_
  refine b_obj dX12_init_1 (tb 1011 (by decide +kernel) (by decide +kernel)) (tb 98 (by decide +kernel) (by decide +kernel)) (tb 99 (by decide +kernel) (by decide +kernel)) (by decide) (Nat.le_of_ble_eq_true rfl) ?_
  refine b_aload_n dX12_init_4 rfl ?_
  refine b_bipush (v := nI 8) dX12_init_5 rfl ?_
  refine b_newiW (z := 8) dX12_init_7 (FF_ZA (j := 275) rfl rfl (by decide) (by decide)) (by decide) (Nat.le_of_ble_eq_true rfl) (Nat.le_of_ble_eq_true rfl) ?_
  show XB _ _ _ _ _ _ _ _ _ _ _ 276 _ 1 8
  refine b_putFW dX12_init_9 hin inX12 tyX12_ok nmX12 (ci := 11) rfl (k := 0) (by decide) (tb 1012 (by decide +kernel) (by decide +kernel)) rfl rfl (ty := .array .int) (by decide +kernel) rfl rfl (by decide) (Nat.le_of_ble_eq_true rfl) ?_
  show XB _ _ _ _ _ _ _ _ _ _ _ 276 (wE (wE (FF D A b) 276 (szE (mkO D A b) 0)) 274 (.inr (11, [.ref (b + 275), .null, .null, .int 0, .int 0, .null, .null, .null, .int 0, .int 0, .int 0, .int 0, .int 0, .int 0, .int 0, .null, .int 0, .null, .int 0, .null, .null, .null, .null, .null, .null, .int 0]))) 1 8
  refine b_aload_n dX12_init_12 rfl ?_
  refine b_bipush (v := nI 8) dX12_init_13 rfl ?_
  refine b_newiW (z := 8) dX12_init_15 ⟨sf 0, rfl, sf_0⟩ (by decide) (Nat.le_of_ble_eq_true rfl) (Nat.le_of_ble_eq_true rfl) ?_
  show XB _ _ _ _ _ _ _ _ _ _ _ 277 _ 2 16
  refine b_putFW dX12_init_17 hin inX12 tyX12_ok nmX12 (ci := 11) rfl (k := 1) (by decide) (tb 1013 (by decide +kernel) (by decide +kernel)) rfl rfl (ty := .array .int) (by decide +kernel) rfl rfl (by decide) (Nat.le_of_ble_eq_true rfl) ?_
  show XB _ _ _ _ _ _ _ _ _ _ _ 277 (wE (wE (FF D A b) 276 (szE (mkO D A b) 0)) 274 (.inr (11, [.ref (b + 275), .ref (b + 276), .null, .int 0, .int 0, .null, .null, .null, .int 0, .int 0, .int 0, .int 0, .int 0, .int 0, .int 0, .null, .int 0, .null, .int 0, .null, .null, .null, .null, .null, .null, .int 0]))) 2 16
  refine b_aload_n dX12_init_20 rfl ?_
  refine b_sipush (v := nI 320) dX12_init_21 rfl ?_
  refine b_newiW (z := 320) dX12_init_24 (FF_ZA (j := 277) rfl rfl (by decide) (by decide)) (by decide) (Nat.le_of_ble_eq_true rfl) (Nat.le_of_ble_eq_true rfl) ?_
  show XB _ _ _ _ _ _ _ _ _ _ _ 278 _ 3 336
  refine b_putFW dX12_init_26 hin inX12 tyX12_ok nmX12 (ci := 11) rfl (k := 2) (by decide) (tb 1014 (by decide +kernel) (by decide +kernel)) rfl rfl (ty := .array .int) (by decide +kernel) rfl rfl (by decide) (Nat.le_of_ble_eq_true rfl) ?_
  show XB _ _ _ _ _ _ _ _ _ _ _ 278 (wE (wE (FF D A b) 276 (szE (mkO D A b) 0)) 274 (.inr (11, [.ref (b + 275), .ref (b + 276), .ref (b + 277), .int 0, .int 0, .null, .null, .null, .int 0, .int 0, .int 0, .int 0, .int 0, .int 0, .int 0, .null, .int 0, .null, .int 0, .null, .null, .null, .null, .null, .null, .int 0]))) 3 336
  refine b_aload_n dX12_init_29 rfl ?_
  refine b_bipush (v := nI 45) dX12_init_30 rfl ?_
  refine b_newiW (z := 45) dX12_init_32 (FF_ZA (j := 278) rfl rfl (by decide) (by decide)) (by decide) (Nat.le_of_ble_eq_true rfl) (Nat.le_of_ble_eq_true rfl) ?_
  show XB _ _ _ _ _ _ _ _ _ _ _ 279 _ 4 381
  refine b_putFW dX12_init_34 hin inX12 tyX12_ok nmX12 (ci := 11) rfl (k := 5) (by decide) (tb 1017 (by decide +kernel) (by decide +kernel)) rfl rfl (ty := .array .int) (by decide +kernel) rfl rfl (by decide) (Nat.le_of_ble_eq_true rfl) ?_
  show XB _ _ _ _ _ _ _ _ _ _ _ 279 (wE (wE (FF D A b) 276 (szE (mkO D A b) 0)) 274 (.inr (11, [.ref (b + 275), .ref (b + 276), .ref (b + 277), .int 0, .int 0, .ref (b + 278), .null, .null, .int 0, .int 0, .int 0, .int 0, .int 0, .int 0, .int 0, .null, .int 0, .null, .int 0, .null, .null, .null, .null, .null, .null, .int 0]))) 4 381
  refine b_aload_n dX12_init_37 rfl ?_
  refine b_bipush (v := nI 40) dX12_init_38 rfl ?_
  refine b_newiW (z := 40) dX12_init_40 (FF_ZA (j := 279) rfl rfl (by decide) (by decide)) (by decide) (Nat.le_of_ble_eq_true rfl) (Nat.le_of_ble_eq_true rfl) ?_
  show XB _ _ _ _ _ _ _ _ _ _ _ 280 _ 5 421
  refine b_putFW dX12_init_42 hin inX12 tyX12_ok nmX12 (ci := 11) rfl (k := 6) (by decide) (tb 1018 (by decide +kernel) (by decide +kernel)) rfl rfl (ty := .array .int) (by decide +kernel) rfl rfl (by decide) (Nat.le_of_ble_eq_true rfl) ?_
  show XB _ _ _ _ _ _ _ _ _ _ _ 280 (wE (wE (FF D A b) 276 (szE (mkO D A b) 0)) 274 (.inr (11, [.ref (b + 275), .ref (b + 276), .ref (b + 277), .int 0, .int 0, .ref (b + 278), .ref (b + 279), .null, .int 0, .int 0, .int 0, .int 0, .int 0, .int 0, .int 0, .null, .int 0, .null, .int 0, .null, .null, .null, .null, .null, .null, .int 0]))) 5 421
  refine b_aload_n dX12_init_45 rfl ?_
  refine b_bipush (v := nI 100) dX12_init_46 rfl ?_
  refine b_newiW (z := 100) dX12_init_48 (FF_ZA (j := 280) rfl rfl (by decide) (by decide)) (by decide) (Nat.le_of_ble_eq_true rfl) (Nat.le_of_ble_eq_true rfl) ?_
  show XB _ _ _ _ _ _ _ _ _ _ _ 281 _ 6 521
  refine b_putFW dX12_init_50 hin inX12 tyX12_ok nmX12 (ci := 11) rfl (k := 7) (by decide) (tb 1019 (by decide +kernel) (by decide +kernel)) rfl rfl (ty := .array .int) (by decide +kernel) rfl rfl (by decide) (Nat.le_of_ble_eq_true rfl) ?_
  show XB _ _ _ _ _ _ _ _ _ _ _ 281 (wE (wE (FF D A b) 276 (szE (mkO D A b) 0)) 274 (.inr (11, [.ref (b + 275), .ref (b + 276), .ref (b + 277), .int 0, .int 0, .ref (b + 278), .ref (b + 279), .ref (b + 280), .int 0, .int 0, .int 0, .int 0, .int 0, .int 0, .int 0, .null, .int 0, .null, .int 0, .null, .null, .null, .null, .null, .null, .int 0]))) 6 521
  refine b_aload_n dX12_init_53 rfl ?_
  refine b_bipush (v := nI 45) dX12_init_54 rfl ?_
  refine b_newiW (z := 45) dX12_init_56 (FF_ZA (j := 281) rfl rfl (by decide) (by decide)) (by decide) (Nat.le_of_ble_eq_true rfl) (Nat.le_of_ble_eq_true rfl) ?_
  show XB _ _ _ _ _ _ _ _ _ _ _ 282 _ 7 566
  refine b_putFW dX12_init_58 hin inX12 tyX12_ok nmX12 (ci := 11) rfl (k := 15) (by decide) (tb 1027 (by decide +kernel) (by decide +kernel)) rfl rfl (ty := .array .int) (by decide +kernel) rfl rfl (by decide) (Nat.le_of_ble_eq_true rfl) ?_
  show XB _ _ _ _ _ _ _ _ _ _ _ 282 (wE (wE (FF D A b) 276 (szE (mkO D A b) 0)) 274 (.inr (11, [.ref (b + 275), .ref (b + 276), .ref (b + 277), .int 0, .int 0, .ref (b + 278), .ref (b + 279), .ref (b + 280), .int 0, .int 0, .int 0, .int 0, .int 0, .int 0, .int 0, .ref (b + 281), .int 0, .null, .int 0, .null, .null, .null, .null, .null, .null, .int 0]))) 7 566
  refine b_aload_n dX12_init_61 rfl ?_
  refine b_sipush (v := nI 1080) dX12_init_62 rfl ?_
  refine b_newiW (z := 1080) dX12_init_65 (FF_ZA (j := 282) rfl rfl (by decide) (by decide)) (by decide) (Nat.le_of_ble_eq_true rfl) (Nat.le_of_ble_eq_true rfl) ?_
  show XB _ _ _ _ _ _ _ _ _ _ _ 283 _ 8 1646
  refine b_putFW dX12_init_67 hin inX12 tyX12_ok nmX12 (ci := 11) rfl (k := 17) (by decide) (tb 1029 (by decide +kernel) (by decide +kernel)) rfl rfl (ty := .array .int) (by decide +kernel) rfl rfl (by decide) (Nat.le_of_ble_eq_true rfl) ?_
  show XB _ _ _ _ _ _ _ _ _ _ _ 283 (wE (wE (FF D A b) 276 (szE (mkO D A b) 0)) 274 (.inr (11, [.ref (b + 275), .ref (b + 276), .ref (b + 277), .int 0, .int 0, .ref (b + 278), .ref (b + 279), .ref (b + 280), .int 0, .int 0, .int 0, .int 0, .int 0, .int 0, .int 0, .ref (b + 281), .int 0, .ref (b + 282), .int 0, .null, .null, .null, .null, .null, .null, .int 0]))) 8 1646
  refine b_aload_n dX12_init_70 rfl ?_
  refine b_bipush (v := nI 45) dX12_init_71 rfl ?_
  refine b_newiW (z := 45) dX12_init_73 (FF_ZA (j := 283) rfl rfl (by decide) (by decide)) (by decide) (Nat.le_of_ble_eq_true rfl) (Nat.le_of_ble_eq_true rfl) ?_
  show XB _ _ _ _ _ _ _ _ _ _ _ 284 _ 9 1691
  refine b_putFW dX12_init_75 hin inX12 tyX12_ok nmX12 (ci := 11) rfl (k := 19) (by decide) (tb 1031 (by decide +kernel) (by decide +kernel)) rfl rfl (ty := .array .int) (by decide +kernel) rfl rfl (by decide) (Nat.le_of_ble_eq_true rfl) ?_
  show XB _ _ _ _ _ _ _ _ _ _ _ 284 (wE (wE (FF D A b) 276 (szE (mkO D A b) 0)) 274 (.inr (11, [.ref (b + 275), .ref (b + 276), .ref (b + 277), .int 0, .int 0, .ref (b + 278), .ref (b + 279), .ref (b + 280), .int 0, .int 0, .int 0, .int 0, .int 0, .int 0, .int 0, .ref (b + 281), .int 0, .ref (b + 282), .int 0, .ref (b + 283), .null, .null, .null, .null, .null, .int 0]))) 9 1691
  refine b_aload_n dX12_init_78 rfl ?_
  refine b_bipush (v := nI 6) dX12_init_79 rfl ?_
  refine b_newiW (z := 6) dX12_init_81 (FF_ZA (j := 284) rfl rfl (by decide) (by decide)) (by decide) (Nat.le_of_ble_eq_true rfl) (Nat.le_of_ble_eq_true rfl) ?_
  show XB _ _ _ _ _ _ _ _ _ _ _ 285 _ 10 1697
  refine b_putFW dX12_init_83 hin inX12 tyX12_ok nmX12 (ci := 11) rfl (k := 20) (by decide) (tb 1032 (by decide +kernel) (by decide +kernel)) rfl rfl (ty := .array .int) (by decide +kernel) rfl rfl (by decide) (Nat.le_of_ble_eq_true rfl) ?_
  show XB _ _ _ _ _ _ _ _ _ _ _ 285 (wE (wE (FF D A b) 276 (szE (mkO D A b) 0)) 274 (.inr (11, [.ref (b + 275), .ref (b + 276), .ref (b + 277), .int 0, .int 0, .ref (b + 278), .ref (b + 279), .ref (b + 280), .int 0, .int 0, .int 0, .int 0, .int 0, .int 0, .int 0, .ref (b + 281), .int 0, .ref (b + 282), .int 0, .ref (b + 283), .ref (b + 284), .null, .null, .null, .null, .int 0]))) 10 1697
  refine b_aload_n dX12_init_86 rfl ?_
  refine b_bipush (v := nI 6) dX12_init_87 rfl ?_
  refine b_newiW (z := 6) dX12_init_89 (FF_ZA (j := 285) rfl rfl (by decide) (by decide)) (by decide) (Nat.le_of_ble_eq_true rfl) (Nat.le_of_ble_eq_true rfl) ?_
  show XB _ _ _ _ _ _ _ _ _ _ _ 286 _ 11 1703
  refine b_putFW dX12_init_91 hin inX12 tyX12_ok nmX12 (ci := 11) rfl (k := 21) (by decide) (tb 1033 (by decide +kernel) (by decide +kernel)) rfl rfl (ty := .array .int) (by decide +kernel) rfl rfl (by decide) (Nat.le_of_ble_eq_true rfl) ?_
  show XB _ _ _ _ _ _ _ _ _ _ _ 286 (wE (wE (FF D A b) 276 (szE (mkO D A b) 0)) 274 (.inr (11, [.ref (b + 275), .ref (b + 276), .ref (b + 277), .int 0, .int 0, .ref (b + 278), .ref (b + 279), .ref (b + 280), .int 0, .int 0, .int 0, .int 0, .int 0, .int 0, .int 0, .ref (b + 281), .int 0, .ref (b + 282), .int 0, .ref (b + 283), .ref (b + 284), .ref (b + 285), .null, .null, .null, .int 0]))) 11 1703
  refine b_aload_n dX12_init_94 rfl ?_
  refine b_iconst (v := nI 2) dX12_init_95 rfl ?_
  refine b_newzW (z := 2) (f := M0.1 46) dX12_init_96 rfl (M0_0 (by decide) (by decide)) (by decide) (Nat.le_of_ble_eq_true rfl) (Nat.le_of_ble_eq_true rfl) ?_
  show XB _ _ _ _ _ _ _ _ _ _ _ 287 _ 12 1705
  refine b_putFW dX12_init_98 hin inX12 tyX12_ok nmX12 (ci := 11) rfl (k := 22) (by decide) (tb 1034 (by decide +kernel) (by decide +kernel)) rfl rfl (ty := .array .boolean) (by decide +kernel) rfl rfl (by decide) (Nat.le_of_ble_eq_true rfl) ?_
  show XB _ _ _ _ _ _ _ _ _ _ _ 287 (wE (wE (FF D A b) 276 (szE (mkO D A b) 0)) 274 (.inr (11, [.ref (b + 275), .ref (b + 276), .ref (b + 277), .int 0, .int 0, .ref (b + 278), .ref (b + 279), .ref (b + 280), .int 0, .int 0, .int 0, .int 0, .int 0, .int 0, .int 0, .ref (b + 281), .int 0, .ref (b + 282), .int 0, .ref (b + 283), .ref (b + 284), .ref (b + 285), .ref (b + 286), .null, .null, .int 0]))) 12 1705
  refine b_aload_n dX12_init_101 rfl ?_
  refine b_bipush (v := nI 90) dX12_init_102 rfl ?_
  refine b_newiW (z := 90) dX12_init_104 (FF_ZA (j := 287) rfl rfl (by decide) (by decide)) (by decide) (Nat.le_of_ble_eq_true rfl) (Nat.le_of_ble_eq_true rfl) ?_
  show XB _ _ _ _ _ _ _ _ _ _ _ 288 _ 13 1795
  refine b_putFW dX12_init_106 hin inX12 tyX12_ok nmX12 (ci := 11) rfl (k := 23) (by decide) (tb 1035 (by decide +kernel) (by decide +kernel)) rfl rfl (ty := .array .int) (by decide +kernel) rfl rfl (by decide) (Nat.le_of_ble_eq_true rfl) ?_
  show XB _ _ _ _ _ _ _ _ _ _ _ 288 (wE (wE (FF D A b) 276 (szE (mkO D A b) 0)) 274 (.inr (11, [.ref (b + 275), .ref (b + 276), .ref (b + 277), .int 0, .int 0, .ref (b + 278), .ref (b + 279), .ref (b + 280), .int 0, .int 0, .int 0, .int 0, .int 0, .int 0, .int 0, .ref (b + 281), .int 0, .ref (b + 282), .int 0, .ref (b + 283), .ref (b + 284), .ref (b + 285), .ref (b + 286), .ref (b + 287), .null, .int 0]))) 13 1795
  refine b_aload_n dX12_init_109 rfl ?_
  refine b_bipush (v := nI 16) dX12_init_110 rfl ?_
  refine b_newiW (z := 16) dX12_init_112 (FF_ZA (j := 288) rfl rfl (by decide) (by decide)) (by decide) (Nat.le_of_ble_eq_true rfl) (Nat.le_of_ble_eq_true rfl) ?_
  show XB _ _ _ _ _ _ _ _ _ _ _ 289 _ 14 1811
  refine b_putFW dX12_init_114 hin inX12 tyX12_ok nmX12 (ci := 11) rfl (k := 24) (by decide) (tb 1036 (by decide +kernel) (by decide +kernel)) rfl rfl (ty := .array .int) (by decide +kernel) rfl rfl (by decide) (Nat.le_of_ble_eq_true rfl) ?_
  show XB _ _ _ _ _ _ _ _ _ _ _ 289 (wE (wE (FF D A b) 276 (szE (mkO D A b) 0)) 274 (.inr (11, [.ref (b + 275), .ref (b + 276), .ref (b + 277), .int 0, .int 0, .ref (b + 278), .ref (b + 279), .ref (b + 280), .int 0, .int 0, .int 0, .int 0, .int 0, .int 0, .int 0, .ref (b + 281), .int 0, .ref (b + 282), .int 0, .ref (b + 283), .ref (b + 284), .ref (b + 285), .ref (b + 286), .ref (b + 287), .ref (b + 288), .int 0]))) 14 1811
  refine b_iconst (v := nI 0) dX12_init_117 rfl ?_
  refine b_istore_n dX12_init_118 ?_
  show XB _ _ _ _ _ _ _ _ _ [some (.ref (b + 274)), some (.int (nI 0))] _ _ _ _ _
  refine md_loop rfl ?_ 8 0 (by decide)
  refine b_vret dX12_init_138 (fun j hj => ?_) rfl rfl
  by_cases e : j = 274
  · rw [e, wE_eq]; rfl
  · rw [wE_ne e]
    by_cases e2 : j = 276
    · rw [e2, wE_eq, FF_276]
    · rw [wE_ne e2]
end
