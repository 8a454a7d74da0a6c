/-! LAKE: hang, addGoer, become, isSameAs (laid by gen_lake7.py) -/
theorem upR_at (M : Mem) (c : Nat) (f : Nat → Int32) (d j : Nat) : (upR M c f).1 d j = if d = c then f j else M.1 d j := by
  unfold upR; by_cases h : d = c <;> simp [h]
section
variable {Γ : Gx} {Ω : Om} {own : String} {cc : ByteArray} {nL lev : Nat} {ret : Option FieldType} {pc : Nat} {L : List (Option Value)} {st : List Value} {M : Mem}
theorem y_copy {idx a b n na nb : Nat} (f : Nat → Int32) (d : decode cc pc = .ok (.invokestatic idx, 3)) (hw : ∀ w ∈ [Cond.methodLink own idx arraycopyName, .native arraycopyName, .static arraycopyName, .initialized "java/lang/System"], w ∈ tbw) (hA : Ar a na) (hB : Ar b nb) (hna : n ≤ na) (hnb : n ≤ nb) (hf : M.1 a = f) (k : X Γ Ω own cc nL lev ret (pc + 3) L st (upR M b (fun j => if j < n then f j else M.1 b j))) (hlv : 1 ≤ lev := by decide) (hsum : Nat.ble ((st.map fun v => v.category).sum) 8 = true := by rfl) : X Γ Ω own cc nL lev ret pc L (.int (nI n) :: .int (nI 0) :: .ref (Ω.2.2 b) :: .int (nI 0) :: .ref (Ω.2.2 a) :: st) M := by
  obtain ⟨a1, a2, a3, a4⟩ := hA
  obtain ⟨b1, b2, b3, b4⟩ := hB
  have c0 : (nI 0).toNatClampNeg = 0 := rfl
  have cn : (nI n).toNatClampNeg = n := nI_clamp (by omega)
  refine x_copy d hw a1 b1 a2 b2 (by decide) (by decide) (nI_pos (by omega)) (by rw [c0, cn, a3]; omega) (by rw [c0, cn, b3]; omega) hlv (Nat.le_of_ble_eq_true hsum) ?_
  rw [c0, cn, hf]
  have e : va_cpy f (M.1 b) 0 0 n = fun j => if j < n then f j else M.1 b j := by
    funext j
    unfold va_cpy
    by_cases h : j < n
    · rw [if_pos (by omega), if_pos h]; simp
    · rw [if_neg (by omega), if_neg h]
  rw [e]
  exact k
theorem y_copyG {idx a b n na nb : Nat} (f : Nat → Int32) (d : decode cc pc = .ok (.invokestatic idx, 3)) (hw : ∀ w ∈ [Cond.methodLink own idx arraycopyName, .native arraycopyName, .static arraycopyName, .initialized "java/lang/System"], w ∈ tbw) (hA : Ar a na) (hB : Ar b nb) (hna : n ≤ na) (hnb : n ≤ nb) (hf : M.1 a = f) (k : ∀ N : Mem, N = upR M b (fun j => if j < n then f j else M.1 b j) → X Γ Ω own cc nL lev ret (pc + 3) L st N) (hlv : 1 ≤ lev := by decide) (hsum : Nat.ble ((st.map fun v => v.category).sum) 8 = true := by rfl) : X Γ Ω own cc nL lev ret pc L (.int (nI n) :: .int (nI 0) :: .ref (Ω.2.2 b) :: .int (nI 0) :: .ref (Ω.2.2 a) :: st) M := y_copy f d hw hA hB hna hnb hf (k _ rfl) hlv hsum
end
/-- a lake whose first n rungs have been told -/
def LkN (M : Mem) (b : Nat) (v : Nat → Nat) (n : Nat) : Prop := M.1 b 8 = nI (v 0) ∧ M.1 b 9 = nI (v 1) ∧ M.1 b 10 = nI (v 2) ∧ M.1 b 11 = nI (v 3) ∧ M.1 b 12 = nI (v 4) ∧ M.1 b 13 = nI ((2 ^ v 2 - 1) ^^^ v 5) ∧ (∀ p, 1 ≤ p → p ≤ n → M.1 (b + 2) p = nI (v (5 + p))) ∧ ∀ g, g < v 2 → M.1 (b + 3) g = nI (v (15 + g)) ∧ M.1 (b + 4) g = nI (v (21 + g)) ∧ M.1 (b + 5) g = nI (v (27 + g)) ∧ M.1 (b + 6) g = nI (v (33 + g)) ∧ M.1 (b + 7) g = nI (v (39 + g))
def hgV (r q : Nat) : Nat → Nat := fun j => if j = 0 then r else if j = 1 then q else 0
/-- one more goer -/
def agV (v : Nat → Nat) (k x t : Nat) : Nat → Nat := fun j => if j = 2 then v 2 + 1 else if j = 5 then v 5 ||| 2 ^ v 2 else if j = 15 + v 2 then k else if j = 21 + v 2 then x else if j = 27 + v 2 then t else if j = 33 + v 2 then 0 else if j = 39 + v 2 then 0 else v j
theorem agV_ne {v : Nat → Nat} {k x t j : Nat} (h2 : j ≠ 2) (h5 : j ≠ 5) (h15 : j ≠ 15 + v 2) (h21 : j ≠ 21 + v 2) (h27 : j ≠ 27 + v 2) (h33 : j ≠ 33 + v 2) (h39 : j ≠ 39 + v 2) : agV v k x t j = v j := by
  unfold agV; rw [if_neg h2, if_neg h5, if_neg h15, if_neg h21, if_neg h27, if_neg h33, if_neg h39]
theorem agV_n {v : Nat → Nat} {k x t : Nat} (h6 : v 2 < 6) : agV v k x t (15 + v 2) = k ∧ agV v k x t (21 + v 2) = x ∧ agV v k x t (27 + v 2) = t ∧ agV v k x t (33 + v 2) = 0 ∧ agV v k x t (39 + v 2) = 0 := by
  unfold agV
  refine ⟨?_, ?_, ?_, ?_, ?_⟩
  · rw [if_neg (by omega), if_neg (by omega), if_pos rfl]
  · rw [if_neg (by omega), if_neg (by omega), if_neg (by omega), if_pos rfl]
  · rw [if_neg (by omega), if_neg (by omega), if_neg (by omega), if_neg (by omega), if_pos rfl]
  · rw [if_neg (by omega), if_neg (by omega), if_neg (by omega), if_neg (by omega), if_neg (by omega), if_pos rfl]
  · rw [if_neg (by omega), if_neg (by omega), if_neg (by omega), if_neg (by omega), if_neg (by omega), if_neg (by omega), if_pos rfl]
theorem ag_dn : ∀ n, n < 6 → ∀ u, u < 2 ^ n → (2 ^ (n + 1) - 1) ^^^ (u ||| 2 ^ n) = (2 ^ n - 1) ^^^ u := by decide +kernel
/-- two lakes that are the same but for falls -/
def Sm (v w : Nat → Nat) : Prop := v 0 = w 0 ∧ v 1 = w 1 ∧ v 2 = w 2 ∧ v 3 = w 3 ∧ v 4 = w 4 ∧ v 5 = w 5 ∧ (∀ r, r < v 0 → v (6 + r) = w (6 + r)) ∧ ∀ g, g < v 2 → v (15 + g) = w (15 + g) ∧ v (21 + g) = w (21 + g) ∧ v (27 + g) = w (27 + g) ∧ v (33 + g) = w (33 + g)
theorem xor_inj {a u w : Nat} (h : a ^^^ u = a ^^^ w) : u = w := by
  have := congrArg (fun z => a ^^^ z) h
  simpa [← Nat.xor_assoc] using this
set_option maxRecDepth 100000 in
set_option maxHeartbeats 4000000 in
theorem c_hang {Ω : Om} {l : Launch} {M : Mem} {b : Nat} (hb : Lk b) {r q : Nat} : Ct Ω l yX8_hang cX8_hang 3 1 none [.ref (Ω.2.2 b), .int (nI r), .int (nI q)] M (fun ro M' => ro = none ∧ LkN M' b (hgV r q) 0 ∧ Fr b M M') := by
  refine ct_of (by decide) (Nat.le_of_ble_eq_true rfl) ?_
  intro p e R s m args below meth c
  refine x_aload_n dX8_hang_0 rfl ?_
  refine x_iload_n dX8_hang_1 rfl ?_
  refine p_X8_37 dX8_hang_2 ?_
  refine x_aload_n dX8_hang_5 rfl ?_
  refine x_iload_n dX8_hang_6 rfl ?_
  refine p_X8_41 dX8_hang_7 ?_
  refine x_aload_n dX8_hang_10 rfl ?_
  refine y_iconst (a := 0) dX8_hang_11 rfl ?_
  refine p_X8_44 dX8_hang_12 ?_
  refine x_aload_n dX8_hang_15 rfl ?_
  refine y_iconst (a := 0) dX8_hang_16 rfl ?_
  refine p_X8_47 dX8_hang_17 ?_
  refine x_aload_n dX8_hang_20 rfl ?_
  refine y_iconst (a := 0) dX8_hang_21 rfl ?_
  refine p_X8_50 dX8_hang_22 ?_
  refine x_aload_n dX8_hang_25 rfl ?_
  refine y_iconst (a := 0) dX8_hang_26 rfl ?_
  refine p_X8_53 dX8_hang_27 ?_
  refine x_vret dX8_hang_30 ?_
  refine ⟨rfl, ⟨?_, ?_, ?_, ?_, ?_, ?_, fun p h1 h2 => by omega, fun g hg => by simp [hgV] at hg⟩, (((((Fr.rf.up (by omega)).up (by omega)).up (by omega)).up (by omega)).up (by omega)).up (by omega)⟩ <;> simp [up1_at, hgV]
set_option maxRecDepth 100000 in
set_option maxHeartbeats 4000000 in
theorem c_addGoer {Ω : Om} {l : Launch} {M : Mem} {b : Nat} {v : Nat → Nat} (hb : Lk b) (hR : LkR M b v) (hw : Wv v) {k x t : Nat} (h6 : v 2 < 6) : Ct Ω l yX8_addGoer cX8_addGoer 4 1 none [.ref (Ω.2.2 b), .int (nI k), .int (nI x), .int (nI t)] M (fun ro M' => ro = none ∧ LkR M' b (agV v k x t) ∧ Fr b M M') := by
  have hn := hw.nums
  refine ct_of (by decide) (Nat.le_of_ble_eq_true rfl) ?_
  intro p e R s m args below meth c
  refine x_aload_n dX8_addGoer_0 rfl ?_
  refine g_X8_44 dX8_addGoer_1 ?_
  first | rw [hR.goers] | (rw [show (up1 _ _ _ _).1 b 10 = M.1 b 10 by simp [up1_at], hR.goers])
  refine x_bipush (v := nI 6) dX8_addGoer_4 rfl ?_
  refine y_icmp_lt 10 dX8_addGoer_6 (by omega) (by omega) (fun h_6 => ?_) (fun h_6 => ?_)
  · refine x_aload_n dX8_addGoer_10 rfl ?_
    refine g_X8_18 dX8_addGoer_11 ?_
    refine x_aload_n dX8_addGoer_14 rfl ?_
    refine g_X8_44 dX8_addGoer_15 ?_
    first | rw [hR.goers] | (rw [show (up1 _ _ _ _).1 b 10 = M.1 b 10 by simp [up1_at], hR.goers])
    refine x_iload_n dX8_addGoer_18 rfl ?_
    refine x_ias dX8_addGoer_19 (ArL (by assumption) (Or.inr ⟨by decide, by decide, rfl⟩)) (by omega) ?_
    refine x_aload_n dX8_addGoer_20 rfl ?_
    refine g_X8_21 dX8_addGoer_21 ?_
    refine x_aload_n dX8_addGoer_24 rfl ?_
    refine g_X8_44 dX8_addGoer_25 ?_
    first | rw [hR.goers] | (rw [show (up1 _ _ _ _).1 b 10 = M.1 b 10 by simp [up1_at], hR.goers])
    refine x_iload_n dX8_addGoer_28 rfl ?_
    refine x_ias dX8_addGoer_29 (ArL (by assumption) (Or.inr ⟨by decide, by decide, rfl⟩)) (by omega) ?_
    refine x_aload_n dX8_addGoer_30 rfl ?_
    refine g_X8_24 dX8_addGoer_31 ?_
    refine x_aload_n dX8_addGoer_34 rfl ?_
    refine g_X8_44 dX8_addGoer_35 ?_
    first | rw [hR.goers] | (rw [show (up1 _ _ _ _).1 b 10 = M.1 b 10 by simp [up1_at], hR.goers])
    refine x_iload_n dX8_addGoer_38 rfl ?_
    refine x_ias dX8_addGoer_39 (ArL (by assumption) (Or.inr ⟨by decide, by decide, rfl⟩)) (by omega) ?_
    refine x_aload_n dX8_addGoer_40 rfl ?_
    refine g_X8_27 dX8_addGoer_41 ?_
    refine x_aload_n dX8_addGoer_44 rfl ?_
    refine g_X8_44 dX8_addGoer_45 ?_
    first | rw [hR.goers] | (rw [show (up1 _ _ _ _).1 b 10 = M.1 b 10 by simp [up1_at], hR.goers])
    refine y_iconst (a := 0) dX8_addGoer_48 rfl ?_
    refine x_ias dX8_addGoer_49 (ArL (by assumption) (Or.inr ⟨by decide, by decide, rfl⟩)) (by omega) ?_
    refine x_aload_n dX8_addGoer_50 rfl ?_
    refine g_X8_30 dX8_addGoer_51 ?_
    refine x_aload_n dX8_addGoer_54 rfl ?_
    refine g_X8_44 dX8_addGoer_55 ?_
    first | rw [hR.goers] | (rw [show (up1 _ _ _ _).1 b 10 = M.1 b 10 by simp [up1_at], hR.goers])
    refine y_iconst (a := 0) dX8_addGoer_58 rfl ?_
    refine x_ias dX8_addGoer_59 (ArL (by assumption) (Or.inr ⟨by decide, by decide, rfl⟩)) (by omega) ?_
    refine x_aload_n dX8_addGoer_60 rfl ?_
    refine x_dup dX8_addGoer_61 rfl ?_
    refine g_X8_44 dX8_addGoer_62 ?_
    first | rw [hR.goers] | (rw [show (up1 _ _ _ _).1 b 10 = M.1 b 10 by simp [up1_at], hR.goers])
    refine y_iconst (a := 1) dX8_addGoer_65 rfl ?_
    refine y_iadd dX8_addGoer_66 ?_
    refine p_X8_44 dX8_addGoer_67 ?_
    refine x_vret dX8_addGoer_70 ?_
    obtain ⟨q0, q1, q2, q3, q4, q5, q6, q7⟩ := hR
    refine ⟨rfl, ⟨?_, ?_, ?_, ?_, ?_, ?_, fun p h1 h2 => ?_, fun g hg => ?_⟩, (((((Fr.rf.up (by omega)).up (by omega)).up (by omega)).up (by omega)).up (by omega)).up (by omega)⟩
    · rw [agV_ne (by omega) (by omega) (by omega) (by omega) (by omega) (by omega) (by omega)]; simpa [up1_at] using q0
    · rw [agV_ne (by omega) (by omega) (by omega) (by omega) (by omega) (by omega) (by omega)]; simpa [up1_at] using q1
    · simp [up1_at, agV]
    · rw [agV_ne (by omega) (by omega) (by omega) (by omega) (by omega) (by omega) (by omega)]; simpa [up1_at] using q3
    · rw [agV_ne (by omega) (by omega) (by omega) (by omega) (by omega) (by omega) (by omega)]; simpa [up1_at] using q4
    · have e : agV v k x t 2 = v 2 + 1 := rfl
      have e5 : agV v k x t 5 = v 5 ||| 2 ^ v 2 := rfl
      rw [e, e5, ag_dn _ h6 _ hw.up]
      simpa [up1_at] using q5
    · have e : agV v k x t 0 = v 0 := agV_ne (by omega) (by omega) (by omega) (by omega) (by omega) (by omega) (by omega)
      rw [e] at h2
      have e2 : agV v k x t (5 + p) = v (5 + p) := agV_ne (by omega) (by omega) (by omega) (by omega) (by omega) (by omega) (by omega)
      rw [e2]
      simpa [up1_at] using q6 p h1 h2
    · have e : agV v k x t 2 = v 2 + 1 := rfl
      rw [e] at hg
      by_cases hc : g = v 2
      · subst hc
        obtain ⟨z1, z2, z3, z4, z5⟩ := agV_n (k := k) (x := x) (t := t) h6
        rw [z1, z2, z3, z4, z5]
        refine ⟨?_, ?_, ?_, ?_, ?_⟩ <;> simp [up1_at]
      · obtain ⟨z1, z2, z3, z4, z5⟩ := q7 g (by omega)
        have a1 : agV v k x t (15 + g) = v (15 + g) := agV_ne (by omega) (by omega) (by omega) (by omega) (by omega) (by omega) (by omega)
        have a2 : agV v k x t (21 + g) = v (21 + g) := agV_ne (by omega) (by omega) (by omega) (by omega) (by omega) (by omega) (by omega)
        have a3 : agV v k x t (27 + g) = v (27 + g) := agV_ne (by omega) (by omega) (by omega) (by omega) (by omega) (by omega) (by omega)
        have a4 : agV v k x t (33 + g) = v (33 + g) := agV_ne (by omega) (by omega) (by omega) (by omega) (by omega) (by omega) (by omega)
        have a5 : agV v k x t (39 + g) = v (39 + g) := agV_ne (by omega) (by omega) (by omega) (by omega) (by omega) (by omega) (by omega)
        rw [a1, a2, a3, a4, a5]
        refine ⟨?_, ?_, ?_, ?_, ?_⟩
        · simpa [up1_at, hc] using z1
        · simpa [up1_at, hc] using z2
        · simpa [up1_at, hc] using z3
        · simpa [up1_at, hc] using z4
        · simpa [up1_at, hc] using z5
  · exfalso; omega
set_option maxRecDepth 100000 in
set_option maxHeartbeats 4000000 in
theorem c_become {Ω : Om} {l : Launch} {M : Mem} {a b : Nat} {v : Nat → Nat} (hb : Lk b) (ha : Lk a) (hab : a ≠ b) (hR : LkR M a v) (hw : Wv v) : Ct Ω l yX8_become cX8_become 2 2 none [.ref (Ω.2.2 b), .ref (Ω.2.2 a)] M (fun ro M' => ro = none ∧ LkR M' b v ∧ Fr b M M') := by
  have hn := hw.nums
  obtain ⟨a1, a2, a3⟩ := id ha
  obtain ⟨b1, b2, b3⟩ := id hb
  refine ct_of (by decide) (Nat.le_of_ble_eq_true rfl) ?_
  intro p e R s m args below meth c
  refine x_aload_n dX8_become_0 rfl ?_
  refine x_aload_n dX8_become_1 rfl ?_
  refine g_X8_37 dX8_become_2 ?_
  rw [(Fr.rf : Fr b M _).2 a (by omega)]
  refine p_X8_37 dX8_become_5 ?_
  have hF1 : Fr b M (up1 _ b 8 (M.1 a 8)) := Fr.up Fr.rf (by omega)
  refine x_aload_n dX8_become_8 rfl ?_
  refine x_aload_n dX8_become_9 rfl ?_
  refine g_X8_41 dX8_become_10 ?_
  rw [(hF1 : Fr b M _).2 a (by omega)]
  refine p_X8_41 dX8_become_13 ?_
  have hF2 : Fr b M (up1 _ b 9 (M.1 a 9)) := Fr.up hF1 (by omega)
  refine x_aload_n dX8_become_16 rfl ?_
  refine x_aload_n dX8_become_17 rfl ?_
  refine g_X8_44 dX8_become_18 ?_
  rw [(hF2 : Fr b M _).2 a (by omega)]
  refine p_X8_44 dX8_become_21 ?_
  have hF3 : Fr b M (up1 _ b 10 (M.1 a 10)) := Fr.up hF2 (by omega)
  refine x_aload_n dX8_become_24 rfl ?_
  refine x_aload_n dX8_become_25 rfl ?_
  refine g_X8_47 dX8_become_26 ?_
  rw [(hF3 : Fr b M _).2 a (by omega)]
  refine p_X8_47 dX8_become_29 ?_
  have hF4 : Fr b M (up1 _ b 11 (M.1 a 11)) := Fr.up hF3 (by omega)
  refine x_aload_n dX8_become_32 rfl ?_
  refine x_aload_n dX8_become_33 rfl ?_
  refine g_X8_50 dX8_become_34 ?_
  rw [(hF4 : Fr b M _).2 a (by omega)]
  refine p_X8_50 dX8_become_37 ?_
  have hF5 : Fr b M (up1 _ b 12 (M.1 a 12)) := Fr.up hF4 (by omega)
  refine x_aload_n dX8_become_40 rfl ?_
  refine x_aload_n dX8_become_41 rfl ?_
  refine g_X8_53 dX8_become_42 ?_
  rw [(hF5 : Fr b M _).2 a (by omega)]
  refine p_X8_53 dX8_become_45 ?_
  have hF6 : Fr b M (up1 _ b 13 (M.1 a 13)) := Fr.up hF5 (by omega)
  refine x_aload_n dX8_become_48 rfl ?_
  refine g_X8_15 dX8_become_49 ?_
  refine y_iconst (a := 0) dX8_become_52 rfl ?_
  refine x_aload_n dX8_become_53 rfl ?_
  refine g_X8_15 dX8_become_54 ?_
  refine y_iconst (a := 0) dX8_become_57 rfl ?_
  refine x_bipush (v := nI 10) dX8_become_58 rfl ?_
  refine y_copyG (M.1 (a + 2)) dX8_become_60 q_X8_56 (ArL ha (Or.inl ⟨by decide, by decide, rfl⟩)) (ArL hb (Or.inl ⟨by decide, by decide, rfl⟩)) (Nat.le_refl _) (Nat.le_refl _) (hF6.2 _ (by omega)) (fun N0 hN0 => ?_)
  have hG0 : Fr b M N0 := by rw [hN0]; exact hF6.upR (by omega)
  refine x_aload_n dX8_become_63 rfl ?_
  refine g_X8_18 dX8_become_64 ?_
  refine y_iconst (a := 0) dX8_become_67 rfl ?_
  refine x_aload_n dX8_become_68 rfl ?_
  refine g_X8_18 dX8_become_69 ?_
  refine y_iconst (a := 0) dX8_become_72 rfl ?_
  refine x_bipush (v := nI 6) dX8_become_73 rfl ?_
  refine y_copyG (M.1 (a + 3)) dX8_become_75 q_X8_56 (ArL ha (Or.inr ⟨by decide, by decide, rfl⟩)) (ArL hb (Or.inr ⟨by decide, by decide, rfl⟩)) (Nat.le_refl _) (Nat.le_refl _) (hG0.2 _ (by omega)) (fun N1 hN1 => ?_)
  have hG1 : Fr b M N1 := by rw [hN1]; exact hG0.upR (by omega)
  refine x_aload_n dX8_become_78 rfl ?_
  refine g_X8_21 dX8_become_79 ?_
  refine y_iconst (a := 0) dX8_become_82 rfl ?_
  refine x_aload_n dX8_become_83 rfl ?_
  refine g_X8_21 dX8_become_84 ?_
  refine y_iconst (a := 0) dX8_become_87 rfl ?_
  refine x_bipush (v := nI 6) dX8_become_88 rfl ?_
  refine y_copyG (M.1 (a + 4)) dX8_become_90 q_X8_56 (ArL ha (Or.inr ⟨by decide, by decide, rfl⟩)) (ArL hb (Or.inr ⟨by decide, by decide, rfl⟩)) (Nat.le_refl _) (Nat.le_refl _) (hG1.2 _ (by omega)) (fun N2 hN2 => ?_)
  have hG2 : Fr b M N2 := by rw [hN2]; exact hG1.upR (by omega)
  refine x_aload_n dX8_become_93 rfl ?_
  refine g_X8_24 dX8_become_94 ?_
  refine y_iconst (a := 0) dX8_become_97 rfl ?_
  refine x_aload_n dX8_become_98 rfl ?_
  refine g_X8_24 dX8_become_99 ?_
  refine y_iconst (a := 0) dX8_become_102 rfl ?_
  refine x_bipush (v := nI 6) dX8_become_103 rfl ?_
  refine y_copyG (M.1 (a + 5)) dX8_become_105 q_X8_56 (ArL ha (Or.inr ⟨by decide, by decide, rfl⟩)) (ArL hb (Or.inr ⟨by decide, by decide, rfl⟩)) (Nat.le_refl _) (Nat.le_refl _) (hG2.2 _ (by omega)) (fun N3 hN3 => ?_)
  have hG3 : Fr b M N3 := by rw [hN3]; exact hG2.upR (by omega)
  refine x_aload_n dX8_become_108 rfl ?_
  refine g_X8_27 dX8_become_109 ?_
  refine y_iconst (a := 0) dX8_become_112 rfl ?_
  refine x_aload_n dX8_become_113 rfl ?_
  refine g_X8_27 dX8_become_114 ?_
  refine y_iconst (a := 0) dX8_become_117 rfl ?_
  refine x_bipush (v := nI 6) dX8_become_118 rfl ?_
  refine y_copyG (M.1 (a + 6)) dX8_become_120 q_X8_56 (ArL ha (Or.inr ⟨by decide, by decide, rfl⟩)) (ArL hb (Or.inr ⟨by decide, by decide, rfl⟩)) (Nat.le_refl _) (Nat.le_refl _) (hG3.2 _ (by omega)) (fun N4 hN4 => ?_)
  have hG4 : Fr b M N4 := by rw [hN4]; exact hG3.upR (by omega)
  refine x_aload_n dX8_become_123 rfl ?_
  refine g_X8_30 dX8_become_124 ?_
  refine y_iconst (a := 0) dX8_become_127 rfl ?_
  refine x_aload_n dX8_become_128 rfl ?_
  refine g_X8_30 dX8_become_129 ?_
  refine y_iconst (a := 0) dX8_become_132 rfl ?_
  refine x_bipush (v := nI 6) dX8_become_133 rfl ?_
  refine y_copyG (M.1 (a + 7)) dX8_become_135 q_X8_56 (ArL ha (Or.inr ⟨by decide, by decide, rfl⟩)) (ArL hb (Or.inr ⟨by decide, by decide, rfl⟩)) (Nat.le_refl _) (Nat.le_refl _) (hG4.2 _ (by omega)) (fun N5 hN5 => ?_)
  have hG5 : Fr b M N5 := by rw [hN5]; exact hG4.upR (by omega)
  refine x_vret dX8_become_138 ?_
  obtain ⟨q0, q1, q2, q3, q4, q5, q6, q7⟩ := hR
  refine ⟨rfl, ?_, hG5⟩
  rw [hN5, hN4, hN3, hN2, hN1, hN0]
  refine ⟨?_, ?_, ?_, ?_, ?_, ?_, fun p h1 h2 => ?_, fun g hg => ?_⟩
  · simpa [upR_at, up1_at] using q0
  · simpa [upR_at, up1_at] using q1
  · simpa [upR_at, up1_at] using q2
  · simpa [upR_at, up1_at] using q3
  · simpa [upR_at, up1_at] using q4
  · simpa [upR_at, up1_at] using q5
  · have h9 : p < 10 := by omega
    simpa [upR_at, up1_at, h9] using q6 p h1 h2
  · have h6 : g < 6 := by omega
    obtain ⟨z1, z2, z3, z4, z5⟩ := q7 g hg
    refine ⟨?_, ?_, ?_, ?_, ?_⟩
    · simpa [upR_at, up1_at, h6] using z1
    · simpa [upR_at, up1_at, h6] using z2
    · simpa [upR_at, up1_at, h6] using z3
    · simpa [upR_at, up1_at, h6] using z4
    · simpa [upR_at, up1_at, h6] using z5
