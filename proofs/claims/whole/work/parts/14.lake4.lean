/-! LAKE, what reads further, and what changes (laid by gen_lake4.py) -/
theorem nI_m1 {q : Nat} (h : q < 2 ^ 31) : ¬ nI q = -1 := by
  intro z
  have := congrArg Int32.toInt z
  rw [nI_toInt h] at this
  have e : (-1 : Int32).toInt = -1 := rfl
  omega
theorem pop_small : ∀ a, a < 64 → pop a ≤ 6 := by decide +kernel
set_option maxRecDepth 100000 in
set_option maxHeartbeats 4000000 in
theorem c_highestSound {Ω : Om} {l : Launch} {M : Mem} {b : Nat} {v : Nat → Nat} (hb : Lk b) (hR : LkR M b v) (hw : Wv v)  : Ct Ω l yX8_highestSound cX8_highestSound 2 1 (some .int) [.ref (Ω.2.2 b)] M (fun r M' => r = some (.int (nI (hiS v))) ∧ M = M') := by
  have hn := hw.nums
  refine ct_of (by decide) (Nat.le_of_ble_eq_true rfl) ?_
  intro p e R s m args below meth c
  have key : ∀ (k : Nat) , k ≤ v 0 ∧ hiS v = hiN v k → X (mkG p l e R s m args below meth c Ω (fun r M' => r = some (.int (nI (hiS v))) ∧ M = M')) Ω RX8 cX8_highestSound 2 1 (some .int) 5 [some (.ref (Ω.2.2 b)), some (.int (nI k))] [] M := by
    intro k
    induction k with
    | zero =>
      intro hk
      refine x_iload_n dX8_highestSound_5 rfl ?_
      refine y_iconst (a := 1) dX8_highestSound_6 rfl ?_
      refine y_icmp_lt 25 dX8_highestSound_7 (by omega) (by omega) (fun h_7 => ?_) (fun h_7 => ?_)
      · refine x_iload_n dX8_highestSound_25 rfl ?_
        refine x_iret dX8_highestSound_26 ?_
        exact ⟨by first | (exfalso; omega) | (rw [hk.2]; simp [hiN, *]), rfl⟩
      · exfalso; omega
    | succ k ih =>
      intro hk
      refine x_iload_n dX8_highestSound_5 rfl ?_
      refine y_iconst (a := 1) dX8_highestSound_6 rfl ?_
      refine y_icmp_lt 25 dX8_highestSound_7 (by omega) (by omega) (fun h_7 => ?_) (fun h_7 => ?_)
      · refine x_iload_n dX8_highestSound_25 rfl ?_
        refine x_iret dX8_highestSound_26 ?_
        exact ⟨by first | (exfalso; omega) | (rw [hk.2]; simp [hiN, *]), rfl⟩
      · refine x_aload_n dX8_highestSound_10 rfl ?_
        refine g_X8_15 dX8_highestSound_11 ?_
        refine x_iload_n dX8_highestSound_14 rfl ?_
        refine x_ial dX8_highestSound_15 (ArL (by assumption) (Or.inl ⟨by decide, by decide, rfl⟩)) (by omega) ?_
        rw [hR.strength (by omega)]
        have hs := hw.str (p := k + 1) (by omega)
        rw [show 5 + (k + 1) = 6 + k by omega] at hs ⊢
        refine y_if_ne 25 dX8_highestSound_16 (by omega) (fun h_16 => ?_) (fun h_16 => ?_)
        · refine x_iload_n dX8_highestSound_25 rfl ?_
          refine x_iret dX8_highestSound_26 ?_
          exact ⟨by first | (exfalso; omega) | (rw [hk.2]; simp [hiN, *]), rfl⟩
        · refine y_idec dX8_highestSound_19 rfl ?_
          refine x_goto 5 dX8_highestSound_22 ?_
          exact ih ⟨by omega, by rw [hk.2]; simp [hiN, *]⟩
  refine x_aload_n dX8_highestSound_0 rfl ?_
  refine g_X8_37 dX8_highestSound_1 ?_
  rw [hR.rungs]
  refine x_istore_n dX8_highestSound_4 ?_
  exact key _ ⟨Nat.le_refl _, rfl⟩
set_option maxRecDepth 100000 in
set_option maxHeartbeats 4000000 in
theorem c_highestGap {Ω : Om} {l : Launch} {M : Mem} {b : Nat} {v : Nat → Nat} (hb : Lk b) (hR : LkR M b v) (hw : Wv v) (h0 : 1 ≤ v 0) : Ct Ω l yX8_highestGap cX8_highestGap 2 1 (some .int) [.ref (Ω.2.2 b)] M (fun r M' => r = some (.int (nI (gap v))) ∧ M = M') := by
  have hn := hw.nums
  refine ct_of (by decide) (Nat.le_of_ble_eq_true rfl) ?_
  intro p e R s m args below meth c
  have key : ∀ (k : Nat) , k + 1 ≤ v 0 ∧ gap v = gapN v k → X (mkG p l e R s m args below meth c Ω (fun r M' => r = some (.int (nI (gap v))) ∧ M = M')) Ω RX8 cX8_highestGap 2 1 (some .int) 7 [some (.ref (Ω.2.2 b)), some (.int (nI k))] [] M := by
    intro k
    induction k with
    | zero =>
      intro hk
      refine x_iload_n dX8_highestGap_7 rfl ?_
      refine y_iconst (a := 1) dX8_highestGap_8 rfl ?_
      refine y_icmp_lt 40 dX8_highestGap_9 (by omega) (by omega) (fun h_9 => ?_) (fun h_9 => ?_)
      · refine y_iconst (a := 0) dX8_highestGap_40 rfl ?_
        refine x_iret dX8_highestGap_41 ?_
        exact ⟨by first | (exfalso; omega) | (rw [hk.2]; simp [gapN, *]), rfl⟩
      · exfalso; omega
    | succ k ih =>
      intro hk
      refine x_iload_n dX8_highestGap_7 rfl ?_
      refine y_iconst (a := 1) dX8_highestGap_8 rfl ?_
      refine y_icmp_lt 40 dX8_highestGap_9 (by omega) (by omega) (fun h_9 => ?_) (fun h_9 => ?_)
      · refine y_iconst (a := 0) dX8_highestGap_40 rfl ?_
        refine x_iret dX8_highestGap_41 ?_
        exact ⟨by first | (exfalso; omega) | (rw [hk.2]; simp [gapN, *]), rfl⟩
      · refine x_aload_n dX8_highestGap_12 rfl ?_
        refine g_X8_15 dX8_highestGap_13 ?_
        refine x_iload_n dX8_highestGap_16 rfl ?_
        refine x_ial dX8_highestGap_17 (ArL (by assumption) (Or.inl ⟨by decide, by decide, rfl⟩)) (by omega) ?_
        rw [hR.strength (by omega)]
        have hs := hw.str (p := k + 1) (by omega)
        rw [show 5 + (k + 1) = 6 + k by omega] at hs ⊢
        refine y_if_ne 34 dX8_highestGap_18 (by omega) (fun h_18 => ?_) (fun h_18 => ?_)
        · refine y_idec dX8_highestGap_34 rfl ?_
          refine x_goto 7 dX8_highestGap_37 ?_
          exact ih ⟨by omega, by rw [hk.2]; simp [gapN, *]⟩
        · refine x_aload_n dX8_highestGap_21 rfl ?_
          refine g_X8_15 dX8_highestGap_22 ?_
          refine x_iload_n dX8_highestGap_25 rfl ?_
          refine y_iconst (a := 1) dX8_highestGap_26 rfl ?_
          refine y_iadd dX8_highestGap_27 ?_
          refine x_ial dX8_highestGap_28 (ArL (by assumption) (Or.inl ⟨by decide, by decide, rfl⟩)) (by omega) ?_
          rw [hR.strength (by omega)]
          have hs2 := hw.str (p := k + 1 + 1) (by omega)
          rw [show 5 + (k + 1 + 1) = 7 + k by omega] at hs2 ⊢
          refine y_if_ne 34 dX8_highestGap_29 (by omega) (fun h_29 => ?_) (fun h_29 => ?_)
          · refine y_idec dX8_highestGap_34 rfl ?_
            refine x_goto 7 dX8_highestGap_37 ?_
            exact ih ⟨by omega, by rw [hk.2]; simp [gapN, *]⟩
          · refine x_iload_n dX8_highestGap_32 rfl ?_
            refine x_iret dX8_highestGap_33 ?_
            exact ⟨by first | (exfalso; omega) | (rw [hk.2]; simp [gapN, *]), rfl⟩
  refine x_aload_n dX8_highestGap_0 rfl ?_
  refine g_X8_37 dX8_highestGap_1 ?_
  rw [hR.rungs]
  refine y_iconst (a := 1) dX8_highestGap_4 rfl ?_
  refine y_isub dX8_highestGap_5 (by omega) ?_
  refine x_istore_n dX8_highestGap_6 ?_
  exact key _ ⟨by omega, rfl⟩
set_option maxRecDepth 100000 in
set_option maxHeartbeats 4000000 in
theorem c_sortOf {Ω : Om} {l : Launch} {M : Mem} {b : Nat} {v : Nat → Nat} (hb : Lk b) (hR : LkR M b v) (hw : Wv v) {g : Nat} (hg : g < v 2) : Ct Ω l yX8_sortOf cX8_sortOf 2 1 (some (.object "LadderSprings$Goer")) [.ref (Ω.2.2 b), .int (nI g)] M (fun r M' => r = some (.ref (Ω.2.2 (8 + v (15 + g)))) ∧ M = M') := by
  have hn := hw.nums
  have hgo := hw.goer hg
  refine ct_of (by decide) (Nat.le_of_ble_eq_true rfl) ?_
  intro p e R s m args below meth c
  refine x_aload_n dX8_sortOf_0 rfl ?_
  refine g_X8_33 dX8_sortOf_1 ?_
  refine x_aload_n dX8_sortOf_4 rfl ?_
  refine g_X8_18 dX8_sortOf_5 ?_
  refine x_iload_n dX8_sortOf_8 rfl ?_
  refine x_ial dX8_sortOf_9 (ArL (by assumption) (Or.inr ⟨by decide, by decide, rfl⟩)) (by omega) ?_
  rw [hR.kind (by omega)]
  refine x_kinds ⟨by omega, by omega⟩ dX8_sortOf_10 ?_
  refine x_aret dX8_sortOf_11 (Or.inr ⟨_, rfl⟩) ?_
  exact ⟨rfl, rfl⟩
set_option maxRecDepth 100000 in
set_option maxHeartbeats 4000000 in
theorem c_mayRise {Ω : Om} {l : Launch} {M : Mem} {b : Nat} {v : Nat → Nat} (hb : Lk b) (hR : LkR M b v) (hw : Wv v) (h0 : 1 ≤ v 0) {g : Nat} (hg : g < v 2) : Ct Ω l yX8_mayRise cX8_mayRise 2 2 (some .boolean) [.ref (Ω.2.2 b), .int (nI g)] M (fun r M' => r = some (.int (bI (mayR v g))) ∧ M = M') := by
  have hn := hw.nums
  have hgo := hw.goer hg
  have hga : gap v ≤ v 0 := Nat.le_trans (gapN_le v _) (by omega)
  refine ct_of (by decide) (Nat.le_of_ble_eq_true rfl) ?_
  intro p e R s m args below meth c
  refine x_aload_n dX8_mayRise_0 rfl ?_
  refine g_X8_27 dX8_mayRise_1 ?_
  refine x_iload_n dX8_mayRise_4 rfl ?_
  refine x_ial dX8_mayRise_5 (ArL (by assumption) (Or.inr ⟨by decide, by decide, rfl⟩)) (by omega) ?_
  rw [hR.place (by omega)]
  refine x_aload_n dX8_mayRise_6 rfl ?_
  refine q_X8_119 (c_highestGap hb hR hw h0) dX8_mayRise_7 rfl ?_
  rintro _ _ ⟨rfl, rfl⟩
  refine y_icmp_lt 49 dX8_mayRise_10 (by omega) (by omega) (fun h_10 => ?_) (fun h_10 => ?_)
  · refine y_iconst (a := 0) dX8_mayRise_49 rfl ?_
    first | refine z_iret dX8_mayRise_50 ?_ | refine z_iret0 dX8_mayRise_50 ?_ | refine z_iret1 dX8_mayRise_50 ?_
    refine ⟨congrArg (fun z => some (Value.int (bI z))) ?_, rfl⟩
    simp_all [mayR] <;> omega
  · refine x_aload_n dX8_mayRise_13 rfl ?_
    refine g_X8_27 dX8_mayRise_14 ?_
    refine x_iload_n dX8_mayRise_17 rfl ?_
    refine x_ial dX8_mayRise_18 (ArL (by assumption) (Or.inr ⟨by decide, by decide, rfl⟩)) (by omega) ?_
    rw [hR.place (by omega)]
    refine x_aload_n dX8_mayRise_19 rfl ?_
    refine g_X8_37 dX8_mayRise_20 ?_
    rw [hR.rungs]
    refine y_icmp_gt 49 dX8_mayRise_23 (by omega) (by omega) (fun h_23 => ?_) (fun h_23 => ?_)
    · refine y_iconst (a := 0) dX8_mayRise_49 rfl ?_
      first | refine z_iret dX8_mayRise_50 ?_ | refine z_iret0 dX8_mayRise_50 ?_ | refine z_iret1 dX8_mayRise_50 ?_
      refine ⟨congrArg (fun z => some (Value.int (bI z))) ?_, rfl⟩
      simp_all [mayR] <;> omega
    · refine x_aload_n dX8_mayRise_26 rfl ?_
      refine x_iload_n dX8_mayRise_27 rfl ?_
      refine q_X8_100 (c_isHeld hb hR hw hg) dX8_mayRise_28 rfl ?_
      rintro _ _ ⟨rfl, rfl⟩
      refine z_if_ne 49 dX8_mayRise_31 (fun h_31 => ?_) (fun h_31 => ?_)
      · refine y_iconst (a := 0) dX8_mayRise_49 rfl ?_
        first | refine z_iret dX8_mayRise_50 ?_ | refine z_iret0 dX8_mayRise_50 ?_ | refine z_iret1 dX8_mayRise_50 ?_
        refine ⟨congrArg (fun z => some (Value.int (bI z))) ?_, rfl⟩
        simp_all [mayR] <;> omega
      · refine x_aload_n dX8_mayRise_34 rfl ?_
        refine x_iload_n dX8_mayRise_35 rfl ?_
        refine q_X8_103 (c_sortOf hb hR hw hg) dX8_mayRise_36 rfl ?_
        rintro _ _ ⟨rfl, rfl⟩
        refine x_inst1 ⟨by omega, by omega⟩ dX8_mayRise_39 i_X8_122 ?_
        refine z_if_eq 49 dX8_mayRise_42 (fun h_42 => ?_) (fun h_42 => ?_)
        · refine y_iconst (a := 0) dX8_mayRise_49 rfl ?_
          first | refine z_iret dX8_mayRise_50 ?_ | refine z_iret0 dX8_mayRise_50 ?_ | refine z_iret1 dX8_mayRise_50 ?_
          refine ⟨congrArg (fun z => some (Value.int (bI z))) ?_, rfl⟩
          simp_all [mayR] <;> omega
        · refine y_iconst (a := 1) dX8_mayRise_45 rfl ?_
          refine x_goto 50 dX8_mayRise_46 ?_
          first | refine z_iret dX8_mayRise_50 ?_ | refine z_iret0 dX8_mayRise_50 ?_ | refine z_iret1 dX8_mayRise_50 ?_
          refine ⟨congrArg (fun z => some (Value.int (bI z))) ?_, rfl⟩
          simp_all [mayR] <;> omega
set_option maxRecDepth 100000 in
set_option maxHeartbeats 4000000 in
theorem c_howManyMayRise {Ω : Om} {l : Launch} {M : Mem} {b : Nat} {v : Nat → Nat} (hb : Lk b) (hR : LkR M b v) (hw : Wv v) (h0 : 1 ≤ v 0) : Ct Ω l yX8_howManyMayRise cX8_howManyMayRise 3 3 (some .int) [.ref (Ω.2.2 b)] M (fun r M' => r = some (.int (nI (cntN (mayR v) (v 2)))) ∧ M = M') := by
  have hn := hw.nums
  refine ct_of (by decide) (Nat.le_of_ble_eq_true rfl) ?_
  intro p e R s m args below meth c
  have key : ∀ (k : Nat) (g : Nat), g + k = v 2 → X (mkG p l e R s m args below meth c Ω (fun r M' => r = some (.int (nI (cntN (mayR v) (v 2)))) ∧ M = M')) Ω RX8 cX8_howManyMayRise 3 3 (some .int) 4 [some (.ref (Ω.2.2 b)), some (.int (nI (cntN (mayR v) g))), some (.int (nI g))] [] M := by
    intro k
    induction k with
    | zero =>
      intro g hk
      refine x_iload_n dX8_howManyMayRise_4 rfl ?_
      refine x_aload_n dX8_howManyMayRise_5 rfl ?_
      refine g_X8_44 dX8_howManyMayRise_6 ?_
      rw [hR.goers]
      refine y_icmp_ge 29 dX8_howManyMayRise_9 (by omega) (by omega) (fun h_9 => ?_) (fun h_9 => ?_)
      · obtain rfl : g = v 2 := by omega
        refine x_iload_n dX8_howManyMayRise_29 rfl ?_
        refine x_iret dX8_howManyMayRise_30 ?_
        exact ⟨rfl, rfl⟩
      · exfalso; omega
    | succ k ih =>
      intro g hk
      refine x_iload_n dX8_howManyMayRise_4 rfl ?_
      refine x_aload_n dX8_howManyMayRise_5 rfl ?_
      refine g_X8_44 dX8_howManyMayRise_6 ?_
      rw [hR.goers]
      refine y_icmp_ge 29 dX8_howManyMayRise_9 (by omega) (by omega) (fun h_9 => ?_) (fun h_9 => ?_)
      · obtain rfl : g = v 2 := by omega
        refine x_iload_n dX8_howManyMayRise_29 rfl ?_
        refine x_iret dX8_howManyMayRise_30 ?_
        exact ⟨rfl, rfl⟩
      · have hgo := hw.goer (g := g) (by omega)
        refine x_aload_n dX8_howManyMayRise_12 rfl ?_
        refine x_iload_n dX8_howManyMayRise_13 rfl ?_
        refine q_X8_124 (c_mayRise hb hR hw h0 (by omega)) dX8_howManyMayRise_14 rfl ?_
        rintro _ _ ⟨rfl, rfl⟩
        refine z_if_eq 23 dX8_howManyMayRise_17 (fun h_17 => ?_) (fun h_17 => ?_)
        · refine y_iinc dX8_howManyMayRise_23 rfl ?_
          refine x_goto 4 dX8_howManyMayRise_26 ?_
          have hh := ih (g + 1) (by omega)
          simp [cntN, *] at hh
          exact hh
        · refine y_iinc dX8_howManyMayRise_20 rfl ?_
          refine y_iinc dX8_howManyMayRise_23 rfl ?_
          refine x_goto 4 dX8_howManyMayRise_26 ?_
          have hh := ih (g + 1) (by omega)
          simp [cntN, *] at hh
          exact hh
  refine y_iconst (a := 0) dX8_howManyMayRise_0 rfl ?_
  refine x_istore_n dX8_howManyMayRise_1 ?_
  refine y_iconst (a := 0) dX8_howManyMayRise_2 rfl ?_
  refine x_istore_n dX8_howManyMayRise_3 ?_
  exact key _ 0 (Nat.zero_add _)
theorem k_J6_265 : Cond.constant RJ6 265 1431655765 ∈ tbw := tb 743 (by decide +kernel) (by decide +kernel)
theorem k_J6_266 : Cond.constant RJ6 266 858993459 ∈ tbw := tb 744 (by decide +kernel) (by decide +kernel)
theorem k_J6_267 : Cond.constant RJ6 267 252645135 ∈ tbw := tb 745 (by decide +kernel) (by decide +kernel)
def bcu (x y : Int32) : Int32 := (x.toUInt32 >>> (y.toUInt32 &&& Int32.toUInt32 31)).toInt32
def bcE (x : Int32) : Int32 :=
  let x1 := x - (bcu x 1 &&& 1431655765)
  let x2 := (x1 &&& 858993459) + (bcu x1 2 &&& 858993459)
  let x3 := (x2 + bcu x2 4) &&& 252645135
  let x4 := x3 + bcu x3 8
  let x5 := x4 + bcu x4 16
  x5 &&& 63
set_option maxRecDepth 100000 in
theorem bcE_pop : ∀ a, a < 1024 → bcE (nI a) = nI (pop a) := by decide +kernel
set_option maxRecDepth 100000 in
set_option maxHeartbeats 4000000 in
theorem c_bitCount {Ω : Om} {l : Launch} {M : Mem} {a : Nat} (ha : a < 1024) : Ct Ω l yJ6_bitCount_0f7a4 cJ6_bitCount_0f7a4 1 1 (some .int) [.int (nI a)] M (fun r M' => r = some (.int (nI (pop a))) ∧ M = M') := by
  refine ct_of (by decide) (Nat.le_of_ble_eq_true rfl) ?_
  intro p e R s m args below meth c
  refine x_iload_n dJ6_bitCount_0f7a4_0 rfl ?_
  refine x_iload_n dJ6_bitCount_0f7a4_1 rfl ?_
  refine x_iconst (v := 1) dJ6_bitCount_0f7a4_2 rfl ?_
  refine x_iushr dJ6_bitCount_0f7a4_3 ?_
  refine x_ldcw dJ6_bitCount_0f7a4_4 k_J6_265 ?_
  refine x_iand dJ6_bitCount_0f7a4_7 ?_
  refine x_isub dJ6_bitCount_0f7a4_8 ?_
  refine x_istore_n dJ6_bitCount_0f7a4_9 ?_
  refine x_iload_n dJ6_bitCount_0f7a4_10 rfl ?_
  refine x_ldcw dJ6_bitCount_0f7a4_11 k_J6_266 ?_
  refine x_iand dJ6_bitCount_0f7a4_14 ?_
  refine x_iload_n dJ6_bitCount_0f7a4_15 rfl ?_
  refine x_iconst (v := 2) dJ6_bitCount_0f7a4_16 rfl ?_
  refine x_iushr dJ6_bitCount_0f7a4_17 ?_
  refine x_ldcw dJ6_bitCount_0f7a4_18 k_J6_266 ?_
  refine x_iand dJ6_bitCount_0f7a4_21 ?_
  refine x_iadd dJ6_bitCount_0f7a4_22 ?_
  refine x_istore_n dJ6_bitCount_0f7a4_23 ?_
  refine x_iload_n dJ6_bitCount_0f7a4_24 rfl ?_
  refine x_iload_n dJ6_bitCount_0f7a4_25 rfl ?_
  refine x_iconst (v := 4) dJ6_bitCount_0f7a4_26 rfl ?_
  refine x_iushr dJ6_bitCount_0f7a4_27 ?_
  refine x_iadd dJ6_bitCount_0f7a4_28 ?_
  refine x_ldcw dJ6_bitCount_0f7a4_29 k_J6_267 ?_
  refine x_iand dJ6_bitCount_0f7a4_32 ?_
  refine x_istore_n dJ6_bitCount_0f7a4_33 ?_
  refine x_iload_n dJ6_bitCount_0f7a4_34 rfl ?_
  refine x_iload_n dJ6_bitCount_0f7a4_35 rfl ?_
  refine x_bipush (v := 8) dJ6_bitCount_0f7a4_36 rfl ?_
  refine x_iushr dJ6_bitCount_0f7a4_38 ?_
  refine x_iadd dJ6_bitCount_0f7a4_39 ?_
  refine x_istore_n dJ6_bitCount_0f7a4_40 ?_
  refine x_iload_n dJ6_bitCount_0f7a4_41 rfl ?_
  refine x_iload_n dJ6_bitCount_0f7a4_42 rfl ?_
  refine x_bipush (v := 16) dJ6_bitCount_0f7a4_43 rfl ?_
  refine x_iushr dJ6_bitCount_0f7a4_45 ?_
  refine x_iadd dJ6_bitCount_0f7a4_46 ?_
  refine x_istore_n dJ6_bitCount_0f7a4_47 ?_
  refine x_iload_n dJ6_bitCount_0f7a4_48 rfl ?_
  refine x_bipush (v := 63) dJ6_bitCount_0f7a4_49 rfl ?_
  refine x_iand dJ6_bitCount_0f7a4_51 ?_
  refine x_iret dJ6_bitCount_0f7a4_52 ?_
  exact ⟨congrArg (fun z => some (Value.int z)) (bcE_pop a ha), rfl⟩
set_option maxRecDepth 100000 in
set_option maxHeartbeats 4000000 in
theorem c_howManyAbove {Ω : Om} {l : Launch} {M : Mem} {b : Nat} {v : Nat → Nat} (hb : Lk b) (hR : LkR M b v) (hw : Wv v)  : Ct Ω l yX8_howManyAbove cX8_howManyAbove 1 2 (some .int) [.ref (Ω.2.2 b)] M (fun r M' => r = some (.int (nI (pop (whoA v (v 0 + 1))))) ∧ M = M') := by
  have hn := hw.nums
  refine ct_of (by decide) (Nat.le_of_ble_eq_true rfl) ?_
  intro p e R s m args below meth c
  refine x_aload_n dX8_howManyAbove_0 rfl ?_
  refine x_aload_n dX8_howManyAbove_1 rfl ?_
  refine q_X8_62 (c_top hb hR hw) dX8_howManyAbove_2 rfl ?_
  rintro _ _ ⟨rfl, rfl⟩
  refine q_X8_66 (c_whoIsAt hb hR hw (by omega)) dX8_howManyAbove_5 rfl ?_
  rintro _ _ ⟨rfl, rfl⟩
  refine q_X8_70 (c_bitCount (by have := whoA_lt hw (v 0 + 1); omega)) dX8_howManyAbove_8 rfl ?_
  rintro _ _ ⟨rfl, rfl⟩
  refine x_iret dX8_howManyAbove_11 ?_
  exact ⟨rfl, rfl⟩
