/-! LAKE, what only reads (laid by gen_lake1.py) -/
set_option maxRecDepth 100000 in
set_option maxHeartbeats 4000000 in
theorem c_top {Ω : Om} {l : Launch} {M : Mem} {b : Nat} {v : Nat → Nat} (hb : Lk b) (hR : LkR M b v) (hw : Wv v)  : Ct Ω l yX8_top cX8_top 1 1 (some .int) [.ref (Ω.2.2 b)] M (fun r M' => r = some (.int (nI (v 0 + 1))) ∧ M = M') := by
  have hn := hw.nums
  refine ct_of (by decide) (Nat.le_of_ble_eq_true rfl) ?_
  intro p e R s m args below meth c
  refine x_aload_n dX8_top_0 rfl ?_
  refine g_X8_37 dX8_top_1 ?_
  rw [hR.rungs]
  refine y_iconst (a := 1) dX8_top_4 rfl ?_
  refine y_iadd dX8_top_5 ?_
  refine x_iret dX8_top_6 ?_
  exact ⟨rfl, rfl⟩
set_option maxRecDepth 100000 in
set_option maxHeartbeats 4000000 in
theorem c_loadOf {Ω : Om} {l : Launch} {M : Mem} {b : Nat} {v : Nat → Nat} (hb : Lk b) (hR : LkR M b v) (hw : Wv v) {g : Nat} (hg : g < v 2) : Ct Ω l yX8_loadOf cX8_loadOf 2 1 (some .int) [.ref (Ω.2.2 b), .int (nI g)] M (fun r M' => r = some (.int (nI (lo v g))) ∧ M = M') := by
  have hn := hw.nums
  have hgo := hw.goer hg
  refine ct_of (by decide) (Nat.le_of_ble_eq_true rfl) ?_
  intro p e R s m args below meth c
  refine x_aload_n dX8_loadOf_0 rfl ?_
  refine g_X8_18 dX8_loadOf_1 ?_
  refine x_iload_n dX8_loadOf_4 rfl ?_
  refine x_ial dX8_loadOf_5 (ArL (by assumption) (Or.inr ⟨by decide, by decide, rfl⟩)) (by omega) ?_
  rw [hR.kind (by omega)]
  refine y_iconst (a := 5) dX8_loadOf_6 rfl ?_
  refine y_icmp_ne 21 dX8_loadOf_7 (by omega) (by omega) (fun h_7 => ?_) (fun h_7 => ?_)
  · refine x_aload_n dX8_loadOf_21 rfl ?_
    refine g_X8_21 dX8_loadOf_22 ?_
    refine x_iload_n dX8_loadOf_25 rfl ?_
    refine x_ial dX8_loadOf_26 (ArL (by assumption) (Or.inr ⟨by decide, by decide, rfl⟩)) (by omega) ?_
    rw [hR.weight (by omega)]
    refine x_iret dX8_loadOf_27 ?_
    exact ⟨by simp [lo, *], rfl⟩
  · refine x_aload_n dX8_loadOf_10 rfl ?_
    refine g_X8_21 dX8_loadOf_11 ?_
    refine x_iload_n dX8_loadOf_14 rfl ?_
    refine x_ial dX8_loadOf_15 (ArL (by assumption) (Or.inr ⟨by decide, by decide, rfl⟩)) (by omega) ?_
    rw [hR.weight (by omega)]
    refine y_iconst (a := 2) dX8_loadOf_16 rfl ?_
    refine y_idiv dX8_loadOf_17 (by omega) (by omega) (by omega) ?_
    refine x_goto 27 dX8_loadOf_18 ?_
    refine x_iret dX8_loadOf_27 ?_
    exact ⟨by simp [lo, *], rfl⟩
set_option maxRecDepth 100000 in
set_option maxHeartbeats 4000000 in
theorem c_isHeld {Ω : Om} {l : Launch} {M : Mem} {b : Nat} {v : Nat → Nat} (hb : Lk b) (hR : LkR M b v) (hw : Wv v) {g : Nat} (hg : g < v 2) : Ct Ω l yX8_isHeld cX8_isHeld 2 1 (some .boolean) [.ref (Ω.2.2 b), .int (nI g)] M (fun r M' => r = some (.int (bI (hld v g))) ∧ M = M') := by
  have hn := hw.nums
  refine ct_of (by decide) (Nat.le_of_ble_eq_true rfl) ?_
  intro p e R s m args below meth c
  refine x_aload_n dX8_isHeld_0 rfl ?_
  refine g_X8_50 dX8_isHeld_1 ?_
  rw [hR.held]
  refine x_iload_n dX8_isHeld_4 rfl ?_
  refine y_ishr dX8_isHeld_5 (by omega) (by omega) ?_
  refine y_iconst (a := 1) dX8_isHeld_6 rfl ?_
  refine y_iand dX8_isHeld_7 ?_
  rw [and1]
  have hc : (if (v 4).testBit g = true then 1 else 0) < 2 := by split <;> omega
  refine y_iconst (a := 1) dX8_isHeld_8 rfl ?_
  refine y_icmp_ne 16 dX8_isHeld_9 (by omega) (by omega) (fun h_9 => ?_) (fun h_9 => ?_)
  · refine y_iconst (a := 0) dX8_isHeld_16 rfl ?_
    first | refine z_iret dX8_isHeld_17 ?_ | refine z_iret0 dX8_isHeld_17 ?_ | refine z_iret1 dX8_isHeld_17 ?_
    exact ⟨by simp_all [hld], rfl⟩
  · refine y_iconst (a := 1) dX8_isHeld_12 rfl ?_
    refine x_goto 17 dX8_isHeld_13 ?_
    first | refine z_iret dX8_isHeld_17 ?_ | refine z_iret0 dX8_isHeld_17 ?_ | refine z_iret1 dX8_isHeld_17 ?_
    exact ⟨by simp_all [hld], rfl⟩
set_option maxRecDepth 100000 in
set_option maxHeartbeats 4000000 in
theorem c_isOnWayUp {Ω : Om} {l : Launch} {M : Mem} {b : Nat} {v : Nat → Nat} (hb : Lk b) (hR : LkR M b v) (hw : Wv v) {g : Nat} (hg : g < v 2) : Ct Ω l yX8_isOnWayUp cX8_isOnWayUp 2 1 (some .boolean) [.ref (Ω.2.2 b), .int (nI g)] M (fun r M' => r = some (.int (bI (upw v g))) ∧ M = M') := by
  have hn := hw.nums
  have hd := hw.dn64
  refine ct_of (by decide) (Nat.le_of_ble_eq_true rfl) ?_
  intro p e R s m args below meth c
  refine x_aload_n dX8_isOnWayUp_0 rfl ?_
  refine g_X8_53 dX8_isOnWayUp_1 ?_
  rw [hR.down]
  refine x_iload_n dX8_isOnWayUp_4 rfl ?_
  refine y_ishr dX8_isOnWayUp_5 (by omega) (by omega) ?_
  refine y_iconst (a := 1) dX8_isOnWayUp_6 rfl ?_
  refine y_iand dX8_isOnWayUp_7 ?_
  rw [and1, dn_bit hw hg]
  have hc : (if (!upw v g) = true then 1 else 0) < 2 := by split <;> omega
  refine y_if_ne 15 dX8_isOnWayUp_8 (by omega) (fun h_8 => ?_) (fun h_8 => ?_)
  · refine y_iconst (a := 0) dX8_isOnWayUp_15 rfl ?_
    first | refine z_iret dX8_isOnWayUp_16 ?_ | refine z_iret0 dX8_isOnWayUp_16 ?_ | refine z_iret1 dX8_isOnWayUp_16 ?_
    exact ⟨by simp_all, rfl⟩
  · refine y_iconst (a := 1) dX8_isOnWayUp_11 rfl ?_
    refine x_goto 16 dX8_isOnWayUp_12 ?_
    first | refine z_iret dX8_isOnWayUp_16 ?_ | refine z_iret0 dX8_isOnWayUp_16 ?_ | refine z_iret1 dX8_isOnWayUp_16 ?_
    exact ⟨by simp_all, rfl⟩
set_option maxRecDepth 100000 in
set_option maxHeartbeats 4000000 in
theorem c_isAbove {Ω : Om} {l : Launch} {M : Mem} {b : Nat} {v : Nat → Nat} (hb : Lk b) (hR : LkR M b v) (hw : Wv v) {g : Nat} (hg : g < v 2) : Ct Ω l yX8_isAbove cX8_isAbove 2 1 (some .boolean) [.ref (Ω.2.2 b), .int (nI g)] M (fun r M' => r = some (.int (bI (abv v g))) ∧ M = M') := by
  have hn := hw.nums
  have hgo := hw.goer hg
  refine ct_of (by decide) (Nat.le_of_ble_eq_true rfl) ?_
  intro p e R s m args below meth c
  refine x_aload_n dX8_isAbove_0 rfl ?_
  refine g_X8_27 dX8_isAbove_1 ?_
  refine x_iload_n dX8_isAbove_4 rfl ?_
  refine x_ial dX8_isAbove_5 (ArL (by assumption) (Or.inr ⟨by decide, by decide, rfl⟩)) (by omega) ?_
  rw [hR.place (by omega)]
  refine x_aload_n dX8_isAbove_6 rfl ?_
  refine g_X8_37 dX8_isAbove_7 ?_
  rw [hR.rungs]
  refine y_icmp_le 17 dX8_isAbove_10 (by omega) (by omega) (fun h_10 => ?_) (fun h_10 => ?_)
  · refine y_iconst (a := 0) dX8_isAbove_17 rfl ?_
    first | refine z_iret dX8_isAbove_18 ?_ | refine z_iret0 dX8_isAbove_18 ?_ | refine z_iret1 dX8_isAbove_18 ?_
    refine ⟨congrArg (fun z => some (Value.int (bI z))) ?_, rfl⟩
    simp [abv] <;> omega
  · refine y_iconst (a := 1) dX8_isAbove_13 rfl ?_
    refine x_goto 18 dX8_isAbove_14 ?_
    first | refine z_iret dX8_isAbove_18 ?_ | refine z_iret0 dX8_isAbove_18 ?_ | refine z_iret1 dX8_isAbove_18 ?_
    refine ⟨congrArg (fun z => some (Value.int (bI z))) ?_, rfl⟩
    simp [abv] <;> omega
set_option maxRecDepth 100000 in
set_option maxHeartbeats 4000000 in
theorem c_isOnRung {Ω : Om} {l : Launch} {M : Mem} {b : Nat} {v : Nat → Nat} (hb : Lk b) (hR : LkR M b v) (hw : Wv v) {g : Nat} (hg : g < v 2) : Ct Ω l yX8_isOnRung cX8_isOnRung 2 1 (some .boolean) [.ref (Ω.2.2 b), .int (nI g)] M (fun r M' => r = some (.int (bI (onr v g))) ∧ M = M') := by
  have hn := hw.nums
  have hgo := hw.goer hg
  refine ct_of (by decide) (Nat.le_of_ble_eq_true rfl) ?_
  intro p e R s m args below meth c
  refine x_aload_n dX8_isOnRung_0 rfl ?_
  refine g_X8_27 dX8_isOnRung_1 ?_
  refine x_iload_n dX8_isOnRung_4 rfl ?_
  refine x_ial dX8_isOnRung_5 (ArL (by assumption) (Or.inr ⟨by decide, by decide, rfl⟩)) (by omega) ?_
  rw [hR.place (by omega)]
  refine y_if_eq 26 dX8_isOnRung_6 (by omega) (fun h_6 => ?_) (fun h_6 => ?_)
  · refine y_iconst (a := 0) dX8_isOnRung_26 rfl ?_
    first | refine z_iret dX8_isOnRung_27 ?_ | refine z_iret0 dX8_isOnRung_27 ?_ | refine z_iret1 dX8_isOnRung_27 ?_
    refine ⟨congrArg (fun z => some (Value.int (bI z))) ?_, rfl⟩
    simp [onr] <;> omega
  · refine x_aload_n dX8_isOnRung_9 rfl ?_
    refine g_X8_27 dX8_isOnRung_10 ?_
    refine x_iload_n dX8_isOnRung_13 rfl ?_
    refine x_ial dX8_isOnRung_14 (ArL (by assumption) (Or.inr ⟨by decide, by decide, rfl⟩)) (by omega) ?_
    rw [hR.place (by omega)]
    refine x_aload_n dX8_isOnRung_15 rfl ?_
    refine g_X8_37 dX8_isOnRung_16 ?_
    rw [hR.rungs]
    refine y_icmp_gt 26 dX8_isOnRung_19 (by omega) (by omega) (fun h_19 => ?_) (fun h_19 => ?_)
    · refine y_iconst (a := 0) dX8_isOnRung_26 rfl ?_
      first | refine z_iret dX8_isOnRung_27 ?_ | refine z_iret0 dX8_isOnRung_27 ?_ | refine z_iret1 dX8_isOnRung_27 ?_
      refine ⟨congrArg (fun z => some (Value.int (bI z))) ?_, rfl⟩
      simp [onr] <;> omega
    · refine y_iconst (a := 1) dX8_isOnRung_22 rfl ?_
      refine x_goto 27 dX8_isOnRung_23 ?_
      first | refine z_iret dX8_isOnRung_27 ?_ | refine z_iret0 dX8_isOnRung_27 ?_ | refine z_iret1 dX8_isOnRung_27 ?_
      refine ⟨congrArg (fun z => some (Value.int (bI z))) ?_, rfl⟩
      simp [onr] <;> omega
set_option maxRecDepth 100000 in
set_option maxHeartbeats 4000000 in
theorem c_isBroken {Ω : Om} {l : Launch} {M : Mem} {b : Nat} {v : Nat → Nat} (hb : Lk b) (hR : LkR M b v) (hw : Wv v) {q : Nat} (hq : q < 2 ^ 31) : Ct Ω l yX8_isBroken cX8_isBroken 2 1 (some .boolean) [.ref (Ω.2.2 b), .int (nI q)] M (fun r M' => r = some (.int (bI (brk v q))) ∧ M = M') := by
  have hn := hw.nums
  refine ct_of (by decide) (Nat.le_of_ble_eq_true rfl) ?_
  intro p e R s m args below meth c
  refine x_iload_n dX8_isBroken_0 rfl ?_
  refine y_iconst (a := 1) dX8_isBroken_1 rfl ?_
  refine y_icmp_lt 26 dX8_isBroken_2 (by omega) (by omega) (fun h_2 => ?_) (fun h_2 => ?_)
  · refine y_iconst (a := 0) dX8_isBroken_26 rfl ?_
    first | refine z_iret dX8_isBroken_27 ?_ | refine z_iret0 dX8_isBroken_27 ?_ | refine z_iret1 dX8_isBroken_27 ?_
    refine ⟨congrArg (fun z => some (Value.int (bI z))) ?_, rfl⟩
    simp [brk] <;> omega
  · refine x_iload_n dX8_isBroken_5 rfl ?_
    refine x_aload_n dX8_isBroken_6 rfl ?_
    refine g_X8_37 dX8_isBroken_7 ?_
    rw [hR.rungs]
    refine y_icmp_gt 26 dX8_isBroken_10 (by omega) (by omega) (fun h_10 => ?_) (fun h_10 => ?_)
    · refine y_iconst (a := 0) dX8_isBroken_26 rfl ?_
      first | refine z_iret dX8_isBroken_27 ?_ | refine z_iret0 dX8_isBroken_27 ?_ | refine z_iret1 dX8_isBroken_27 ?_
      refine ⟨congrArg (fun z => some (Value.int (bI z))) ?_, rfl⟩
      simp [brk] <;> omega
    · refine x_aload_n dX8_isBroken_13 rfl ?_
      refine g_X8_15 dX8_isBroken_14 ?_
      refine x_iload_n dX8_isBroken_17 rfl ?_
      refine x_ial dX8_isBroken_18 (ArL (by assumption) (Or.inl ⟨by decide, by decide, rfl⟩)) (by omega) ?_
      rw [hR.strength (by omega)]
      have hs := hw.str (p := q) (by omega)
      refine y_if_ne 26 dX8_isBroken_19 (by omega) (fun h_19 => ?_) (fun h_19 => ?_)
      · refine y_iconst (a := 0) dX8_isBroken_26 rfl ?_
        first | refine z_iret dX8_isBroken_27 ?_ | refine z_iret0 dX8_isBroken_27 ?_ | refine z_iret1 dX8_isBroken_27 ?_
        refine ⟨congrArg (fun z => some (Value.int (bI z))) ?_, rfl⟩
        simp [brk] <;> omega
      · refine y_iconst (a := 1) dX8_isBroken_22 rfl ?_
        refine x_goto 27 dX8_isBroken_23 ?_
        first | refine z_iret dX8_isBroken_27 ?_ | refine z_iret0 dX8_isBroken_27 ?_ | refine z_iret1 dX8_isBroken_27 ?_
        refine ⟨congrArg (fun z => some (Value.int (bI z))) ?_, rfl⟩
        simp [brk] <;> omega
set_option maxRecDepth 100000 in
set_option maxHeartbeats 4000000 in
theorem c_allRungs {Ω : Om} {l : Launch} {M : Mem} {b : Nat} {v : Nat → Nat} (hb : Lk b) (hR : LkR M b v) (hw : Wv v)  : Ct Ω l yX8_allRungs cX8_allRungs 1 1 (some .int) [.ref (Ω.2.2 b)] M (fun r M' => r = some (.int (nI (2 ^ v 0 - 1))) ∧ M = M') := by
  have hn := hw.nums
  refine ct_of (by decide) (Nat.le_of_ble_eq_true rfl) ?_
  intro p e R s m args below meth c
  refine y_iconst (a := 1) dX8_allRungs_0 rfl ?_
  refine x_aload_n dX8_allRungs_1 rfl ?_
  refine g_X8_37 dX8_allRungs_2 ?_
  rw [hR.rungs]
  refine y_ishl dX8_allRungs_5 (by omega) ?_
  try rw [Nat.one_mul]
  refine y_iconst (a := 1) dX8_allRungs_6 rfl ?_
  have hp := Nat.two_pow_pos (v 0)
  refine y_isub dX8_allRungs_7 (by omega) ?_
  refine x_iret dX8_allRungs_8 ?_
  exact ⟨by simp, rfl⟩
set_option maxRecDepth 100000 in
set_option maxHeartbeats 4000000 in
theorem c_whoIsAt {Ω : Om} {l : Launch} {M : Mem} {b : Nat} {v : Nat → Nat} (hb : Lk b) (hR : LkR M b v) (hw : Wv v) {q : Nat} (hq : q < 2 ^ 31) : Ct Ω l yX8_whoIsAt cX8_whoIsAt 4 1 (some .int) [.ref (Ω.2.2 b), .int (nI q)] M (fun r M' => r = some (.int (nI (whoA v q))) ∧ M = M') := by
  have hn := hw.nums
  refine ct_of (by decide) (Nat.le_of_ble_eq_true rfl) ?_
  intro p e R s m args below meth c
  have key : ∀ (k : Nat) (g : Nat), g + k = v 2 → X (mkG p l e R s m args below meth c Ω (fun r M' => r = some (.int (nI (whoA v q))) ∧ M = M')) Ω RX8 cX8_whoIsAt 4 1 (some .int) 4 [some (.ref (Ω.2.2 b)), some (.int (nI q)), some (.int (nI (orN (fun g => if v (33 + g) = q then 2 ^ g else 0) g))), some (.int (nI g))] [] M := by
    intro k
    induction k with
    | zero =>
      intro g hk
      refine x_iload_n dX8_whoIsAt_4 rfl ?_
      refine x_aload_n dX8_whoIsAt_5 rfl ?_
      refine g_X8_44 dX8_whoIsAt_6 ?_
      rw [hR.goers]
      refine y_icmp_ge 34 dX8_whoIsAt_9 (by omega) (by omega) (fun h_9 => ?_) (fun h_9 => ?_)
      · obtain rfl : g = v 2 := by omega
        refine x_iload_n dX8_whoIsAt_34 rfl ?_
        refine x_iret dX8_whoIsAt_35 ?_
        exact ⟨rfl, rfl⟩
      · exfalso; omega
    | succ k ih =>
      intro g hk
      refine x_iload_n dX8_whoIsAt_4 rfl ?_
      refine x_aload_n dX8_whoIsAt_5 rfl ?_
      refine g_X8_44 dX8_whoIsAt_6 ?_
      rw [hR.goers]
      refine y_icmp_ge 34 dX8_whoIsAt_9 (by omega) (by omega) (fun h_9 => ?_) (fun h_9 => ?_)
      · obtain rfl : g = v 2 := by omega
        refine x_iload_n dX8_whoIsAt_34 rfl ?_
        refine x_iret dX8_whoIsAt_35 ?_
        exact ⟨rfl, rfl⟩
      · have hgo := hw.goer (g := g) (by omega)
        refine x_aload_n dX8_whoIsAt_12 rfl ?_
        refine g_X8_27 dX8_whoIsAt_13 ?_
        refine x_iload_n dX8_whoIsAt_16 rfl ?_
        refine x_ial dX8_whoIsAt_17 (ArL (by assumption) (Or.inr ⟨by decide, by decide, rfl⟩)) (by omega) ?_
        rw [hR.place (by omega)]
        refine x_iload_n dX8_whoIsAt_18 rfl ?_
        refine y_icmp_ne 28 dX8_whoIsAt_19 (by omega) (by omega) (fun h_19 => ?_) (fun h_19 => ?_)
        · refine y_iinc dX8_whoIsAt_28 rfl ?_
          refine x_goto 4 dX8_whoIsAt_31 ?_
          have hh := ih (g + 1) (by omega)
          simp [orN, *] at hh
          exact hh
        · refine x_iload_n dX8_whoIsAt_22 rfl ?_
          refine y_iconst (a := 1) dX8_whoIsAt_23 rfl ?_
          refine x_iload_n dX8_whoIsAt_24 rfl ?_
          refine y_ishl dX8_whoIsAt_25 (by omega) ?_
          try rw [Nat.one_mul]
          refine y_ior dX8_whoIsAt_26 ?_
          refine x_istore_n dX8_whoIsAt_27 ?_
          refine y_iinc dX8_whoIsAt_28 rfl ?_
          refine x_goto 4 dX8_whoIsAt_31 ?_
          have hh := ih (g + 1) (by omega)
          simp [orN, *] at hh
          exact hh
  refine y_iconst (a := 0) dX8_whoIsAt_0 rfl ?_
  refine x_istore_n dX8_whoIsAt_1 ?_
  refine y_iconst (a := 0) dX8_whoIsAt_2 rfl ?_
  refine x_istore_n dX8_whoIsAt_3 ?_
  exact key _ 0 (Nat.zero_add _)
set_option maxRecDepth 100000 in
set_option maxHeartbeats 4000000 in
theorem c_loadAt {Ω : Om} {l : Launch} {M : Mem} {b : Nat} {v : Nat → Nat} (hb : Lk b) (hR : LkR M b v) (hw : Wv v) {q : Nat} (hq : q < 2 ^ 31) : Ct Ω l yX8_loadAt cX8_loadAt 4 2 (some .int) [.ref (Ω.2.2 b), .int (nI q)] M (fun r M' => r = some (.int (nI (loadA v q))) ∧ M = M') := by
  have hn := hw.nums
  refine ct_of (by decide) (Nat.le_of_ble_eq_true rfl) ?_
  intro p e R s m args below meth c
  have key : ∀ (k : Nat) (g : Nat), g + k = v 2 → X (mkG p l e R s m args below meth c Ω (fun r M' => r = some (.int (nI (loadA v q))) ∧ M = M')) Ω RX8 cX8_loadAt 4 2 (some .int) 4 [some (.ref (Ω.2.2 b)), some (.int (nI q)), some (.int (nI (sumN (fun g => if v (33 + g) = q then lo v g else 0) g))), some (.int (nI g))] [] M := by
    intro k
    induction k with
    | zero =>
      intro g hk
      refine x_iload_n dX8_loadAt_4 rfl ?_
      refine x_aload_n dX8_loadAt_5 rfl ?_
      refine g_X8_44 dX8_loadAt_6 ?_
      rw [hR.goers]
      refine y_icmp_ge 36 dX8_loadAt_9 (by omega) (by omega) (fun h_9 => ?_) (fun h_9 => ?_)
      · obtain rfl : g = v 2 := by omega
        refine x_iload_n dX8_loadAt_36 rfl ?_
        refine x_iret dX8_loadAt_37 ?_
        exact ⟨rfl, rfl⟩
      · exfalso; omega
    | succ k ih =>
      intro g hk
      refine x_iload_n dX8_loadAt_4 rfl ?_
      refine x_aload_n dX8_loadAt_5 rfl ?_
      refine g_X8_44 dX8_loadAt_6 ?_
      rw [hR.goers]
      refine y_icmp_ge 36 dX8_loadAt_9 (by omega) (by omega) (fun h_9 => ?_) (fun h_9 => ?_)
      · obtain rfl : g = v 2 := by omega
        refine x_iload_n dX8_loadAt_36 rfl ?_
        refine x_iret dX8_loadAt_37 ?_
        exact ⟨rfl, rfl⟩
      · have hgo := hw.goer (g := g) (by omega)
        refine x_aload_n dX8_loadAt_12 rfl ?_
        refine g_X8_27 dX8_loadAt_13 ?_
        refine x_iload_n dX8_loadAt_16 rfl ?_
        refine x_ial dX8_loadAt_17 (ArL (by assumption) (Or.inr ⟨by decide, by decide, rfl⟩)) (by omega) ?_
        rw [hR.place (by omega)]
        refine x_iload_n dX8_loadAt_18 rfl ?_
        refine y_icmp_ne 30 dX8_loadAt_19 (by omega) (by omega) (fun h_19 => ?_) (fun h_19 => ?_)
        · refine y_iinc dX8_loadAt_30 rfl ?_
          refine x_goto 4 dX8_loadAt_33 ?_
          have hh := ih (g + 1) (by omega)
          simp [sumN, *] at hh
          exact hh
        · refine x_iload_n dX8_loadAt_22 rfl ?_
          refine x_aload_n dX8_loadAt_23 rfl ?_
          refine x_iload_n dX8_loadAt_24 rfl ?_
          refine q_X8_75 (c_loadOf hb hR hw (by omega)) dX8_loadAt_25 rfl ?_
          rintro _ _ ⟨rfl, rfl⟩
          refine y_iadd dX8_loadAt_28 ?_
          refine x_istore_n dX8_loadAt_29 ?_
          refine y_iinc dX8_loadAt_30 rfl ?_
          refine x_goto 4 dX8_loadAt_33 ?_
          have hh := ih (g + 1) (by omega)
          simp [sumN, *] at hh
          exact hh
  refine y_iconst (a := 0) dX8_loadAt_0 rfl ?_
  refine x_istore_n dX8_loadAt_1 ?_
  refine y_iconst (a := 0) dX8_loadAt_2 rfl ?_
  refine x_istore_n dX8_loadAt_3 ?_
  exact key _ 0 (Nat.zero_add _)
set_option maxRecDepth 100000 in
set_option maxHeartbeats 4000000 in
theorem c_loadOnRungs {Ω : Om} {l : Launch} {M : Mem} {b : Nat} {v : Nat → Nat} (hb : Lk b) (hR : LkR M b v) (hw : Wv v)  : Ct Ω l yX8_loadOnRungs cX8_loadOnRungs 3 2 (some .int) [.ref (Ω.2.2 b)] M (fun r M' => r = some (.int (nI (loadR v))) ∧ M = M') := by
  have hn := hw.nums
  refine ct_of (by decide) (Nat.le_of_ble_eq_true rfl) ?_
  intro p e R s m args below meth c
  have key : ∀ (k : Nat) (g : Nat), g + k = v 2 → X (mkG p l e R s m args below meth c Ω (fun r M' => r = some (.int (nI (loadR v))) ∧ M = M')) Ω RX8 cX8_loadOnRungs 3 2 (some .int) 4 [some (.ref (Ω.2.2 b)), some (.int (nI (sumN (fun g => if onr v g = true then lo v g else 0) g))), some (.int (nI g))] [] M := by
    intro k
    induction k with
    | zero =>
      intro g hk
      refine x_iload_n dX8_loadOnRungs_4 rfl ?_
      refine x_aload_n dX8_loadOnRungs_5 rfl ?_
      refine g_X8_44 dX8_loadOnRungs_6 ?_
      rw [hR.goers]
      refine y_icmp_ge 34 dX8_loadOnRungs_9 (by omega) (by omega) (fun h_9 => ?_) (fun h_9 => ?_)
      · obtain rfl : g = v 2 := by omega
        refine x_iload_n dX8_loadOnRungs_34 rfl ?_
        refine x_iret dX8_loadOnRungs_35 ?_
        exact ⟨rfl, rfl⟩
      · exfalso; omega
    | succ k ih =>
      intro g hk
      refine x_iload_n dX8_loadOnRungs_4 rfl ?_
      refine x_aload_n dX8_loadOnRungs_5 rfl ?_
      refine g_X8_44 dX8_loadOnRungs_6 ?_
      rw [hR.goers]
      refine y_icmp_ge 34 dX8_loadOnRungs_9 (by omega) (by omega) (fun h_9 => ?_) (fun h_9 => ?_)
      · obtain rfl : g = v 2 := by omega
        refine x_iload_n dX8_loadOnRungs_34 rfl ?_
        refine x_iret dX8_loadOnRungs_35 ?_
        exact ⟨rfl, rfl⟩
      · have hgo := hw.goer (g := g) (by omega)
        refine x_aload_n dX8_loadOnRungs_12 rfl ?_
        refine x_iload_n dX8_loadOnRungs_13 rfl ?_
        refine q_X8_78 (c_isOnRung hb hR hw (by omega)) dX8_loadOnRungs_14 rfl ?_
        rintro _ _ ⟨rfl, rfl⟩
        refine z_if_eq 28 dX8_loadOnRungs_17 (fun h_17 => ?_) (fun h_17 => ?_)
        · refine y_iinc dX8_loadOnRungs_28 rfl ?_
          refine x_goto 4 dX8_loadOnRungs_31 ?_
          have hh := ih (g + 1) (by omega)
          simp [sumN, *] at hh
          exact hh
        · refine x_iload_n dX8_loadOnRungs_20 rfl ?_
          refine x_aload_n dX8_loadOnRungs_21 rfl ?_
          refine x_iload_n dX8_loadOnRungs_22 rfl ?_
          refine q_X8_75 (c_loadOf hb hR hw (by omega)) dX8_loadOnRungs_23 rfl ?_
          rintro _ _ ⟨rfl, rfl⟩
          refine y_iadd dX8_loadOnRungs_26 ?_
          refine x_istore_n dX8_loadOnRungs_27 ?_
          refine y_iinc dX8_loadOnRungs_28 rfl ?_
          refine x_goto 4 dX8_loadOnRungs_31 ?_
          have hh := ih (g + 1) (by omega)
          simp [sumN, *] at hh
          exact hh
  refine y_iconst (a := 0) dX8_loadOnRungs_0 rfl ?_
  refine x_istore_n dX8_loadOnRungs_1 ?_
  refine y_iconst (a := 0) dX8_loadOnRungs_2 rfl ?_
  refine x_istore_n dX8_loadOnRungs_3 ?_
  exact key _ 0 (Nat.zero_add _)
set_option maxRecDepth 100000 in
set_option maxHeartbeats 4000000 in
theorem c_allFalls {Ω : Om} {l : Launch} {M : Mem} {b : Nat} {v : Nat → Nat} (hb : Lk b) (hR : LkR M b v) (hw : Wv v)  : Ct Ω l yX8_allFalls cX8_allFalls 3 1 (some .int) [.ref (Ω.2.2 b)] M (fun r M' => r = some (.int (nI (fal v))) ∧ M = M') := by
  have hn := hw.nums
  refine ct_of (by decide) (Nat.le_of_ble_eq_true rfl) ?_
  intro p e R s m args below meth c
  have key : ∀ (k : Nat) (g : Nat), g + k = v 2 → X (mkG p l e R s m args below meth c Ω (fun r M' => r = some (.int (nI (fal v))) ∧ M = M')) Ω RX8 cX8_allFalls 3 1 (some .int) 4 [some (.ref (Ω.2.2 b)), some (.int (nI (sumN (fun g => v (39 + g)) g))), some (.int (nI g))] [] M := by
    intro k
    induction k with
    | zero =>
      intro g hk
      refine x_iload_n dX8_allFalls_4 rfl ?_
      refine x_aload_n dX8_allFalls_5 rfl ?_
      refine g_X8_44 dX8_allFalls_6 ?_
      rw [hR.goers]
      refine y_icmp_ge 27 dX8_allFalls_9 (by omega) (by omega) (fun h_9 => ?_) (fun h_9 => ?_)
      · obtain rfl : g = v 2 := by omega
        refine x_iload_n dX8_allFalls_27 rfl ?_
        refine x_iret dX8_allFalls_28 ?_
        exact ⟨rfl, rfl⟩
      · exfalso; omega
    | succ k ih =>
      intro g hk
      refine x_iload_n dX8_allFalls_4 rfl ?_
      refine x_aload_n dX8_allFalls_5 rfl ?_
      refine g_X8_44 dX8_allFalls_6 ?_
      rw [hR.goers]
      refine y_icmp_ge 27 dX8_allFalls_9 (by omega) (by omega) (fun h_9 => ?_) (fun h_9 => ?_)
      · obtain rfl : g = v 2 := by omega
        refine x_iload_n dX8_allFalls_27 rfl ?_
        refine x_iret dX8_allFalls_28 ?_
        exact ⟨rfl, rfl⟩
      · have hgo := hw.goer (g := g) (by omega)
        refine x_iload_n dX8_allFalls_12 rfl ?_
        refine x_aload_n dX8_allFalls_13 rfl ?_
        refine g_X8_30 dX8_allFalls_14 ?_
        refine x_iload_n dX8_allFalls_17 rfl ?_
        refine x_ial dX8_allFalls_18 (ArL (by assumption) (Or.inr ⟨by decide, by decide, rfl⟩)) (by omega) ?_
        rw [hR.fell (by omega)]
        refine y_iadd dX8_allFalls_19 ?_
        refine x_istore_n dX8_allFalls_20 ?_
        refine y_iinc dX8_allFalls_21 rfl ?_
        refine x_goto 4 dX8_allFalls_24 ?_
        have hh := ih (g + 1) (by omega)
        simp [sumN, *] at hh
        exact hh
  refine y_iconst (a := 0) dX8_allFalls_0 rfl ?_
  refine x_istore_n dX8_allFalls_1 ?_
  refine y_iconst (a := 0) dX8_allFalls_2 rfl ?_
  refine x_istore_n dX8_allFalls_3 ?_
  exact key _ 0 (Nat.zero_add _)
set_option maxRecDepth 100000 in
set_option maxHeartbeats 4000000 in
theorem c_brokenRungs {Ω : Om} {l : Launch} {M : Mem} {b : Nat} {v : Nat → Nat} (hb : Lk b) (hR : LkR M b v) (hw : Wv v)  : Ct Ω l yX8_brokenRungs cX8_brokenRungs 3 1 (some .int) [.ref (Ω.2.2 b)] M (fun r M' => r = some (.int (nI (brkS v))) ∧ M = M') := by
  have hn := hw.nums
  refine ct_of (by decide) (Nat.le_of_ble_eq_true rfl) ?_
  intro p e R s m args below meth c
  have key : ∀ (k : Nat) (g : Nat), g + k = v 0 → X (mkG p l e R s m args below meth c Ω (fun r M' => r = some (.int (nI (brkS v))) ∧ M = M')) Ω RX8 cX8_brokenRungs 3 1 (some .int) 4 [some (.ref (Ω.2.2 b)), some (.int (nI (orN (fun r => if v (6 + r) = 0 then 2 ^ r else 0) g))), some (.int (nI (g + 1)))] [] M := by
    intro k
    induction k with
    | zero =>
      intro g hk
      refine x_iload_n dX8_brokenRungs_4 rfl ?_
      refine x_aload_n dX8_brokenRungs_5 rfl ?_
      refine g_X8_37 dX8_brokenRungs_6 ?_
      rw [hR.rungs]
      refine y_icmp_gt 35 dX8_brokenRungs_9 (by omega) (by omega) (fun h_9 => ?_) (fun h_9 => ?_)
      · obtain rfl : g = v 0 := by omega
        refine x_iload_n dX8_brokenRungs_35 rfl ?_
        refine x_iret dX8_brokenRungs_36 ?_
        exact ⟨rfl, rfl⟩
      · exfalso; omega
    | succ k ih =>
      intro g hk
      refine x_iload_n dX8_brokenRungs_4 rfl ?_
      refine x_aload_n dX8_brokenRungs_5 rfl ?_
      refine g_X8_37 dX8_brokenRungs_6 ?_
      rw [hR.rungs]
      refine y_icmp_gt 35 dX8_brokenRungs_9 (by omega) (by omega) (fun h_9 => ?_) (fun h_9 => ?_)
      · obtain rfl : g = v 0 := by omega
        refine x_iload_n dX8_brokenRungs_35 rfl ?_
        refine x_iret dX8_brokenRungs_36 ?_
        exact ⟨rfl, rfl⟩
      · refine x_aload_n dX8_brokenRungs_12 rfl ?_
        refine g_X8_15 dX8_brokenRungs_13 ?_
        refine x_iload_n dX8_brokenRungs_16 rfl ?_
        refine x_ial dX8_brokenRungs_17 (ArL (by assumption) (Or.inl ⟨by decide, by decide, rfl⟩)) (by omega) ?_
        rw [hR.strength (by omega)]
        have hs := hw.str (p := g + 1) (by omega)
        rw [show 5 + (g + 1) = 6 + g by omega] at hs ⊢
        refine y_if_ne 29 dX8_brokenRungs_18 (by omega) (fun h_18 => ?_) (fun h_18 => ?_)
        · refine y_iinc dX8_brokenRungs_29 rfl ?_
          refine x_goto 4 dX8_brokenRungs_32 ?_
          have hh := ih (g + 1) (by omega)
          simp [orN, *] at hh
          exact hh
        · refine x_iload_n dX8_brokenRungs_21 rfl ?_
          refine y_iconst (a := 1) dX8_brokenRungs_22 rfl ?_
          refine x_iload_n dX8_brokenRungs_23 rfl ?_
          refine y_iconst (a := 1) dX8_brokenRungs_24 rfl ?_
          refine y_isub dX8_brokenRungs_25 (by omega) ?_
          rw [Nat.add_sub_cancel]
          refine y_ishl dX8_brokenRungs_26 (by omega) ?_
          try rw [Nat.one_mul]
          refine y_ior dX8_brokenRungs_27 ?_
          refine x_istore_n dX8_brokenRungs_28 ?_
          refine y_iinc dX8_brokenRungs_29 rfl ?_
          refine x_goto 4 dX8_brokenRungs_32 ?_
          have hh := ih (g + 1) (by omega)
          simp [orN, *] at hh
          exact hh
  refine y_iconst (a := 0) dX8_brokenRungs_0 rfl ?_
  refine x_istore_n dX8_brokenRungs_1 ?_
  refine y_iconst (a := 1) dX8_brokenRungs_2 rfl ?_
  refine x_istore_n dX8_brokenRungs_3 ?_
  exact key _ 0 (Nat.zero_add _)
set_option maxRecDepth 100000 in
set_option maxHeartbeats 4000000 in
theorem c_upFrom {Ω : Om} {l : Launch} {M : Mem} {b : Nat} {v : Nat → Nat} (hb : Lk b) (hR : LkR M b v) (hw : Wv v) {q : Nat} (hq : q ≤ v 0 + 1) : Ct Ω l yX8_upFrom cX8_upFrom 2 2 (some .int) [.ref (Ω.2.2 b), .int (nI q)] M (fun r M' => r = some (.int (oI (upF v q))) ∧ M = M') := by
  have hn := hw.nums
  refine ct_of (by decide) (Nat.le_of_ble_eq_true rfl) ?_
  intro p e R s m args below meth c
  refine x_iload_n dX8_upFrom_0 rfl ?_
  refine x_aload_n dX8_upFrom_1 rfl ?_
  refine g_X8_37 dX8_upFrom_2 ?_
  rw [hR.rungs]
  refine y_icmp_le 10 dX8_upFrom_5 (by omega) (by omega) (fun h_5 => ?_) (fun h_5 => ?_)
  · refine x_aload_n dX8_upFrom_10 rfl ?_
    refine x_iload_n dX8_upFrom_11 rfl ?_
    refine y_iconst (a := 1) dX8_upFrom_12 rfl ?_
    refine y_iadd dX8_upFrom_13 ?_
    refine q_X8_82 (c_isBroken hb hR hw (by omega)) dX8_upFrom_14 rfl ?_
    rintro _ _ ⟨rfl, rfl⟩
    refine z_if_ne 24 dX8_upFrom_17 (fun h_17 => ?_) (fun h_17 => ?_)
    · refine x_aload_n dX8_upFrom_24 rfl ?_
      refine x_iload_n dX8_upFrom_25 rfl ?_
      refine y_iconst (a := 2) dX8_upFrom_26 rfl ?_
      refine y_iadd dX8_upFrom_27 ?_
      refine q_X8_82 (c_isBroken hb hR hw (by omega)) dX8_upFrom_28 rfl ?_
      rintro _ _ ⟨rfl, rfl⟩
      refine z_if_eq 38 dX8_upFrom_31 (fun h_31 => ?_) (fun h_31 => ?_)
      · refine x_iload_n dX8_upFrom_38 rfl ?_
        refine y_iconst (a := 2) dX8_upFrom_39 rfl ?_
        refine y_iadd dX8_upFrom_40 ?_
        refine x_iret dX8_upFrom_41 ?_
        refine ⟨congrArg (fun z => some (Value.int z)) ?_, rfl⟩
        unfold upF
        first | rw [if_pos (by omega)] | (rw [if_neg (by omega)]; simp [*])
        first | rfl | done
      · refine x_iconst (v := -1) dX8_upFrom_34 rfl ?_
        refine x_goto 41 dX8_upFrom_35 ?_
        refine x_iret dX8_upFrom_41 ?_
        refine ⟨congrArg (fun z => some (Value.int z)) ?_, rfl⟩
        unfold upF
        first | rw [if_pos (by omega)] | (rw [if_neg (by omega)]; simp [*])
        first | rfl | done
    · refine x_iload_n dX8_upFrom_20 rfl ?_
      refine y_iconst (a := 1) dX8_upFrom_21 rfl ?_
      refine y_iadd dX8_upFrom_22 ?_
      refine x_iret dX8_upFrom_23 ?_
      refine ⟨congrArg (fun z => some (Value.int z)) ?_, rfl⟩
      unfold upF
      first | rw [if_pos (by omega)] | (rw [if_neg (by omega)]; simp [*])
      first | rfl | done
  · refine x_iconst (v := -1) dX8_upFrom_8 rfl ?_
    refine x_iret dX8_upFrom_9 ?_
    refine ⟨congrArg (fun z => some (Value.int z)) ?_, rfl⟩
    unfold upF
    first | rw [if_pos (by omega)] | (rw [if_neg (by omega)]; simp [*])
    first | rfl | done
set_option maxRecDepth 100000 in
set_option maxHeartbeats 4000000 in
theorem c_downFrom {Ω : Om} {l : Launch} {M : Mem} {b : Nat} {v : Nat → Nat} (hb : Lk b) (hR : LkR M b v) (hw : Wv v) {q : Nat} (hq : q ≤ v 0 + 1) : Ct Ω l yX8_downFrom cX8_downFrom 2 2 (some .int) [.ref (Ω.2.2 b), .int (nI q)] M (fun r M' => r = some (.int (oI (dnF v q))) ∧ M = M') := by
  have hn := hw.nums
  refine ct_of (by decide) (Nat.le_of_ble_eq_true rfl) ?_
  intro p e R s m args below meth c
  refine x_iload_n dX8_downFrom_0 rfl ?_
  refine y_if_gt 6 dX8_downFrom_1 (by omega) (fun h_1 => ?_) (fun h_1 => ?_)
  · refine x_aload_n dX8_downFrom_6 rfl ?_
    refine x_iload_n dX8_downFrom_7 rfl ?_
    refine y_iconst (a := 1) dX8_downFrom_8 rfl ?_
    refine y_isub dX8_downFrom_9 (by omega) ?_
    refine q_X8_82 (c_isBroken hb hR hw (by omega)) dX8_downFrom_10 rfl ?_
    rintro _ _ ⟨rfl, rfl⟩
    refine z_if_ne 20 dX8_downFrom_13 (fun h_13 => ?_) (fun h_13 => ?_)
    · have h2 : 2 ≤ q := by
        rcases Nat.lt_or_ge 1 q with z | z
        · exact z
        · exfalso
          obtain rfl : q = 1 := by omega
          simp [brk] at h_13
      refine x_aload_n dX8_downFrom_20 rfl ?_
      refine x_iload_n dX8_downFrom_21 rfl ?_
      refine y_iconst (a := 2) dX8_downFrom_22 rfl ?_
      refine y_isub dX8_downFrom_23 (by omega) ?_
      refine q_X8_82 (c_isBroken hb hR hw (by omega)) dX8_downFrom_24 rfl ?_
      rintro _ _ ⟨rfl, rfl⟩
      refine z_if_eq 34 dX8_downFrom_27 (fun h_27 => ?_) (fun h_27 => ?_)
      · refine x_iload_n dX8_downFrom_34 rfl ?_
        refine y_iconst (a := 2) dX8_downFrom_35 rfl ?_
        refine y_isub dX8_downFrom_36 (by omega) ?_
        refine x_iret dX8_downFrom_37 ?_
        refine ⟨congrArg (fun z => some (Value.int z)) ?_, rfl⟩
        unfold dnF
        first | rw [if_pos (by omega)] | (rw [if_neg (by omega)]; simp [*])
        first | rfl | done
      · refine x_iconst (v := -1) dX8_downFrom_30 rfl ?_
        refine x_goto 37 dX8_downFrom_31 ?_
        refine x_iret dX8_downFrom_37 ?_
        refine ⟨congrArg (fun z => some (Value.int z)) ?_, rfl⟩
        unfold dnF
        first | rw [if_pos (by omega)] | (rw [if_neg (by omega)]; simp [*])
        first | rfl | done
    · refine x_iload_n dX8_downFrom_16 rfl ?_
      refine y_iconst (a := 1) dX8_downFrom_17 rfl ?_
      refine y_isub dX8_downFrom_18 (by omega) ?_
      refine x_iret dX8_downFrom_19 ?_
      refine ⟨congrArg (fun z => some (Value.int z)) ?_, rfl⟩
      unfold dnF
      first | rw [if_pos (by omega)] | (rw [if_neg (by omega)]; simp [*])
      first | rfl | done
  · refine x_iconst (v := -1) dX8_downFrom_4 rfl ?_
    refine x_iret dX8_downFrom_5 ?_
    refine ⟨congrArg (fun z => some (Value.int z)) ?_, rfl⟩
    unfold dnF
    first | rw [if_pos (by omega)] | (rw [if_neg (by omega)]; simp [*])
    first | rfl | done
