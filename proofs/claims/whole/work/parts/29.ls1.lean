/-! LADDERSPRINGS: what the calls share; rows (laid by gen_ls1.py) -/
set_option maxRecDepth 100000 in
set_option maxHeartbeats 4000000 in
theorem c_isWithin {Ω : Om} {l : Launch} {M : Mem} {x a b : Int32} : Ct Ω l yX11_isWithin cX11_isWithin 3 1 (some .boolean) [.int x, .int a, .int b] M (fun ro M' => ro = some (.int (bI (decide (a.toInt ≤ x.toInt ∧ x.toInt ≤ b.toInt)))) ∧ M = M') := by
  have hL49 : Lk 49 := Lk49
  have hL57 : Lk 57 := Lk57
  refine ct_of (by decide) (Nat.le_of_ble_eq_true rfl) ?_
  intro p e R s m args below meth c
  refine x_iload_n dX11_isWithin_0 rfl ?_
  refine x_iload_n dX11_isWithin_1 rfl ?_
  refine x_icmp_lt 14 dX11_isWithin_2 (fun h_2 => ?_) (fun h_2 => ?_)
  · refine y_iconst (a := 0) dX11_isWithin_14 rfl ?_
    first | refine z_iret dX11_isWithin_15 ?_ | refine z_iret0 dX11_isWithin_15 ?_ | refine z_iret1 dX11_isWithin_15 ?_
    refine ⟨congrArg (fun z => some (Value.int (bI z))) ?_, rfl⟩
    simp <;> omega
  · refine x_iload_n dX11_isWithin_5 rfl ?_
    refine x_iload_n dX11_isWithin_6 rfl ?_
    refine x_icmp_gt 14 dX11_isWithin_7 (fun h_7 => ?_) (fun h_7 => ?_)
    · refine y_iconst (a := 0) dX11_isWithin_14 rfl ?_
      first | refine z_iret dX11_isWithin_15 ?_ | refine z_iret0 dX11_isWithin_15 ?_ | refine z_iret1 dX11_isWithin_15 ?_
      refine ⟨congrArg (fun z => some (Value.int (bI z))) ?_, rfl⟩
      simp <;> omega
    · refine y_iconst (a := 1) dX11_isWithin_10 rfl ?_
      refine x_goto 15 dX11_isWithin_11 ?_
      first | refine z_iret dX11_isWithin_15 ?_ | refine z_iret0 dX11_isWithin_15 ?_ | refine z_iret1 dX11_isWithin_15 ?_
      refine ⟨congrArg (fun z => some (Value.int (bI z))) ?_, rfl⟩
      simp <;> omega
set_option maxRecDepth 100000 in
set_option maxHeartbeats 4000000 in
theorem c_isRow {Ω : Om} {l : Launch} {M : Mem} {x : Int32} : Ct Ω l yX11_isRow cX11_isRow 1 2 (some .boolean) [.int x] M (fun ro M' => ro = some (.int (bI (inR x 8))) ∧ M = M') := by
  have hL49 : Lk 49 := Lk49
  have hL57 : Lk 57 := Lk57
  refine ct_of (by decide) (Nat.le_of_ble_eq_true rfl) ?_
  intro p e R s m args below meth c
  refine x_iload_n dX11_isRow_0 rfl ?_
  refine y_iconst (a := 0) dX11_isRow_1 rfl ?_
  refine x_bipush (v := nI 7) dX11_isRow_2 rfl ?_
  refine q_X11_77 (c_isWithin) dX11_isRow_4 rfl ?_
  rintro _ _ ⟨rfl, rfl⟩
  first | refine z_iret dX11_isRow_7 ?_ | refine z_iret0 dX11_isRow_7 ?_ | refine z_iret1 dX11_isRow_7 ?_
  refine ⟨congrArg (fun z => some (Value.int (bI z))) ?_, rfl⟩
  unfold inR
  rw [nI_toInt (n := 0) (by omega), nI_toInt (n := 7) (by omega)]
  exact decide_eq_decide.mpr (by omega)
set_option maxRecDepth 100000 in
set_option maxHeartbeats 4000000 in
theorem c_isGoer {Ω : Om} {l : Launch} {M : Mem} {v : Nat → Nat} (hR : LkR M 49 v) (hw : Wv v) {x : Int32} : Ct Ω l yX11_isGoer cX11_isGoer 2 2 (some .boolean) [.ref (Ω.2.2 0), .int x] M (fun ro M' => ro = some (.int (bI (inR x (v 2)))) ∧ M = M') := by
  have hL49 : Lk 49 := Lk49
  have hL57 : Lk 57 := Lk57
  have hn := hw.nums
  refine ct_of (by decide) (Nat.le_of_ble_eq_true rfl) ?_
  intro p e R s m args below meth c
  refine x_iload_n dX11_isGoer_0 rfl ?_
  refine y_iconst (a := 0) dX11_isGoer_1 rfl ?_
  refine x_aload_n dX11_isGoer_2 rfl ?_
  refine g_X11_58 dX11_isGoer_3 ?_
  refine g_X11_148 dX11_isGoer_6 ?_
  rw [hR.goers]
  refine y_iconst (a := 1) dX11_isGoer_9 rfl ?_
  refine x_isub dX11_isGoer_10 ?_
  refine q_X11_77 (c_isWithin) dX11_isGoer_11 rfl ?_
  rintro _ _ ⟨rfl, rfl⟩
  first | refine z_iret dX11_isGoer_14 ?_ | refine z_iret0 dX11_isGoer_14 ?_ | refine z_iret1 dX11_isGoer_14 ?_
  refine ⟨congrArg (fun z => some (Value.int (bI z))) ?_, rfl⟩
  unfold inR
  have h1 : (nI (v 2) - nI 1).toInt = (v 2 : Int) - 1 := pk_sub_toInt (by omega) (by omega)
  rw [nI_toInt (n := 0) (by omega), h1]
  exact decide_eq_decide.mpr (by omega)
set_option maxRecDepth 100000 in
set_option maxHeartbeats 4000000 in
theorem c_isRung {Ω : Om} {l : Launch} {M : Mem} {v : Nat → Nat} (hR : LkR M 49 v) (hw : Wv v) {x : Int32} : Ct Ω l yX11_isRung cX11_isRung 2 2 (some .boolean) [.ref (Ω.2.2 0), .int x] M (fun ro M' => ro = some (.int (bI (inR x (v 0)))) ∧ M = M') := by
  have hL49 : Lk 49 := Lk49
  have hL57 : Lk 57 := Lk57
  have hn := hw.nums
  refine ct_of (by decide) (Nat.le_of_ble_eq_true rfl) ?_
  intro p e R s m args below meth c
  refine x_iload_n dX11_isRung_0 rfl ?_
  refine y_iconst (a := 0) dX11_isRung_1 rfl ?_
  refine x_aload_n dX11_isRung_2 rfl ?_
  refine g_X11_58 dX11_isRung_3 ?_
  refine g_X11_353 dX11_isRung_6 ?_
  rw [hR.rungs]
  refine y_iconst (a := 1) dX11_isRung_9 rfl ?_
  refine x_isub dX11_isRung_10 ?_
  refine q_X11_77 (c_isWithin) dX11_isRung_11 rfl ?_
  rintro _ _ ⟨rfl, rfl⟩
  first | refine z_iret dX11_isRung_14 ?_ | refine z_iret0 dX11_isRung_14 ?_ | refine z_iret1 dX11_isRung_14 ?_
  refine ⟨congrArg (fun z => some (Value.int (bI z))) ?_, rfl⟩
  unfold inR
  have h1 : (nI (v 0) - nI 1).toInt = (v 0 : Int) - 1 := pk_sub_toInt (by omega) (by omega)
  rw [nI_toInt (n := 0) (by omega), h1]
  exact decide_eq_decide.mpr (by omega)
set_option maxRecDepth 100000 in
set_option maxHeartbeats 4000000 in
theorem c_hasNoLake {Ω : Om} {l : Launch} {M : Mem} {v : Nat → Nat} (hR : LkR M 49 v) (hw : Wv v) : Ct Ω l yX11_hasNoLake cX11_hasNoLake 1 1 (some .boolean) [.ref (Ω.2.2 0)] M (fun ro M' => ro = some (.int (bI (decide (v 0 = 0)))) ∧ M = M') := by
  have hL49 : Lk 49 := Lk49
  have hL57 : Lk 57 := Lk57
  have hn := hw.nums
  refine ct_of (by decide) (Nat.le_of_ble_eq_true rfl) ?_
  intro p e R s m args below meth c
  refine x_aload_n dX11_hasNoLake_0 rfl ?_
  refine g_X11_58 dX11_hasNoLake_1 ?_
  refine g_X11_353 dX11_hasNoLake_4 ?_
  rw [hR.rungs]
  refine y_if_ne 14 dX11_hasNoLake_7 (by omega) (fun h_7 => ?_) (fun h_7 => ?_)
  · refine y_iconst (a := 0) dX11_hasNoLake_14 rfl ?_
    first | refine z_iret dX11_hasNoLake_15 ?_ | refine z_iret0 dX11_hasNoLake_15 ?_ | refine z_iret1 dX11_hasNoLake_15 ?_
    refine ⟨congrArg (fun z => some (Value.int (bI z))) ?_, rfl⟩
    simp [h_7]
  · refine y_iconst (a := 1) dX11_hasNoLake_10 rfl ?_
    refine x_goto 15 dX11_hasNoLake_11 ?_
    first | refine z_iret dX11_hasNoLake_15 ?_ | refine z_iret0 dX11_hasNoLake_15 ?_ | refine z_iret1 dX11_hasNoLake_15 ?_
    refine ⟨congrArg (fun z => some (Value.int (bI z))) ?_, rfl⟩
    simp [h_7]
theorem k_X11_359 : Cond.constant RX11 359 (-1000010) ∈ tbw := tb 406 (by decide +kernel) (by decide +kernel)
set_option maxRecDepth 100000 in
set_option maxHeartbeats 4000000 in
theorem c_found {Ω : Om} {l : Launch} {M : Mem} {x : Int32} : Ct Ω l yX11_found cX11_found 2 1 (some .int) [.ref (Ω.2.2 0), .int x] M (fun ro M' => ro = some (.int (-1000010 - x)) ∧ M' = up1 M 0 12 x) := by
  have hL49 : Lk 49 := Lk49
  have hL57 : Lk 57 := Lk57
  refine ct_of (by decide) (Nat.le_of_ble_eq_true rfl) ?_
  intro p e R s m args below meth c
  refine x_aload_n dX11_found_0 rfl ?_
  refine x_iload_n dX11_found_1 rfl ?_
  refine p_X11_356 dX11_found_2 ?_
  refine x_ldcw dX11_found_5 k_X11_359 ?_
  refine x_iload_n dX11_found_8 rfl ?_
  refine x_isub dX11_found_9 ?_
  refine x_iret dX11_found_10 ?_
  exact ⟨rfl, rfl⟩
set_option maxRecDepth 100000 in
set_option maxHeartbeats 4000000 in
theorem c_fine {Ω : Om} {l : Launch} {M : Mem} {x : Int32} : Ct Ω l yX11_fine cX11_fine 2 1 (some .int) [.ref (Ω.2.2 0), .int x] M (fun ro M' => ro = some (.int x) ∧ M' = up1 M 0 12 (nI 0)) := by
  have hL49 : Lk 49 := Lk49
  have hL57 : Lk 57 := Lk57
  refine ct_of (by decide) (Nat.le_of_ble_eq_true rfl) ?_
  intro p e R s m args below meth c
  refine x_aload_n dX11_fine_0 rfl ?_
  refine y_iconst (a := 0) dX11_fine_1 rfl ?_
  refine p_X11_356 dX11_fine_2 ?_
  refine x_iload_n dX11_fine_5 rfl ?_
  refine x_iret dX11_fine_6 ?_
  exact ⟨rfl, rfl⟩
set_option maxRecDepth 100000 in
set_option maxHeartbeats 4000000 in
theorem c_isMissing {Ω : Om} {l : Launch} {M : Mem} {r : Nat} (hr : Rw r) : Ct Ω l yX9_isMissing cX9_isMissing 1 1 (some .boolean) [.ref (Ω.2.2 r)] M (fun ro M' => ro = some (.int (bI (decide (M.1 r 2 = -1)))) ∧ M = M') := by
  have hL49 : Lk 49 := Lk49
  have hL57 : Lk 57 := Lk57
  refine ct_of (by decide) (Nat.le_of_ble_eq_true rfl) ?_
  intro p e R s m args below meth c
  refine x_aload_n dX9_isMissing_0 rfl ?_
  refine g_X9_15 dX9_isMissing_1 ?_
  refine x_iconst (v := -1) dX9_isMissing_4 rfl ?_
  refine x_icmp_ne 12 dX9_isMissing_5 (fun h_5 => ?_) (fun h_5 => ?_)
  · refine y_iconst (a := 0) dX9_isMissing_12 rfl ?_
    first | refine z_iret dX9_isMissing_13 ?_ | refine z_iret0 dX9_isMissing_13 ?_ | refine z_iret1 dX9_isMissing_13 ?_
    refine ⟨congrArg (fun z => some (Value.int (bI z))) ?_, rfl⟩
    simp [h_5]
  · refine y_iconst (a := 1) dX9_isMissing_8 rfl ?_
    refine x_goto 13 dX9_isMissing_9 ?_
    first | refine z_iret dX9_isMissing_13 ?_ | refine z_iret0 dX9_isMissing_13 ?_ | refine z_iret1 dX9_isMissing_13 ?_
    refine ⟨congrArg (fun z => some (Value.int (bI z))) ?_, rfl⟩
    simp [h_5]
set_option maxRecDepth 100000 in
set_option maxHeartbeats 4000000 in
theorem c_lose {Ω : Om} {l : Launch} {M : Mem} {r : Nat} (hr : Rw r) : Ct Ω l yX9_lose cX9_lose 1 1 none [.ref (Ω.2.2 r)] M (fun ro M' => ro = none ∧ M' = up1 M r 2 (-1)) := by
  have hL49 : Lk 49 := Lk49
  have hL57 : Lk 57 := Lk57
  refine ct_of (by decide) (Nat.le_of_ble_eq_true rfl) ?_
  intro p e R s m args below meth c
  refine x_aload_n dX9_lose_0 rfl ?_
  refine x_iconst (v := -1) dX9_lose_1 rfl ?_
  refine p_X9_15 dX9_lose_2 ?_
  refine x_vret dX9_lose_5 ?_
  exact ⟨rfl, rfl⟩
set_option maxRecDepth 100000 in
set_option maxHeartbeats 4000000 in
theorem c_hasSpan {Ω : Om} {l : Launch} {M : Mem} {r : Nat} (hr : Rw r) {i n : Int32} : Ct Ω l yX9_hasSpan cX9_hasSpan 3 1 (some .boolean) [.ref (Ω.2.2 r), .int i, .int n] M (fun ro M' => ro = some (.int (bI (decide (0 ≤ i.toInt ∧ 0 ≤ n.toInt ∧ i.toInt ≤ (M.1 r 2 - n).toInt)))) ∧ M = M') := by
  have hL49 : Lk 49 := Lk49
  have hL57 : Lk 57 := Lk57
  refine ct_of (by decide) (Nat.le_of_ble_eq_true rfl) ?_
  intro p e R s m args below meth c
  refine x_iload_n dX9_hasSpan_0 rfl ?_
  refine x_if_lt 22 dX9_hasSpan_1 (fun h_1 => ?_) (fun h_1 => ?_)
  · refine y_iconst (a := 0) dX9_hasSpan_22 rfl ?_
    first | refine z_iret dX9_hasSpan_23 ?_ | refine z_iret0 dX9_hasSpan_23 ?_ | refine z_iret1 dX9_hasSpan_23 ?_
    refine ⟨congrArg (fun z => some (Value.int (bI z))) ?_, rfl⟩
    first | exact (decide_eq_true (by omega)).symm | exact (decide_eq_false (by omega)).symm
  · refine x_iload_n dX9_hasSpan_4 rfl ?_
    refine x_if_lt 22 dX9_hasSpan_5 (fun h_5 => ?_) (fun h_5 => ?_)
    · refine y_iconst (a := 0) dX9_hasSpan_22 rfl ?_
      first | refine z_iret dX9_hasSpan_23 ?_ | refine z_iret0 dX9_hasSpan_23 ?_ | refine z_iret1 dX9_hasSpan_23 ?_
      refine ⟨congrArg (fun z => some (Value.int (bI z))) ?_, rfl⟩
      first | exact (decide_eq_true (by omega)).symm | exact (decide_eq_false (by omega)).symm
    · refine x_iload_n dX9_hasSpan_8 rfl ?_
      refine x_aload_n dX9_hasSpan_9 rfl ?_
      refine g_X9_15 dX9_hasSpan_10 ?_
      refine x_iload_n dX9_hasSpan_13 rfl ?_
      refine x_isub dX9_hasSpan_14 ?_
      refine x_icmp_gt 22 dX9_hasSpan_15 (fun h_15 => ?_) (fun h_15 => ?_)
      · refine y_iconst (a := 0) dX9_hasSpan_22 rfl ?_
        first | refine z_iret dX9_hasSpan_23 ?_ | refine z_iret0 dX9_hasSpan_23 ?_ | refine z_iret1 dX9_hasSpan_23 ?_
        refine ⟨congrArg (fun z => some (Value.int (bI z))) ?_, rfl⟩
        first | exact (decide_eq_true (by omega)).symm | exact (decide_eq_false (by omega)).symm
      · refine y_iconst (a := 1) dX9_hasSpan_18 rfl ?_
        refine x_goto 23 dX9_hasSpan_19 ?_
        first | refine z_iret dX9_hasSpan_23 ?_ | refine z_iret0 dX9_hasSpan_23 ?_ | refine z_iret1 dX9_hasSpan_23 ?_
        refine ⟨congrArg (fun z => some (Value.int (bI z))) ?_, rfl⟩
        first | exact (decide_eq_true (by omega)).symm | exact (decide_eq_false (by omega)).symm
set_option maxRecDepth 100000 in
set_option maxHeartbeats 4000000 in
theorem c_renew {Ω : Om} {l : Launch} {M : Mem} {r : Nat} (hr : Rw r) {a n : Int32} : Ct Ω l yX9_renew cX9_renew 4 1 none [.ref (Ω.2.2 r), .int a, .int n] M (fun ro M' => ro = none ∧ M'.2 = M.2 ∧ M'.1 r 1 = a ∧ M'.1 r 2 = n ∧ (∀ j, j < 40 → M'.1 (r + 1) j = nI 0) ∧ (∀ d, d ≠ r → d ≠ r + 1 → M'.1 d = M.1 d)) := by
  have hL49 : Lk 49 := Lk49
  have hL57 : Lk 57 := Lk57
  refine ct_of (by decide) (Nat.le_of_ble_eq_true rfl) ?_
  intro p e R s m args below meth c
  have key : ∀ (k : Nat) (h : Nat) (M1 : Mem), h + k = 40 ∧ M1.2 = M.2 ∧ M1.1 r 1 = a ∧ M1.1 r 2 = n ∧ (∀ j, j < h → M1.1 (r + 1) j = nI 0) ∧ (∀ d, d ≠ r → d ≠ r + 1 → M1.1 d = M.1 d) → X (mkG p l e R s m args below meth c Ω (fun ro M' => ro = none ∧ M'.2 = M.2 ∧ M'.1 r 1 = a ∧ M'.1 r 2 = n ∧ (∀ j, j < 40 → M'.1 (r + 1) j = nI 0) ∧ (∀ d, d ≠ r → d ≠ r + 1 → M'.1 d = M.1 d))) Ω RX9 cX9_renew 4 1 none 12 [some (.ref (Ω.2.2 r)), some (.int a), some (.int n), some (.int (nI h))] [] M1 := by
    intro k
    induction k with
    | zero =>
      intro h M1 hk
      obtain ⟨hk, h2, h3, h4, h5, h6⟩ := hk
      refine x_iload_n dX9_renew_12 rfl ?_
      refine x_bipush (v := nI 40) dX9_renew_13 rfl ?_
      refine y_icmp_ge 31 dX9_renew_15 (by omega) (by omega) (fun h_15 => ?_) (fun h_15 => ?_)
      · refine x_vret dX9_renew_31 ?_
        obtain rfl : h = 40 := by omega
        exact ⟨rfl, h2, h3, h4, h5, h6⟩
      · exfalso; omega
    | succ k ih =>
      intro h M1 hk
      obtain ⟨hk, h2, h3, h4, h5, h6⟩ := hk
      refine x_iload_n dX9_renew_12 rfl ?_
      refine x_bipush (v := nI 40) dX9_renew_13 rfl ?_
      refine y_icmp_ge 31 dX9_renew_15 (by omega) (by omega) (fun h_15 => ?_) (fun h_15 => ?_)
      · refine x_vret dX9_renew_31 ?_
        obtain rfl : h = 40 := by omega
        exact ⟨rfl, h2, h3, h4, h5, h6⟩
      · refine x_aload_n dX9_renew_18 rfl ?_
        refine g_X9_9 dX9_renew_19 ?_
        refine x_iload_n dX9_renew_22 rfl ?_
        refine y_iconst (a := 0) dX9_renew_23 rfl ?_
        refine x_ias dX9_renew_24 (ArR (by assumption)) (by omega) ?_
        refine y_iinc dX9_renew_25 rfl ?_
        refine x_goto 12 dX9_renew_28 ?_
        exact ih (h + 1) _ ⟨by omega, h2, by rw [up1_ne _ _ _ (by omega)]; exact h3, by rw [up1_ne _ _ _ (by omega)]; exact h4, fun j hj => by rw [up1_at]; split; rfl; exact h5 j (by omega), fun c c1 c2 => by rw [up1_ne _ _ _ c2]; exact h6 c c1 c2⟩
  refine x_aload_n dX9_renew_0 rfl ?_
  refine x_iload_n dX9_renew_1 rfl ?_
  refine p_X9_19 dX9_renew_2 ?_
  refine x_aload_n dX9_renew_5 rfl ?_
  refine x_iload_n dX9_renew_6 rfl ?_
  refine p_X9_15 dX9_renew_7 ?_
  refine y_iconst (a := 0) dX9_renew_10 rfl ?_
  refine x_istore_n dX9_renew_11 ?_
  exact key 40 0 _ ⟨rfl, rfl, by simp [up1_at], by simp [up1_at], fun j hj => by omega, fun c c1 c2 => by rw [up1_ne _ _ _ c1, up1_ne _ _ _ c1]⟩
/-- a value as a lane holds it -/
def asL (a x : Int32) : Int32 := if a = nI 0 then x.toInt8.toInt32 else if a = nI 1 then x.toInt16.toInt32 else x
set_option maxRecDepth 100000 in
set_option maxHeartbeats 4000000 in
theorem c_put {Ω : Om} {l : Launch} {M : Mem} {r i : Nat} (hr : Rw r) (hi : i < 40) {x : Int32} : Ct Ω l yX9_put cX9_put 3 1 (some .int) [.ref (Ω.2.2 r), .int (nI i), .int x] M (fun ro M' => ro = some (.int (asL (M.1 r 1) x)) ∧ M' = up1 M (r + 1) i (asL (M.1 r 1) x)) := by
  have hL49 : Lk 49 := Lk49
  have hL57 : Lk 57 := Lk57
  refine ct_of (by decide) (Nat.le_of_ble_eq_true rfl) ?_
  intro p e R s m args below meth c
  refine x_aload_n dX9_put_0 rfl ?_
  refine g_X9_9 dX9_put_1 ?_
  refine x_iload_n dX9_put_4 rfl ?_
  refine x_aload_n dX9_put_5 rfl ?_
  refine g_X9_19 dX9_put_6 ?_
  refine x_if_ne 17 dX9_put_9 (fun h_9 => ?_) (fun h_9 => ?_)
  · refine x_aload_n dX9_put_17 rfl ?_
    refine g_X9_19 dX9_put_18 ?_
    refine y_iconst (a := 1) dX9_put_21 rfl ?_
    refine x_icmp_ne 30 dX9_put_22 (fun h_22 => ?_) (fun h_22 => ?_)
    · refine x_iload_n dX9_put_30 rfl ?_
      refine x_ias dX9_put_31 (ArR (by assumption)) (by omega) ?_
      refine x_aload_n dX9_put_32 rfl ?_
      refine g_X9_9 dX9_put_33 ?_
      refine x_iload_n dX9_put_36 rfl ?_
      refine x_ial dX9_put_37 (ArR (by assumption)) (by omega) ?_
      refine x_iret dX9_put_38 ?_
      unfold asL
      first
        | (rw [if_pos (show M.1 r 1 = nI 0 from h_9)]; exact ⟨by simp [up1_at], rfl⟩)
        | (rw [if_neg (show ¬ M.1 r 1 = nI 0 from h_9), if_pos h_22]; exact ⟨by simp [up1_at], rfl⟩)
        | (rw [if_neg (show ¬ M.1 r 1 = nI 0 from h_9), if_neg h_22]; exact ⟨by simp [up1_at], rfl⟩)
    · refine x_iload_n dX9_put_25 rfl ?_
      refine x_i2s dX9_put_26 ?_
      refine x_goto 31 dX9_put_27 ?_
      refine x_ias dX9_put_31 (ArR (by assumption)) (by omega) ?_
      refine x_aload_n dX9_put_32 rfl ?_
      refine g_X9_9 dX9_put_33 ?_
      refine x_iload_n dX9_put_36 rfl ?_
      refine x_ial dX9_put_37 (ArR (by assumption)) (by omega) ?_
      refine x_iret dX9_put_38 ?_
      unfold asL
      first
        | (rw [if_pos (show M.1 r 1 = nI 0 from h_9)]; exact ⟨by simp [up1_at], rfl⟩)
        | (rw [if_neg (show ¬ M.1 r 1 = nI 0 from h_9), if_pos h_22]; exact ⟨by simp [up1_at], rfl⟩)
        | (rw [if_neg (show ¬ M.1 r 1 = nI 0 from h_9), if_neg h_22]; exact ⟨by simp [up1_at], rfl⟩)
  · refine x_iload_n dX9_put_12 rfl ?_
    refine x_i2b dX9_put_13 ?_
    refine x_goto 31 dX9_put_14 ?_
    refine x_ias dX9_put_31 (ArR (by assumption)) (by omega) ?_
    refine x_aload_n dX9_put_32 rfl ?_
    refine g_X9_9 dX9_put_33 ?_
    refine x_iload_n dX9_put_36 rfl ?_
    refine x_ial dX9_put_37 (ArR (by assumption)) (by omega) ?_
    refine x_iret dX9_put_38 ?_
    unfold asL
    first
      | (rw [if_pos (show M.1 r 1 = nI 0 from h_9)]; exact ⟨by simp [up1_at], rfl⟩)
      | (rw [if_neg (show ¬ M.1 r 1 = nI 0 from h_9), if_pos h_22]; exact ⟨by simp [up1_at], rfl⟩)
      | (rw [if_neg (show ¬ M.1 r 1 = nI 0 from h_9), if_neg h_22]; exact ⟨by simp [up1_at], rfl⟩)
set_option maxRecDepth 100000 in
set_option maxHeartbeats 4000000 in
theorem c_findingOfSpan {Ω : Om} {l : Launch} {M : Mem} {r : Nat} (hr : Rw r) {i n : Int32} : Ct Ω l yX11_findingOfSpan cX11_findingOfSpan 3 2 (some .int) [.ref (Ω.2.2 r), .int i, .int n] M (fun ro M' => ro = some (.int (if M.1 r 2 = -1 then nI 1 else if decide (0 ≤ i.toInt ∧ 0 ≤ n.toInt ∧ i.toInt ≤ (M.1 r 2 - n).toInt) = true then nI 0 else nI 2)) ∧ M = M') := by
  have hL49 : Lk 49 := Lk49
  have hL57 : Lk 57 := Lk57
  refine ct_of (by decide) (Nat.le_of_ble_eq_true rfl) ?_
  intro p e R s m args below meth c
  refine x_aload_n dX11_findingOfSpan_0 rfl ?_
  refine q_X11_93 (c_isMissing hr) dX11_findingOfSpan_1 rfl ?_
  rintro _ _ ⟨rfl, rfl⟩
  refine z_if_eq 9 dX11_findingOfSpan_4 (fun h_4 => ?_) (fun h_4 => ?_)
  · refine x_aload_n dX11_findingOfSpan_9 rfl ?_
    refine x_iload_n dX11_findingOfSpan_10 rfl ?_
    refine x_iload_n dX11_findingOfSpan_11 rfl ?_
    refine q_X11_97 (c_hasSpan hr) dX11_findingOfSpan_12 rfl ?_
    rintro _ _ ⟨rfl, rfl⟩
    refine z_if_eq 22 dX11_findingOfSpan_15 (fun h_15 => ?_) (fun h_15 => ?_)
    · refine y_iconst (a := 2) dX11_findingOfSpan_22 rfl ?_
      refine x_iret dX11_findingOfSpan_23 ?_
      refine ⟨congrArg (fun z => some (Value.int z)) ?_, rfl⟩
      first
        | (rw [if_pos (by simpa using h_4)]; done)
        | (rw [if_neg (by simpa using h_4), if_pos h_15]; done)
        | (rw [if_neg (by simpa using h_4), if_neg (by rw [h_15]; decide)]; done)
    · refine y_iconst (a := 0) dX11_findingOfSpan_18 rfl ?_
      refine x_goto 23 dX11_findingOfSpan_19 ?_
      refine x_iret dX11_findingOfSpan_23 ?_
      refine ⟨congrArg (fun z => some (Value.int z)) ?_, rfl⟩
      first
        | (rw [if_pos (by simpa using h_4)]; done)
        | (rw [if_neg (by simpa using h_4), if_pos h_15]; done)
        | (rw [if_neg (by simpa using h_4), if_neg (by rw [h_15]; decide)]; done)
  · refine y_iconst (a := 1) dX11_findingOfSpan_7 rfl ?_
    refine x_iret dX11_findingOfSpan_8 ?_
    refine ⟨congrArg (fun z => some (Value.int z)) ?_, rfl⟩
    first
      | (rw [if_pos (by simpa using h_4)]; done)
      | (rw [if_neg (by simpa using h_4), if_pos h_15]; done)
      | (rw [if_neg (by simpa using h_4), if_neg (by rw [h_15]; decide)]; done)
