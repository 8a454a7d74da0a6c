/-! FORETOLD: the line, further (laid by gen_line2.py) -/
theorem OdR.keep {M M' : Mem} {o : List Nat} (h : OdR M o) (e : M'.1 14 5 = M.1 14 5) (e2 : M'.1 15 = M.1 15) : OdR M' o := ⟨e.trans h.1, fun i hi => by rw [e2]; exact h.2 i hi⟩
/-- the best so far in the class's cells -/
def BsR (M : Mem) (len : Nat) : Option (Nat × List Nat) → Prop
  | none => M.1 14 6 = -1
  | some q => M.1 14 6 = nI q.1 ∧ q.1 ≤ 6 ∧ q.2.length = len ∧ ∀ i, i < len → M.1 16 i = nI (gD q.2 i)
theorem BsR.keep {M M' : Mem} {n : Nat} : ∀ {o : Option (Nat × List Nat)}, BsR M n o → M'.1 14 6 = M.1 14 6 → M'.1 16 = M.1 16 → BsR M' n o
  | none, h, e, _ => e.trans h
  | some q, h, e, e2 => ⟨e.trans h.1, h.2.1, h.2.2.1, fun i hi => by rw [e2]; exact h.2.2.2 i hi⟩
/-- what seeking the line may change -/
def F14 (M M' : Mem) : Prop := (∀ c, ¬ (c = 14 ∨ c = 15 ∨ c = 16 ∨ (65 ≤ c ∧ c < 81)) → M'.1 c = M.1 c) ∧ ∀ k, k ≠ 2 → k ≠ 5 → k ≠ 6 → M'.1 14 k = M.1 14 k
theorem AO_6 {v : Nat → Nat} (hI : Iv v) (h3 : v 3 ≤ 4000) {n : Nat} (hn : n ≤ 60) {o : List Nat} (ho : Od v o) : AO v n o ≤ 6 := by
  obtain ⟨i1, i2⟩ := liN_Iv hI h3 ho _ (Nat.le_refl _)
  have hh := hrs_ne i1.1 n (by rw [i2 3 (by omega)]; omega)
  unfold AO
  exact pop_small _ (whoA_lt hh.1 _)
def o0N (v : Nat → Nat) (k : Nat) : List Nat := (List.range k).filter (bo v)
theorem o0N_step (v : Nat → Nat) (k : Nat) : o0N v (k + 1) = if bo v k = true then o0N v k ++ [k] else o0N v k := by
  unfold o0N
  rw [List.range_succ, List.filter_append]
  split
  · rename_i h
    rw [List.filter_cons_of_pos h]; rfl
  · rename_i h
    rw [List.filter_cons_of_neg h]; simp
theorem o0N_len (v : Nat → Nat) (k : Nat) : (o0N v k).length ≤ k := by
  have := List.length_filter_le (bo v) (List.range k)
  rw [List.length_range] at this
  exact this
theorem gD_snoc (o : List Nat) (k i : Nat) : gD (o ++ [k]) i = if i = o.length then k else gD o i := by
  unfold gD
  rw [List.getD_eq_getElem?_getD, List.getD_eq_getElem?_getD]
  by_cases e : i = o.length
  · subst e; simp
  · rw [if_neg e]
    by_cases e2 : i < o.length
    · rw [List.getElem?_append_left e2]
    · rw [List.getElem?_eq_none (by simp; omega), List.getElem?_eq_none (by omega)]
theorem lnS_none {v : Nat → Nat} {n f : Nat} {o : List Nat} {acc : Option (Nat × List Nat)} (h : nxL o = none) : lnS v n (f + 1) o acc = lnU v n acc o := by
  unfold lnS; rw [h]
theorem lnS_some {v : Nat → Nat} {n f : Nat} {o o2 : List Nat} {acc : Option (Nat × List Nat)} (h : nxL o = some o2) : lnS v n (f + 1) o acc = lnS v n f o2 (lnU v n acc o) := by
  conv => lhs; unfold lnS
  rw [h]
theorem Od.bl {v : Nat → Nat} {o : List Nat} (h : Od v o) (h2 : v 2 ≤ 6) : Bl 6 o := fun i hi => by have := h.2 i hi; omega

set_option maxRecDepth 100000 in
set_option maxHeartbeats 4000000 in
theorem c_aboveInOrder {Ω : Om} {l : Launch} {M : Mem} {b : Nat} {v : Nat → Nat} (hb : Lk b) (hb5 : b ≠ 65) (hR : LkR M b v) (hI : Iv v) (h3 : v 3 ≤ 4000) {n : Nat} (hn60 : n ≤ 60) {o : List Nat} (hO : OdR M o) (ho : Od v o) : Ct Ω l yX5_aboveInOrder cX5_aboveInOrder 4 6 (some .int) [.ref (Ω.2.2 14), .ref (Ω.2.2 b), .int (nI n)] M (fun ro M' => ro = some (.int (nI (AO v n o))) ∧ Fr 65 M M') := by
  have hL49 : Lk 49 := Lk49
  have hL57 : Lk 57 := Lk57
  have hw := hI.1
  have hn := hw.nums
  have hL65 : Lk 65 := Lk65
  obtain ⟨hIw, hle⟩ := liN_Iv hI h3 ho _ (Nat.le_refl _)
  have hbb : 49 ≤ b := hb.1
  refine ct_of (by decide) (Nat.le_of_ble_eq_true rfl) ?_
  intro p e R s m args below meth c
  have key2 : ∀ (k : Nat) (h : Nat) (M1 : Mem), h + k = n ∧ LkR M1 65 (hrs (liN v o o.length) h) ∧ Fr 65 M M1 → X (mkG p l e R s m args below meth c Ω (fun ro M' => ro = some (.int (nI (AO v n o))) ∧ Fr 65 M M')) Ω RX5 cX5_aboveInOrder 4 6 (some .int) 46 [some (.ref (Ω.2.2 14)), some (.ref (Ω.2.2 b)), some (.int (nI n)), some (.int (nI h))] [] M1 := by
    intro k
    induction k with
    | zero =>
      intro h M1 hk
      obtain ⟨hk, hR1, hF1⟩ := hk
      have hne := hrs_ne hIw.1 h (by rw [hle 3 (by omega)]; omega)
      have hI1 := hrs_Iv hIw h (by rw [hle 3 (by omega)]; omega)
      have h01 : 1 ≤ hrs (liN v o o.length) h 0 := by have := hI1.2.1; omega
      have e0 : hrs (liN v o o.length) h 0 = v 0 := by rw [hne.2.1 0 (by omega) (by omega), hle 0 (by omega)]
      have e2 : hrs (liN v o o.length) h 2 = v 2 := by rw [hne.2.1 2 (by omega) (by omega), hle 2 (by omega)]
      have hcl := cntN_le (mayR (hrs (liN v o o.length) h)) (hrs (liN v o o.length) h 2)
      refine x_iload_n dX5_aboveInOrder_46 rfl ?_
      refine x_iload_n dX5_aboveInOrder_47 rfl ?_
      refine y_icmp_ge 74 dX5_aboveInOrder_48 (by omega) (by omega) (fun h_48 => ?_) (fun h_48 => ?_)
      · refine x_aload_n dX5_aboveInOrder_74 rfl ?_
        refine g_X5_30 dX5_aboveInOrder_75 ?_
        refine q_X5_105 (c_howManyAbove Lk65 hR1 hne.1) dX5_aboveInOrder_78 rfl ?_
        rintro _ _ ⟨rfl, rfl⟩
        refine x_iret dX5_aboveInOrder_81 ?_
        refine ⟨?_, hF1⟩
        unfold AO
        by_cases hhn : h = n
        · subst hhn
          rw [e0]
        · have hz : cntN (mayR (hrs (liN v o o.length) h)) (liN v o o.length 2) = 0 := by rw [hle 2 (by omega), ← e2]; first | exact h_58 | (exfalso; omega)
          have hs := AO_stop hIw (h := h) (n := n) (by omega) (by rw [hle 3 (by omega)]; omega) hz
          rw [hle 0 (by omega)] at hs
          rw [e0, hs]
      · exfalso; omega
    | succ k ih =>
      intro h M1 hk
      obtain ⟨hk, hR1, hF1⟩ := hk
      have hne := hrs_ne hIw.1 h (by rw [hle 3 (by omega)]; omega)
      have hI1 := hrs_Iv hIw h (by rw [hle 3 (by omega)]; omega)
      have h01 : 1 ≤ hrs (liN v o o.length) h 0 := by have := hI1.2.1; omega
      have e0 : hrs (liN v o o.length) h 0 = v 0 := by rw [hne.2.1 0 (by omega) (by omega), hle 0 (by omega)]
      have e2 : hrs (liN v o o.length) h 2 = v 2 := by rw [hne.2.1 2 (by omega) (by omega), hle 2 (by omega)]
      have hcl := cntN_le (mayR (hrs (liN v o o.length) h)) (hrs (liN v o o.length) h 2)
      refine x_iload_n dX5_aboveInOrder_46 rfl ?_
      refine x_iload_n dX5_aboveInOrder_47 rfl ?_
      refine y_icmp_ge 74 dX5_aboveInOrder_48 (by omega) (by omega) (fun h_48 => ?_) (fun h_48 => ?_)
      · refine x_aload_n dX5_aboveInOrder_74 rfl ?_
        refine g_X5_30 dX5_aboveInOrder_75 ?_
        refine q_X5_105 (c_howManyAbove Lk65 hR1 hne.1) dX5_aboveInOrder_78 rfl ?_
        rintro _ _ ⟨rfl, rfl⟩
        refine x_iret dX5_aboveInOrder_81 ?_
        refine ⟨?_, hF1⟩
        unfold AO
        by_cases hhn : h = n
        · subst hhn
          rw [e0]
        · have hz : cntN (mayR (hrs (liN v o o.length) h)) (liN v o o.length 2) = 0 := by rw [hle 2 (by omega), ← e2]; first | exact h_58 | (exfalso; omega)
          have hs := AO_stop hIw (h := h) (n := n) (by omega) (by rw [hle 3 (by omega)]; omega) hz
          rw [hle 0 (by omega)] at hs
          rw [e0, hs]
      · refine x_aload_n dX5_aboveInOrder_51 rfl ?_
        refine g_X5_30 dX5_aboveInOrder_52 ?_
        refine q_X5_108 (c_howManyMayRise Lk65 hR1 hne.1 h01) dX5_aboveInOrder_55 rfl ?_
        rintro _ _ ⟨rfl, rfl⟩
        refine y_if_le 74 dX5_aboveInOrder_58 (by omega) (fun h_58 => ?_) (fun h_58 => ?_)
        · refine x_aload_n dX5_aboveInOrder_74 rfl ?_
          refine g_X5_30 dX5_aboveInOrder_75 ?_
          refine q_X5_105 (c_howManyAbove Lk65 hR1 hne.1) dX5_aboveInOrder_78 rfl ?_
          rintro _ _ ⟨rfl, rfl⟩
          refine x_iret dX5_aboveInOrder_81 ?_
          refine ⟨?_, hF1⟩
          unfold AO
          by_cases hhn : h = n
          · subst hhn
            rw [e0]
          · have hz : cntN (mayR (hrs (liN v o o.length) h)) (liN v o o.length 2) = 0 := by rw [hle 2 (by omega), ← e2]; first | exact h_58 | (exfalso; omega)
            have hs := AO_stop hIw (h := h) (n := n) (by omega) (by rw [hle 3 (by omega)]; omega) hz
            rw [hle 0 (by omega)] at hs
            rw [e0, hs]
        · refine x_aload_n dX5_aboveInOrder_61 rfl ?_
          refine g_X5_30 dX5_aboveInOrder_62 ?_
          refine q_X5_41 (c_runHour Lk65 hR1 hne.1) dX5_aboveInOrder_65 rfl ?_
          rintro _ M2 ⟨rfl, hR2, hF2⟩
          refine y_iinc dX5_aboveInOrder_68 rfl ?_
          refine x_goto 46 dX5_aboveInOrder_71 ?_
          exact ih (h + 1) _ ⟨by omega, hR2, hF1.tr hF2⟩
  have key1 : ∀ (k : Nat) (h : Nat) (M1 : Mem), h + k = o.length ∧ LkR M1 65 (liN v o h) ∧ Fr 65 M M1 → X (mkG p l e R s m args below meth c Ω (fun ro M' => ro = some (.int (nI (AO v n o))) ∧ Fr 65 M M')) Ω RX5 cX5_aboveInOrder 4 6 (some .int) 10 [some (.ref (Ω.2.2 14)), some (.ref (Ω.2.2 b)), some (.int (nI n)), some (.int (nI h))] [] M1 := by
    intro k
    induction k with
    | zero =>
      intro h M1 hk
      obtain ⟨hk, hR1, hF1⟩ := hk
      have hRb := hR.keep hF1 hb Lk65 hb5
      have hO1 : OdR M1 o := hO.keep (by rw [hF1.2 14 (by omega)]) (hF1.2 15 (by omega))
      obtain ⟨hIk, hlk⟩ := liN_Iv hI h3 ho h (by omega)
      have hol := ho.1
      refine x_iload_n dX5_aboveInOrder_10 rfl ?_
      refine x_aload_n dX5_aboveInOrder_11 rfl ?_
      refine g_X5_96 dX5_aboveInOrder_12 ?_
      rw [hO1.1]
      refine y_icmp_ge 44 dX5_aboveInOrder_15 (by omega) (by omega) (fun h_15 => ?_) (fun h_15 => ?_)
      · refine y_iconst (a := 0) dX5_aboveInOrder_44 rfl ?_
        refine x_istore_n dX5_aboveInOrder_45 ?_
        obtain rfl : h = o.length := by omega
        exact key2 n 0 _ ⟨Nat.zero_add _, hR1, hF1⟩
      · exfalso; omega
    | succ k ih =>
      intro h M1 hk
      obtain ⟨hk, hR1, hF1⟩ := hk
      have hRb := hR.keep hF1 hb Lk65 hb5
      have hO1 : OdR M1 o := hO.keep (by rw [hF1.2 14 (by omega)]) (hF1.2 15 (by omega))
      obtain ⟨hIk, hlk⟩ := liN_Iv hI h3 ho h (by omega)
      have hol := ho.1
      refine x_iload_n dX5_aboveInOrder_10 rfl ?_
      refine x_aload_n dX5_aboveInOrder_11 rfl ?_
      refine g_X5_96 dX5_aboveInOrder_12 ?_
      rw [hO1.1]
      refine y_icmp_ge 44 dX5_aboveInOrder_15 (by omega) (by omega) (fun h_15 => ?_) (fun h_15 => ?_)
      · refine y_iconst (a := 0) dX5_aboveInOrder_44 rfl ?_
        refine x_istore_n dX5_aboveInOrder_45 ?_
        obtain rfl : h = o.length := by omega
        exact key2 n 0 _ ⟨Nat.zero_add _, hR1, hF1⟩
      · refine x_aload_n dX5_aboveInOrder_18 rfl ?_
        refine g_X5_30 dX5_aboveInOrder_19 ?_
        refine g_X5_128 dX5_aboveInOrder_22 ?_
        refine x_aload_n dX5_aboveInOrder_25 rfl ?_
        refine g_X5_9 dX5_aboveInOrder_26 ?_
        refine x_iload_n dX5_aboveInOrder_29 rfl ?_
        refine x_ial dX5_aboveInOrder_30 (⟨by decide, rfl, rfl, by decide⟩ : Ar 15 6) (by omega) ?_
        rw [hO1.2 _ (by omega)]
        have hgo := ho.2 h (by omega)
        refine x_aload_n dX5_aboveInOrder_31 rfl ?_
        refine g_X5_51 dX5_aboveInOrder_32 ?_
        rw [hRb.hour]
        refine x_iload_n dX5_aboveInOrder_35 rfl ?_
        refine y_iadd dX5_aboveInOrder_36 ?_
        refine x_ias dX5_aboveInOrder_37 (ArL (by assumption) (Or.inr ⟨by decide, by decide, rfl⟩)) (by omega) ?_
        refine y_iinc dX5_aboveInOrder_38 rfl ?_
        refine x_goto 10 dX5_aboveInOrder_41 ?_
        exact ih (h + 1) _ ⟨by omega, hR1.setStart hIk.1 (by rw [hlk 2 (by omega)]; exact hgo), hF1.up (by omega)⟩
  refine x_aload_n dX5_aboveInOrder_0 rfl ?_
  refine g_X5_30 dX5_aboveInOrder_1 ?_
  refine x_aload_n dX5_aboveInOrder_4 rfl ?_
  refine q_X5_37 (c_become Lk65 hb hb5 hR hw) dX5_aboveInOrder_5 rfl ?_
  rintro _ M0 ⟨rfl, hR0, hF0⟩
  refine y_iconst (a := 0) dX5_aboveInOrder_8 rfl ?_
  refine x_istore_n dX5_aboveInOrder_9 ?_
  exact key1 _ 0 _ ⟨Nat.zero_add _, hR0, hF0⟩
