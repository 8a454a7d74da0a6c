/-! FORETOLD, second part (laid by gen_fore2.py) -/
theorem orN_succ (f : Nat → Nat) (n : Nat) : orN f (n + 1) = orN f n ||| f n := rfl
/-- which of lo .. hi fit, put at place base + g -/
def fitK (base lo hi : Nat) (v : Nat → Nat) (g go : Nat) (it : Nat → Int32) (n : Nat) : Nat := orN (fun y => if lo ≤ y ∧ fitN (sv v (base + g) y) go it n = true then 2 ^ y else 0) (hi + 1)
set_option maxRecDepth 100000 in
set_option maxHeartbeats 4000000 in
theorem c_hasSpanN {Ω : Om} {l : Launch} {M : Mem} {r i n z : Nat} (hr : Rw r) (hz : M.1 r 2 = nI z) (hz40 : z ≤ 40) (hi : i < 2 ^ 31) (hn : n ≤ z) : Ct Ω l yX9_hasSpan cX9_hasSpan 3 1 (some .boolean) [.ref (Ω.2.2 r), .int (nI i), .int (nI n)] M (fun ro M' => ro = some (.int (bI (decide (i + n ≤ z)))) ∧ M = M') := by
  refine ct_of (by decide) (Nat.le_of_ble_eq_true rfl) ?_
  intro p e R s m args below meth c
  refine x_iload_n dX9_hasSpan_0 rfl ?_
  refine y_if_lt 22 dX9_hasSpan_1 (by omega) ?_
  refine x_iload_n dX9_hasSpan_4 rfl ?_
  refine y_if_lt 22 dX9_hasSpan_5 (by omega) ?_
  refine x_iload_n dX9_hasSpan_8 rfl ?_
  refine x_aload_n dX9_hasSpan_9 rfl ?_
  refine g_X9_15 dX9_hasSpan_10 ?_
  rw [hz]
  refine x_iload_n dX9_hasSpan_13 rfl ?_
  refine y_isub dX9_hasSpan_14 (by omega) ?_
  refine y_icmp_gt 22 dX9_hasSpan_15 (by omega) (by omega) (fun h_15 => ?_) (fun h_15 => ?_)
  · refine y_iconst (a := 0) dX9_hasSpan_22 rfl ?_
    first | refine z_iret dX9_hasSpan_23 ?_ | refine z_iret0 dX9_hasSpan_23 ?_ | refine z_iret1 dX9_hasSpan_23 ?_
    exact ⟨congrArg (fun q => some (Value.int (bI q))) (by simp; omega), rfl⟩
  · refine y_iconst (a := 1) dX9_hasSpan_18 rfl ?_
    refine x_goto 23 dX9_hasSpan_19 ?_
    first | refine z_iret dX9_hasSpan_23 ?_ | refine z_iret0 dX9_hasSpan_23 ?_ | refine z_iret1 dX9_hasSpan_23 ?_
    exact ⟨congrArg (fun q => some (Value.int (bI q))) (by simp; omega), rfl⟩
def toldM (M : Mem) (r : Nat) (i n g : Int32) : Mem := up1 (up1 (up1 ((M.1, M.2.1, some r) : Mem) 14 11 i) 14 12 n) 14 13 g
set_option maxRecDepth 100000 in
set_option maxHeartbeats 4000000 in
theorem c_told {Ω : Om} {l : Launch} {M : Mem} {r : Nat} {i n g : Int32} : Ct Ω l yX5_told cX5_told 5 1 none [.ref (Ω.2.2 14), .ref (Ω.2.2 r), .int i, .int n, .int g] M (fun ro M' => ro = none ∧ M' = toldM M r i n g) := by
  refine ct_of (by decide) (Nat.le_of_ble_eq_true rfl) ?_
  intro p e R s m args below meth c
  refine x_aload_n dX5_told_0 rfl ?_
  refine x_aload_n dX5_told_1 rfl ?_
  refine p_X5_139 dX5_told_2 ?_
  refine x_aload_n dX5_told_5 rfl ?_
  refine x_iload_n dX5_told_6 rfl ?_
  refine p_X5_143 dX5_told_7 ?_
  refine x_aload_n dX5_told_10 rfl ?_
  refine x_iload_n dX5_told_11 rfl ?_
  refine p_X5_146 dX5_told_12 ?_
  refine x_aload_n dX5_told_15 rfl ?_
  refine x_iload dX5_told_16 rfl ?_
  refine p_X5_149 dX5_told_18 ?_
  refine x_vret dX5_told_21 ?_
  exact ⟨rfl, rfl⟩
/-- what is told: row r, from place i on, n hours, goer g; the row holds z items -/
def Td (M : Mem) (r i n g z : Nat) : Prop := M.2.2 = some r ∧ Rw r ∧ M.1 14 11 = nI i ∧ M.1 14 12 = nI n ∧ M.1 14 13 = nI g ∧ M.1 r 2 = nI z ∧ i + n ≤ z ∧ z ≤ 40
theorem Td.keep {M M1 : Mem} {r i n g z : Nat} (h : Td M r i n g z) (hF : Fr 65 M M1) : Td M1 r i n g z ∧ M1.1 (r + 1) = M.1 (r + 1) := by
  obtain ⟨h1, h2, h3, h4, h5, h6, h7, h8⟩ := h
  have hr := h2
  obtain ⟨r1, r2, r3⟩ := hr
  refine ⟨⟨by rw [hF.1]; exact h1, h2, by rw [hF.2 14 (by omega)]; exact h3, by rw [hF.2 14 (by omega)]; exact h4, by rw [hF.2 14 (by omega)]; exact h5, by rw [hF.2 r (by omega)]; exact h6, h7, h8⟩, hF.2 _ (by omega)⟩
set_option maxRecDepth 100000 in
set_option maxHeartbeats 4000000 in
theorem c_fits {Ω : Om} {l : Launch} {M : Mem} {v : Nat → Nat} (hR : LkR M 65 v) (hw0 : Wv v) {r i n g z : Nat} (hT : Td M r i n g z) (hg : g < v 2) (hh : v 3 ≤ 4000) : Ct Ω l yX5_fitsWhatIsTold cX5_fitsWhatIsTold 2 6 (some .boolean) [.ref (Ω.2.2 14)] M (fun ro M' => ro = some (.int (bI (fitN v g (fun h => M.1 (r + 1) (i + h)) n))) ∧ Fr 65 M M') := by
  have hw := hw0
  have hn := hw.nums
  have hL65 : Lk 65 := Lk65
  have hL73 : Lk 73 := Lk73
  have hn40 : n ≤ 40 := by obtain ⟨-, -, -, -, -, -, t7, t8⟩ := hT; omega
  refine ct_of (by decide) (Nat.le_of_ble_eq_true rfl) ?_
  intro p e R s m args below meth c
  have key : ∀ (k : Nat) (h : Nat) (M1 : Mem), h + k = n ∧ LkR M1 65 (hrs v h) ∧ Fr 65 M M1 ∧ fitN v g (fun h => M.1 (r + 1) (i + h)) h = true → X (mkG p l e R s m args below meth c Ω (fun ro M' => ro = some (.int (bI (fitN v g (fun h => M.1 (r + 1) (i + h)) n))) ∧ Fr 65 M M')) Ω RX5 cX5_fitsWhatIsTold 2 6 (some .boolean) 29 [some (.ref (Ω.2.2 14)), some (.int (nI h))] [] M1 := by
    intro k
    induction k with
    | zero =>
      intro h M1 hk
      obtain ⟨hk, hR1, hF1, hfi⟩ := hk
      have hne := hrs_ne hw h (by omega)
      have hne1 := hrs_ne hw (h + 1) (by omega)
      obtain ⟨⟨t1, t2, t3, t4, t5, t6, t7, t8⟩, t9⟩ := hT.keep hF1
      refine x_iload_n dX5_fitsWhatIsTold_29 rfl ?_
      refine x_aload_n dX5_fitsWhatIsTold_30 rfl ?_
      refine g_X5_146 dX5_fitsWhatIsTold_31 ?_
      rw [t4]
      refine y_icmp_ge 81 dX5_fitsWhatIsTold_34 (by omega) (by omega) (fun h_34 => ?_) (fun h_34 => ?_)
      · refine y_iconst (a := 1) dX5_fitsWhatIsTold_81 rfl ?_
        first | refine z_iret dX5_fitsWhatIsTold_82 ?_ | refine z_iret0 dX5_fitsWhatIsTold_82 ?_ | refine z_iret1 dX5_fitsWhatIsTold_82 ?_
        obtain rfl : h = n := by omega
        rw [hfi]
        exact ⟨rfl, hF1⟩
      · exfalso; omega
    | succ k ih =>
      intro h M1 hk
      obtain ⟨hk, hR1, hF1, hfi⟩ := hk
      have hne := hrs_ne hw h (by omega)
      have hne1 := hrs_ne hw (h + 1) (by omega)
      obtain ⟨⟨t1, t2, t3, t4, t5, t6, t7, t8⟩, t9⟩ := hT.keep hF1
      refine x_iload_n dX5_fitsWhatIsTold_29 rfl ?_
      refine x_aload_n dX5_fitsWhatIsTold_30 rfl ?_
      refine g_X5_146 dX5_fitsWhatIsTold_31 ?_
      rw [t4]
      refine y_icmp_ge 81 dX5_fitsWhatIsTold_34 (by omega) (by omega) (fun h_34 => ?_) (fun h_34 => ?_)
      · refine y_iconst (a := 1) dX5_fitsWhatIsTold_81 rfl ?_
        first | refine z_iret dX5_fitsWhatIsTold_82 ?_ | refine z_iret0 dX5_fitsWhatIsTold_82 ?_ | refine z_iret1 dX5_fitsWhatIsTold_82 ?_
        obtain rfl : h = n := by omega
        rw [hfi]
        exact ⟨rfl, hF1⟩
      · refine x_aload_n dX5_fitsWhatIsTold_37 rfl ?_
        refine g_X5_30 dX5_fitsWhatIsTold_38 ?_
        refine q_X5_41 (c_runHour Lk65 hR1 hne.1) dX5_fitsWhatIsTold_41 rfl ?_
        rintro _ M2 ⟨rfl, hR2, hF2⟩
        obtain ⟨⟨u1, u2, u3, u4, u5, u6, u7, u8⟩, u9⟩ := hT.keep (hF1.tr hF2)
        refine x_aload_n dX5_fitsWhatIsTold_44 rfl ?_
        refine g_X5_30 dX5_fitsWhatIsTold_45 ?_
        refine g_X5_99 dX5_fitsWhatIsTold_48 ?_
        refine x_aload_n dX5_fitsWhatIsTold_51 rfl ?_
        refine g_X5_149 dX5_fitsWhatIsTold_52 ?_
        rw [u5]
        refine x_ial dX5_fitsWhatIsTold_55 (ArL (by assumption) (Or.inr ⟨by decide, by decide, rfl⟩)) (by omega) ?_
        rw [(show LkR M2 65 (hrs v (h + 1)) from hR2).place (by rw [hne1.2.1 2 (by omega) (by omega)]; omega)]
        refine x_aload_n dX5_fitsWhatIsTold_56 rfl ?_
        refine g_X5_139 dX5_fitsWhatIsTold_57 ?_
        rw [u1]
        refine g_X5_157 dX5_fitsWhatIsTold_60 ?_
        refine x_aload_n dX5_fitsWhatIsTold_63 rfl ?_
        refine g_X5_143 dX5_fitsWhatIsTold_64 ?_
        rw [u3]
        refine x_iload_n dX5_fitsWhatIsTold_67 rfl ?_
        refine y_iadd dX5_fitsWhatIsTold_68 ?_
        refine x_ial dX5_fitsWhatIsTold_69 (ArR u2) (by omega) ?_
        rw [u9]
        refine x_icmp_eq 75 dX5_fitsWhatIsTold_70 (fun h_70 => ?_) (fun h_70 => ?_)
        · refine y_iinc dX5_fitsWhatIsTold_75 rfl ?_
          refine x_goto 29 dX5_fitsWhatIsTold_78 ?_
          refine ih (h + 1) _ ⟨by omega, hR2, hF1.tr hF2, ?_⟩
          simp only [fitN, hfi, Bool.true_and, decide_eq_true_eq]
          exact h_70
        · refine y_iconst (a := 0) dX5_fitsWhatIsTold_73 rfl ?_
          refine z_iret0 dX5_fitsWhatIsTold_74 ?_
          rw [fitN_false h_70 (by omega)]
          exact ⟨rfl, hF1.tr hF2⟩
  obtain ⟨t1, t2, t3, t4, t5, t6, t7, t8⟩ := id hT
  refine x_aload_n dX5_fitsWhatIsTold_0 rfl ?_
  refine g_X5_139 dX5_fitsWhatIsTold_1 ?_
  rw [t1]
  refine x_ifnull dX5_fitsWhatIsTold_4 ?_
  refine x_aload_n dX5_fitsWhatIsTold_7 rfl ?_
  refine g_X5_139 dX5_fitsWhatIsTold_8 ?_
  rw [t1]
  refine x_aload_n dX5_fitsWhatIsTold_11 rfl ?_
  refine g_X5_143 dX5_fitsWhatIsTold_12 ?_
  rw [t3]
  refine x_aload_n dX5_fitsWhatIsTold_15 rfl ?_
  refine g_X5_146 dX5_fitsWhatIsTold_16 ?_
  rw [t4]
  refine q_X5_152 (c_hasSpanN t2 t6 t8 (by omega) (by omega)) dX5_fitsWhatIsTold_19 rfl ?_
  rintro _ _ ⟨rfl, rfl⟩
  refine z_if_ne 27 dX5_fitsWhatIsTold_22 (fun h_22 => ?_) (fun h_22 => ?_)
  · refine y_iconst (a := 0) dX5_fitsWhatIsTold_27 rfl ?_
    refine x_istore_n dX5_fitsWhatIsTold_28 ?_
    exact key _ 0 _ ⟨Nat.zero_add _, hR, Fr.rf, rfl⟩
  · exact absurd h_22 (by simp; omega)
set_option maxRecDepth 100000 in
set_option maxHeartbeats 4000000 in
theorem c_kindsFit {Ω : Om} {l : Launch} {M : Mem} {b : Nat} {v : Nat → Nat} (hb : Lk b) (hb5 : b ≠ 65) (hR : LkR M b v) (hI : Iv v) {r i n g go z : Nat} (hT : Td M r i n go z) (hg : g < v 2) (hgo : go < v 2) (hh : v 3 ≤ 4000) : Ct Ω l yX5_kindsThatFit cX5_kindsThatFit 5 7 (some .int) [.ref (Ω.2.2 14), .ref (Ω.2.2 b), .int (nI g)] M (fun ro M' => ro = some (.int (nI (fitK 15 1 5 v g go (fun h => M.1 (r + 1) (i + h)) n))) ∧ Fr 65 M M') := by
  have hw := hI.1
  have hn := hw.nums
  have hL65 : Lk 65 := Lk65
  have hL73 : Lk 73 := Lk73
  refine ct_of (by decide) (Nat.le_of_ble_eq_true rfl) ?_
  intro p e R s m args below meth c
  have key : ∀ (k : Nat) (y : Nat) (M1 : Mem), y + k = 6 ∧ 1 ≤ y ∧ Fr 65 M M1 → X (mkG p l e R s m args below meth c Ω (fun ro M' => ro = some (.int (nI (fitK 15 1 5 v g go (fun h => M.1 (r + 1) (i + h)) n))) ∧ Fr 65 M M')) Ω RX5 cX5_kindsThatFit 5 7 (some .int) 5 [some (.ref (Ω.2.2 14)), some (.ref (Ω.2.2 b)), some (.int (nI g)), some (.int (nI (orN (fun y => if 1 ≤ y ∧ fitN (sv v (15 + g) y) go (fun h => M.1 (r + 1) (i + h)) n = true then 2 ^ y else 0) y))), some (.int (nI y))] [] M1 := by
    intro k
    induction k with
    | zero =>
      intro y M1 hk
      obtain ⟨hk, hy1, hF1⟩ := hk
      have hRb := hR.keep hF1 hb Lk65 hb5
      refine x_iload dX5_kindsThatFit_5 rfl ?_
      refine y_iconst (a := 5) dX5_kindsThatFit_7 rfl ?_
      refine y_icmp_gt 50 dX5_kindsThatFit_8 (by omega) (by omega) (fun h_8 => ?_) (fun h_8 => ?_)
      · refine x_iload_n dX5_kindsThatFit_50 rfl ?_
        refine x_iret dX5_kindsThatFit_51 ?_
        obtain rfl : y = 6 := by omega
        exact ⟨rfl, hF1⟩
      · exfalso; omega
    | succ k ih =>
      intro y M1 hk
      obtain ⟨hk, hy1, hF1⟩ := hk
      have hRb := hR.keep hF1 hb Lk65 hb5
      refine x_iload dX5_kindsThatFit_5 rfl ?_
      refine y_iconst (a := 5) dX5_kindsThatFit_7 rfl ?_
      refine y_icmp_gt 50 dX5_kindsThatFit_8 (by omega) (by omega) (fun h_8 => ?_) (fun h_8 => ?_)
      · refine x_iload_n dX5_kindsThatFit_50 rfl ?_
        refine x_iret dX5_kindsThatFit_51 ?_
        obtain rfl : y = 6 := by omega
        exact ⟨rfl, hF1⟩
      · refine x_aload_n dX5_kindsThatFit_11 rfl ?_
        refine g_X5_30 dX5_kindsThatFit_12 ?_
        refine x_aload_n dX5_kindsThatFit_15 rfl ?_
        refine q_X5_37 (c_become Lk65 hb hb5 hRb hw) dX5_kindsThatFit_16 rfl ?_
        rintro _ M0 ⟨rfl, hR0, hF0⟩
        refine x_aload_n dX5_kindsThatFit_19 rfl ?_
        refine g_X5_30 dX5_kindsThatFit_20 ?_
        refine g_X5_160 dX5_kindsThatFit_23 ?_
        refine x_iload_n dX5_kindsThatFit_26 rfl ?_
        refine x_iload dX5_kindsThatFit_27 rfl ?_
        refine x_ias dX5_kindsThatFit_29 (ArL (by assumption) (Or.inr ⟨by decide, by decide, rfl⟩)) (by omega) ?_
        refine x_aload_n dX5_kindsThatFit_30 rfl ?_
        have hFa : Fr 65 M (up1 M0 (65 + 3) g (nI y)) := (hF1.tr hF0).up (by omega)
        obtain ⟨hT1, t9⟩ := hT.keep hFa
        refine q_X5_163 (c_fits (hR0.setKind hw hg) (hw.setG hg (Or.inl ⟨rfl, by omega, by omega⟩)) hT1 (by rw [sv_ne _ _ (by omega)]; exact hgo) (by rw [sv_ne _ _ (by omega)]; exact hh)) dX5_kindsThatFit_31 rfl ?_
        rintro _ M3 ⟨rfl, hF3⟩
        refine z_if_eq 44 dX5_kindsThatFit_34 (fun h_34 => ?_) (fun h_34 => ?_)
        · refine y_iinc dX5_kindsThatFit_44 rfl ?_
          refine x_goto 5 dX5_kindsThatFit_47 ?_
          have hh2 := ih (y + 1) _ ⟨by omega, by omega, (hF1.tr hF0).tr ((Fr.rf.up (by omega)).tr hF3)⟩
          rw [orN_succ] at hh2
          first
            | (rw [if_pos ⟨by omega, by rw [← t9]; exact h_34⟩] at hh2
               exact hh2)
            | (rw [if_neg (by rw [← t9]; rintro ⟨-, z9⟩; rw [h_34] at z9; cases z9), Nat.or_zero] at hh2
               exact hh2)
        · refine x_iload_n dX5_kindsThatFit_37 rfl ?_
          refine y_iconst (a := 1) dX5_kindsThatFit_38 rfl ?_
          refine x_iload dX5_kindsThatFit_39 rfl ?_
          refine y_ishl dX5_kindsThatFit_41 (by omega) ?_
          try rw [Nat.one_mul]
          refine y_ior dX5_kindsThatFit_42 ?_
          refine x_istore_n dX5_kindsThatFit_43 ?_
          refine y_iinc dX5_kindsThatFit_44 rfl ?_
          refine x_goto 5 dX5_kindsThatFit_47 ?_
          have hh2 := ih (y + 1) _ ⟨by omega, by omega, (hF1.tr hF0).tr ((Fr.rf.up (by omega)).tr hF3)⟩
          rw [orN_succ] at hh2
          first
            | (rw [if_pos ⟨by omega, by rw [← t9]; exact h_34⟩] at hh2
               exact hh2)
            | (rw [if_neg (by rw [← t9]; rintro ⟨-, z9⟩; rw [h_34] at z9; cases z9), Nat.or_zero] at hh2
               exact hh2)
  refine y_iconst (a := 0) dX5_kindsThatFit_0 rfl ?_
  refine x_istore_n dX5_kindsThatFit_1 ?_
  refine y_iconst (a := 1) dX5_kindsThatFit_2 rfl ?_
  refine x_istore dX5_kindsThatFit_3 ?_
  have e1 : orN (fun y => if 1 ≤ y ∧ fitN (sv v (15 + g) y) go (fun h => M.1 (r + 1) (i + h)) n = true then 2 ^ y else 0) 1 = 0 := by simp [orN]
  have hk0 := key 5 1 _ ⟨rfl, Nat.le_refl _, Fr.rf⟩
  rw [e1] at hk0
  exact hk0
set_option maxRecDepth 100000 in
set_option maxHeartbeats 4000000 in
theorem c_weightsFit {Ω : Om} {l : Launch} {M : Mem} {b : Nat} {v : Nat → Nat} (hb : Lk b) (hb5 : b ≠ 65) (hR : LkR M b v) (hI : Iv v) {r i n g go z : Nat} (hT : Td M r i n go z) (hg : g < v 2) (hgo : go < v 2) (hh : v 3 ≤ 4000) : Ct Ω l yX5_weightsThatFit cX5_weightsThatFit 5 7 (some .int) [.ref (Ω.2.2 14), .ref (Ω.2.2 b), .int (nI g)] M (fun ro M' => ro = some (.int (nI (fitK 21 1 30 v g go (fun h => M.1 (r + 1) (i + h)) n))) ∧ Fr 65 M M') := by
  have hw := hI.1
  have hn := hw.nums
  have hL65 : Lk 65 := Lk65
  have hL73 : Lk 73 := Lk73
  refine ct_of (by decide) (Nat.le_of_ble_eq_true rfl) ?_
  intro p e R s m args below meth c
  have key : ∀ (k : Nat) (y : Nat) (M1 : Mem), y + k = 31 ∧ 1 ≤ y ∧ Fr 65 M M1 → X (mkG p l e R s m args below meth c Ω (fun ro M' => ro = some (.int (nI (fitK 21 1 30 v g go (fun h => M.1 (r + 1) (i + h)) n))) ∧ Fr 65 M M')) Ω RX5 cX5_weightsThatFit 5 7 (some .int) 5 [some (.ref (Ω.2.2 14)), some (.ref (Ω.2.2 b)), some (.int (nI g)), some (.int (nI (orN (fun y => if 1 ≤ y ∧ fitN (sv v (21 + g) y) go (fun h => M.1 (r + 1) (i + h)) n = true then 2 ^ y else 0) y))), some (.int (nI y))] [] M1 := by
    intro k
    induction k with
    | zero =>
      intro y M1 hk
      obtain ⟨hk, hy1, hF1⟩ := hk
      have hRb := hR.keep hF1 hb Lk65 hb5
      refine x_iload dX5_weightsThatFit_5 rfl ?_
      refine x_bipush (v := nI 30) dX5_weightsThatFit_7 rfl ?_
      refine y_icmp_gt 51 dX5_weightsThatFit_9 (by omega) (by omega) (fun h_9 => ?_) (fun h_9 => ?_)
      · refine x_iload_n dX5_weightsThatFit_51 rfl ?_
        refine x_iret dX5_weightsThatFit_52 ?_
        obtain rfl : y = 31 := by omega
        exact ⟨rfl, hF1⟩
      · exfalso; omega
    | succ k ih =>
      intro y M1 hk
      obtain ⟨hk, hy1, hF1⟩ := hk
      have hRb := hR.keep hF1 hb Lk65 hb5
      refine x_iload dX5_weightsThatFit_5 rfl ?_
      refine x_bipush (v := nI 30) dX5_weightsThatFit_7 rfl ?_
      refine y_icmp_gt 51 dX5_weightsThatFit_9 (by omega) (by omega) (fun h_9 => ?_) (fun h_9 => ?_)
      · refine x_iload_n dX5_weightsThatFit_51 rfl ?_
        refine x_iret dX5_weightsThatFit_52 ?_
        obtain rfl : y = 31 := by omega
        exact ⟨rfl, hF1⟩
      · refine x_aload_n dX5_weightsThatFit_12 rfl ?_
        refine g_X5_30 dX5_weightsThatFit_13 ?_
        refine x_aload_n dX5_weightsThatFit_16 rfl ?_
        refine q_X5_37 (c_become Lk65 hb hb5 hRb hw) dX5_weightsThatFit_17 rfl ?_
        rintro _ M0 ⟨rfl, hR0, hF0⟩
        refine x_aload_n dX5_weightsThatFit_20 rfl ?_
        refine g_X5_30 dX5_weightsThatFit_21 ?_
        refine g_X5_166 dX5_weightsThatFit_24 ?_
        refine x_iload_n dX5_weightsThatFit_27 rfl ?_
        refine x_iload dX5_weightsThatFit_28 rfl ?_
        refine x_ias dX5_weightsThatFit_30 (ArL (by assumption) (Or.inr ⟨by decide, by decide, rfl⟩)) (by omega) ?_
        refine x_aload_n dX5_weightsThatFit_31 rfl ?_
        have hFa : Fr 65 M (up1 M0 (65 + 4) g (nI y)) := (hF1.tr hF0).up (by omega)
        obtain ⟨hT1, t9⟩ := hT.keep hFa
        refine q_X5_163 (c_fits (hR0.setWeight hw hg) (hw.setG hg (Or.inr (Or.inl ⟨rfl, by omega⟩))) hT1 (by rw [sv_ne _ _ (by omega)]; exact hgo) (by rw [sv_ne _ _ (by omega)]; exact hh)) dX5_weightsThatFit_32 rfl ?_
        rintro _ M3 ⟨rfl, hF3⟩
        refine z_if_eq 45 dX5_weightsThatFit_35 (fun h_35 => ?_) (fun h_35 => ?_)
        · refine y_iinc dX5_weightsThatFit_45 rfl ?_
          refine x_goto 5 dX5_weightsThatFit_48 ?_
          have hh2 := ih (y + 1) _ ⟨by omega, by omega, (hF1.tr hF0).tr ((Fr.rf.up (by omega)).tr hF3)⟩
          rw [orN_succ] at hh2
          first
            | (rw [if_pos ⟨by omega, by rw [← t9]; exact h_35⟩] at hh2
               exact hh2)
            | (rw [if_neg (by rw [← t9]; rintro ⟨-, z9⟩; rw [h_35] at z9; cases z9), Nat.or_zero] at hh2
               exact hh2)
        · refine x_iload_n dX5_weightsThatFit_38 rfl ?_
          refine y_iconst (a := 1) dX5_weightsThatFit_39 rfl ?_
          refine x_iload dX5_weightsThatFit_40 rfl ?_
          refine y_ishl dX5_weightsThatFit_42 (by omega) ?_
          try rw [Nat.one_mul]
          refine y_ior dX5_weightsThatFit_43 ?_
          refine x_istore_n dX5_weightsThatFit_44 ?_
          refine y_iinc dX5_weightsThatFit_45 rfl ?_
          refine x_goto 5 dX5_weightsThatFit_48 ?_
          have hh2 := ih (y + 1) _ ⟨by omega, by omega, (hF1.tr hF0).tr ((Fr.rf.up (by omega)).tr hF3)⟩
          rw [orN_succ] at hh2
          first
            | (rw [if_pos ⟨by omega, by rw [← t9]; exact h_35⟩] at hh2
               exact hh2)
            | (rw [if_neg (by rw [← t9]; rintro ⟨-, z9⟩; rw [h_35] at z9; cases z9), Nat.or_zero] at hh2
               exact hh2)
  refine y_iconst (a := 0) dX5_weightsThatFit_0 rfl ?_
  refine x_istore_n dX5_weightsThatFit_1 ?_
  refine y_iconst (a := 1) dX5_weightsThatFit_2 rfl ?_
  refine x_istore dX5_weightsThatFit_3 ?_
  have e1 : orN (fun y => if 1 ≤ y ∧ fitN (sv v (21 + g) y) go (fun h => M.1 (r + 1) (i + h)) n = true then 2 ^ y else 0) 1 = 0 := by simp [orN]
  have hk0 := key 30 1 _ ⟨rfl, Nat.le_refl _, Fr.rf⟩
  rw [e1] at hk0
  exact hk0
set_option maxRecDepth 100000 in
set_option maxHeartbeats 4000000 in
theorem c_startsFit {Ω : Om} {l : Launch} {M : Mem} {b : Nat} {v : Nat → Nat} (hb : Lk b) (hb5 : b ≠ 65) (hR : LkR M b v) (hI : Iv v) {r i n g go z : Nat} (hT : Td M r i n go z) (hg : g < v 2) (hgo : go < v 2) (hh : v 3 ≤ 4000) : Ct Ω l yX5_startsThatFit cX5_startsThatFit 5 7 (some .int) [.ref (Ω.2.2 14), .ref (Ω.2.2 b), .int (nI g)] M (fun ro M' => ro = some (.int (nI (fitK 27 0 30 v g go (fun h => M.1 (r + 1) (i + h)) n))) ∧ Fr 65 M M') := by
  have hw := hI.1
  have hn := hw.nums
  have hL65 : Lk 65 := Lk65
  have hL73 : Lk 73 := Lk73
  refine ct_of (by decide) (Nat.le_of_ble_eq_true rfl) ?_
  intro p e R s m args below meth c
  have key : ∀ (k : Nat) (y : Nat) (M1 : Mem), y + k = 31 ∧ Fr 65 M M1 → X (mkG p l e R s m args below meth c Ω (fun ro M' => ro = some (.int (nI (fitK 27 0 30 v g go (fun h => M.1 (r + 1) (i + h)) n))) ∧ Fr 65 M M')) Ω RX5 cX5_startsThatFit 5 7 (some .int) 5 [some (.ref (Ω.2.2 14)), some (.ref (Ω.2.2 b)), some (.int (nI g)), some (.int (nI (orN (fun y => if 0 ≤ y ∧ fitN (sv v (27 + g) y) go (fun h => M.1 (r + 1) (i + h)) n = true then 2 ^ y else 0) y))), some (.int (nI y))] [] M1 := by
    intro k
    induction k with
    | zero =>
      intro y M1 hk
      obtain ⟨hk, hF1⟩ := hk
      have hy1 : 0 ≤ y := Nat.zero_le _
      have hRb := hR.keep hF1 hb Lk65 hb5
      refine x_iload dX5_startsThatFit_5 rfl ?_
      refine x_bipush (v := nI 30) dX5_startsThatFit_7 rfl ?_
      refine y_icmp_gt 51 dX5_startsThatFit_9 (by omega) (by omega) (fun h_9 => ?_) (fun h_9 => ?_)
      · refine x_iload_n dX5_startsThatFit_51 rfl ?_
        refine x_iret dX5_startsThatFit_52 ?_
        obtain rfl : y = 31 := by omega
        exact ⟨rfl, hF1⟩
      · exfalso; omega
    | succ k ih =>
      intro y M1 hk
      obtain ⟨hk, hF1⟩ := hk
      have hy1 : 0 ≤ y := Nat.zero_le _
      have hRb := hR.keep hF1 hb Lk65 hb5
      refine x_iload dX5_startsThatFit_5 rfl ?_
      refine x_bipush (v := nI 30) dX5_startsThatFit_7 rfl ?_
      refine y_icmp_gt 51 dX5_startsThatFit_9 (by omega) (by omega) (fun h_9 => ?_) (fun h_9 => ?_)
      · refine x_iload_n dX5_startsThatFit_51 rfl ?_
        refine x_iret dX5_startsThatFit_52 ?_
        obtain rfl : y = 31 := by omega
        exact ⟨rfl, hF1⟩
      · refine x_aload_n dX5_startsThatFit_12 rfl ?_
        refine g_X5_30 dX5_startsThatFit_13 ?_
        refine x_aload_n dX5_startsThatFit_16 rfl ?_
        refine q_X5_37 (c_become Lk65 hb hb5 hRb hw) dX5_startsThatFit_17 rfl ?_
        rintro _ M0 ⟨rfl, hR0, hF0⟩
        refine x_aload_n dX5_startsThatFit_20 rfl ?_
        refine g_X5_30 dX5_startsThatFit_21 ?_
        refine g_X5_128 dX5_startsThatFit_24 ?_
        refine x_iload_n dX5_startsThatFit_27 rfl ?_
        refine x_iload dX5_startsThatFit_28 rfl ?_
        refine x_ias dX5_startsThatFit_30 (ArL (by assumption) (Or.inr ⟨by decide, by decide, rfl⟩)) (by omega) ?_
        refine x_aload_n dX5_startsThatFit_31 rfl ?_
        have hFa : Fr 65 M (up1 M0 (65 + 5) g (nI y)) := (hF1.tr hF0).up (by omega)
        obtain ⟨hT1, t9⟩ := hT.keep hFa
        refine q_X5_163 (c_fits (hR0.setStart hw hg) (hw.setG hg (Or.inr (Or.inr ⟨rfl, by omega⟩))) hT1 (by rw [sv_ne _ _ (by omega)]; exact hgo) (by rw [sv_ne _ _ (by omega)]; exact hh)) dX5_startsThatFit_32 rfl ?_
        rintro _ M3 ⟨rfl, hF3⟩
        refine z_if_eq 45 dX5_startsThatFit_35 (fun h_35 => ?_) (fun h_35 => ?_)
        · refine y_iinc dX5_startsThatFit_45 rfl ?_
          refine x_goto 5 dX5_startsThatFit_48 ?_
          have hh2 := ih (y + 1) _ ⟨by omega, (hF1.tr hF0).tr ((Fr.rf.up (by omega)).tr hF3)⟩
          rw [orN_succ] at hh2
          first
            | (rw [if_pos ⟨by omega, by rw [← t9]; exact h_35⟩] at hh2
               exact hh2)
            | (rw [if_neg (by rw [← t9]; rintro ⟨-, z9⟩; rw [h_35] at z9; cases z9), Nat.or_zero] at hh2
               exact hh2)
        · refine x_iload_n dX5_startsThatFit_38 rfl ?_
          refine y_iconst (a := 1) dX5_startsThatFit_39 rfl ?_
          refine x_iload dX5_startsThatFit_40 rfl ?_
          refine y_ishl dX5_startsThatFit_42 (by omega) ?_
          try rw [Nat.one_mul]
          refine y_ior dX5_startsThatFit_43 ?_
          refine x_istore_n dX5_startsThatFit_44 ?_
          refine y_iinc dX5_startsThatFit_45 rfl ?_
          refine x_goto 5 dX5_startsThatFit_48 ?_
          have hh2 := ih (y + 1) _ ⟨by omega, (hF1.tr hF0).tr ((Fr.rf.up (by omega)).tr hF3)⟩
          rw [orN_succ] at hh2
          first
            | (rw [if_pos ⟨by omega, by rw [← t9]; exact h_35⟩] at hh2
               exact hh2)
            | (rw [if_neg (by rw [← t9]; rintro ⟨-, z9⟩; rw [h_35] at z9; cases z9), Nat.or_zero] at hh2
               exact hh2)
  refine y_iconst (a := 0) dX5_startsThatFit_0 rfl ?_
  refine x_istore_n dX5_startsThatFit_1 ?_
  refine y_iconst (a := 0) dX5_startsThatFit_2 rfl ?_
  refine x_istore dX5_startsThatFit_3 ?_
  exact key 31 0 _ ⟨rfl, Fr.rf⟩
