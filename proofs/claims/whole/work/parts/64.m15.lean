/-! THE REFERENCE: the reading, further (laid by gen_m15.py) -/
set_option maxRecDepth 100000 in
set_option maxHeartbeats 4000000 in
theorem m_faults {Ω : Om} {l : Launch} {M : Mem} {x : Int32} : Ct Ω l yX12_faults cX12_faults 2 1 (some .boolean) [.ref (Ω.2.2 34), .int x] M (fun ro M' => ro = some (.int (bI false)) ∧ up1 M 34 14 x = M') := by
  refine ct_of (by decide) (Nat.le_of_ble_eq_true rfl) ?_
  intro p e R s m args below meth c
  refine x_aload_n dX12_faults_0 rfl ?_
  refine x_iload_n dX12_faults_1 rfl ?_
  refine p_X12_108 dX12_faults_2 ?_
  refine y_iconst (a := 0) dX12_faults_5 rfl ?_
  first | refine z_iret dX12_faults_6 ?_ | refine z_iret0 dX12_faults_6 ?_ | refine z_iret1 dX12_faults_6 ?_
  exact ⟨rfl, rfl⟩
set_option maxRecDepth 100000 in
set_option maxHeartbeats 4000000 in
theorem m_isLetter {Ω : Om} {l : Launch} {M : Mem} {T : Tp} {a : Nat} (hk : TkM M T a) (hTW : TW T) {c : Nat} (hc : (97 ≤ c ∧ c ≤ 122) ∨ c = 44 ∨ c = 59) : Ct Ω l yX12_isLetter cX12_isLetter 2 1 (some .boolean) [.ref (Ω.2.2 34), .int (nI c)] M (fun ro M' => ro = some (.int (bI (decide (tcd T a = c)))) ∧ M = M') := by
  have h1 := hk.2.2.2.1
  have ht := tkv_le (tcd T a)
  have hl := tcd_lt hTW a
  refine ct_of (by decide) (Nat.le_of_ble_eq_true rfl) ?_
  intro p e R s m args below meth c
  refine x_aload_n dX12_isLetter_0 rfl ?_
  refine g_X12_94 dX12_isLetter_1 ?_
  first
    | rw [hk.2.2.2.1]
    | rw [up1_at, if_pos ⟨rfl, rfl⟩]
    | rw [up1_at, if_neg (by decide), hk.2.2.2.1]
    | rw [up1_at, if_neg (by decide), up1_at, if_pos ⟨rfl, rfl⟩]
    | rw [up1_at, if_neg (by decide), up1_at, if_neg (by decide), hk.2.2.2.1]
    | rw [up1_at, if_neg (by decide), up1_at, if_neg (by decide), up1_at, if_pos ⟨rfl, rfl⟩]
    | rw [up1_at, if_neg (by decide), up1_at, if_neg (by decide), up1_at, if_neg (by decide), hk.2.2.2.1]
  refine y_iconst (a := 1) dX12_isLetter_4 rfl ?_
  refine y_icmp_ne 20 dX12_isLetter_5 (by omega) (by omega) (fun h_5 => ?_) (fun h_5 => ?_)
  · refine y_iconst (a := 0) dX12_isLetter_20 rfl ?_
    first | refine z_iret dX12_isLetter_21 ?_ | refine z_iret0 dX12_isLetter_21 ?_ | refine z_iret1 dX12_isLetter_21 ?_
    refine ⟨congrArg (fun z => some (Value.int (bI z))) ?_, rfl⟩
    symm
    first
      | (rw [decide_eq_true_eq]; omega)
      | (rw [decide_eq_false_iff_not]; intro z; exact h_13 z)
      | (rw [decide_eq_false_iff_not]; intro z; rw [z, tkv_l hc] at h_5; exact h_5 rfl)
  · have hlt := tkv_1 h_5
    refine x_aload_n dX12_isLetter_8 rfl ?_
    refine g_X12_97 dX12_isLetter_9 ?_
    rw [hk.2.2.2.2.1 hlt]
    refine x_iload_n dX12_isLetter_12 rfl ?_
    refine y_icmp_ne 20 dX12_isLetter_13 (by omega) (by omega) (fun h_13 => ?_) (fun h_13 => ?_)
    · refine y_iconst (a := 0) dX12_isLetter_20 rfl ?_
      first | refine z_iret dX12_isLetter_21 ?_ | refine z_iret0 dX12_isLetter_21 ?_ | refine z_iret1 dX12_isLetter_21 ?_
      refine ⟨congrArg (fun z => some (Value.int (bI z))) ?_, rfl⟩
      symm
      first
        | (rw [decide_eq_true_eq]; omega)
        | (rw [decide_eq_false_iff_not]; intro z; exact h_13 z)
        | (rw [decide_eq_false_iff_not]; intro z; rw [z, tkv_l hc] at h_5; exact h_5 rfl)
    · refine y_iconst (a := 1) dX12_isLetter_16 rfl ?_
      refine x_goto 21 dX12_isLetter_17 ?_
      first | refine z_iret dX12_isLetter_21 ?_ | refine z_iret0 dX12_isLetter_21 ?_ | refine z_iret1 dX12_isLetter_21 ?_
      refine ⟨congrArg (fun z => some (Value.int (bI z))) ?_, rfl⟩
      symm
      first
        | (rw [decide_eq_true_eq]; omega)
        | (rw [decide_eq_false_iff_not]; intro z; exact h_13 z)
        | (rw [decide_eq_false_iff_not]; intro z; rw [z, tkv_l hc] at h_5; exact h_5 rfl)
set_option maxRecDepth 100000 in
set_option maxHeartbeats 4000000 in
theorem m_takes_no {Ω : Om} {l : Launch} {M : Mem} {T : Tp} {a : Nat} (hk : TkM M T a) (hTW : TW T) {cq : Nat} (hc : (97 ≤ cq ∧ cq ≤ 122) ∨ cq = 44 ∨ cq = 59) (h : ¬ tcd T a = cq) : Ct Ω l yX12_takes cX12_takes 2 3 (some .boolean) [.ref (Ω.2.2 34), .int (nI cq)] M (fun ro M' => ro = some (.int (bI false)) ∧ ErM M' (1, a) ∧ FTn M M') := by
  refine ct_of (by decide) (Nat.le_of_ble_eq_true rfl) ?_
  intro p e R s m args below meth c
  refine x_aload_n dX12_takes_0 rfl ?_
  refine x_iload_n dX12_takes_1 rfl ?_
  refine q_X12_111 (m_isLetter hk hTW hc) dX12_takes_2 rfl ?_
  rintro _ _ ⟨rfl, rfl⟩
  rw [show decide (tcd T a = cq) = false by simp [h]]
  refine z_if_ne 14 dX12_takes_5 (fun h => absurd h (by decide)) (fun _ => ?_)
  refine x_aload_n dX12_takes_8 rfl ?_
  refine y_iconst (a := 1) dX12_takes_9 rfl ?_
  refine q_X12_114 (m_faults) dX12_takes_10 rfl ?_
  rintro _ _ ⟨rfl, rfl⟩
  first | refine z_iret dX12_takes_13 ?_ | refine z_iret0 dX12_takes_13 ?_ | refine z_iret1 dX12_takes_13 ?_
  exact ⟨rfl, ⟨by rw [up1_at, if_pos ⟨rfl, rfl⟩], by rw [up1_at, if_neg (by decide)]; exact hk.2.1⟩, FTn.rf.up (by decide)⟩
set_option maxRecDepth 100000 in
set_option maxHeartbeats 4000000 in
theorem m_takes_ok {Ω : Om} {l : Launch} {M : Mem} {T : Tp} {a : Nat} (hk : TkM M T a) (hTW : TW T) {cq : Nat} (hc : (97 ≤ cq ∧ cq ≤ 122) ∨ cq = 44 ∨ cq = 59) (h : tcd T a = cq) : Ct Ω l yX12_takes cX12_takes 2 3 (some .boolean) [.ref (Ω.2.2 34), .int (nI cq)] M (fun ro M' => ro = some (.int (bI true)) ∧ TkM M' T (nx T a) ∧ FTn M M') := by
  refine ct_of (by decide) (Nat.le_of_ble_eq_true rfl) ?_
  intro p e R s m args below meth c
  refine x_aload_n dX12_takes_0 rfl ?_
  refine x_iload_n dX12_takes_1 rfl ?_
  refine q_X12_111 (m_isLetter hk hTW hc) dX12_takes_2 rfl ?_
  rintro _ _ ⟨rfl, rfl⟩
  rw [show decide (tcd T a = cq) = true by simp [h]]
  refine z_if_ne 14 dX12_takes_5 (fun _ => ?_) (fun h => absurd h (by decide))
  refine x_aload_n dX12_takes_14 rfl ?_
  refine q_X12_117 (m_nextToken hk.1 hTW (hk.2.2.2.2.2.2 (by omega)) (tln_le T hk.2.2.1)) dX12_takes_15 rfl ?_
  rintro _ M1 ⟨rfl, hk1, hF1⟩
  refine x_iconst (v := bI true) dX12_takes_18 rfl ?_
  first | refine z_iret dX12_takes_19 ?_ | refine z_iret0 dX12_takes_19 ?_ | refine z_iret1 dX12_takes_19 ?_
  exact ⟨rfl, hk1, hF1⟩
set_option maxRecDepth 100000 in
set_option maxHeartbeats 4000000 in
theorem m_num_no {Ω : Om} {l : Launch} {M : Mem} {T : Tp} {a : Nat} (hk : TkM M T a) (hTW : TW T) {lo hi at_ sg : Nat} (hlo : lo ≤ 99) (hhi : hi ≤ 99) (hat : at_ < 45) (hsg : (97 ≤ sg ∧ sg ≤ 122) ∨ sg = 44 ∨ sg = 59) {er : Nat × Nat} (h : pNum T lo hi sg a = .inl er) : Ct Ω l yX12_takesNumber cX12_takesNumber 5 4 (some .boolean) [.ref (Ω.2.2 34), .int (nI lo), .int (nI hi), .int (nI at_), .int (nI sg)] M (fun ro M' => ro = some (.int (bI false)) ∧ ErM M' er ∧ FTp M M') := by
  have ht := tkv_le (tcd T a)
  refine ct_of (by decide) (Nat.le_of_ble_eq_true rfl) ?_
  intro p e R s m args below meth c
  refine x_aload_n dX12_takesNumber_0 rfl ?_
  refine g_X12_94 dX12_takesNumber_1 ?_
  first
    | rw [hk.2.2.2.1]
    | rw [up1_at, if_pos ⟨rfl, rfl⟩]
    | rw [up1_at, if_neg (by decide), hk.2.2.2.1]
    | rw [up1_at, if_neg (by decide), up1_at, if_pos ⟨rfl, rfl⟩]
    | rw [up1_at, if_neg (by decide), up1_at, if_neg (by decide), hk.2.2.2.1]
    | rw [up1_at, if_neg (by decide), up1_at, if_neg (by decide), up1_at, if_pos ⟨rfl, rfl⟩]
    | rw [up1_at, if_neg (by decide), up1_at, if_neg (by decide), up1_at, if_neg (by decide), hk.2.2.2.1]
  refine y_iconst (a := 2) dX12_takesNumber_4 rfl ?_
  refine y_icmp_ne 23 dX12_takesNumber_5 (by omega) (by omega) (fun h_5 => ?_) (fun h_5 => ?_)
  · refine x_aload_n dX12_takesNumber_23 rfl ?_
    refine x_aload_n dX12_takesNumber_24 rfl ?_
    refine g_X12_94 dX12_takesNumber_25 ?_
    first
      | rw [hk.2.2.2.1]
      | rw [up1_at, if_pos ⟨rfl, rfl⟩]
      | rw [up1_at, if_neg (by decide), hk.2.2.2.1]
      | rw [up1_at, if_neg (by decide), up1_at, if_pos ⟨rfl, rfl⟩]
      | rw [up1_at, if_neg (by decide), up1_at, if_neg (by decide), hk.2.2.2.1]
      | rw [up1_at, if_neg (by decide), up1_at, if_neg (by decide), up1_at, if_pos ⟨rfl, rfl⟩]
      | rw [up1_at, if_neg (by decide), up1_at, if_neg (by decide), up1_at, if_neg (by decide), hk.2.2.2.1]
    refine y_iconst (a := 2) dX12_takesNumber_28 rfl ?_
    refine y_icmp_ne 36 dX12_takesNumber_29 (by omega) (by omega) (fun h_29 => ?_) (fun h_29 => ?_)
    · refine y_iconst (a := 1) dX12_takesNumber_36 rfl ?_
      refine q_X12_114 (m_faults) dX12_takesNumber_37 rfl ?_
      rintro _ _ ⟨rfl, rfl⟩
      first | refine z_iret dX12_takesNumber_40 ?_ | refine z_iret0 dX12_takesNumber_40 ?_ | refine z_iret1 dX12_takesNumber_40 ?_
      first
        | exact absurd h_5 h_29
        | exact absurd h_29 h_5
        | (rw [hx.2]
           exact ⟨rfl, he2, (FTp.rf.u41.n hF1).n hF2⟩)
        | (have hr : ¬ (lo ≤ tvl T a ∧ tvl T a ≤ hi) := by
             rw [inB_n (by omega)] at h_20
             simpa only [decide_eq_false_iff_not] using h_20
           unfold pNum at h
           rw [if_pos (tkv_2.mp h_5), if_neg hr] at h
           cases h
           exact ⟨rfl, ⟨by rw [up1_at, if_pos ⟨rfl, rfl⟩], by rw [up1_at, if_neg (by decide)]; exact hk.2.1⟩, FTp.rf.u34 (by decide)⟩)
        | (unfold pNum at h
           rw [if_neg (fun z => h_5 (tkv_2.mpr z))] at h
           cases h
           exact ⟨rfl, ⟨by rw [up1_at, if_pos ⟨rfl, rfl⟩], by rw [up1_at, if_neg (by decide)]; exact hk.2.1⟩, FTp.rf.u34 (by decide)⟩)
    · refine y_iconst (a := 2) dX12_takesNumber_32 rfl ?_
      refine x_goto 37 dX12_takesNumber_33 ?_
      refine q_X12_114 (m_faults) dX12_takesNumber_37 rfl ?_
      rintro _ _ ⟨rfl, rfl⟩
      first | refine z_iret dX12_takesNumber_40 ?_ | refine z_iret0 dX12_takesNumber_40 ?_ | refine z_iret1 dX12_takesNumber_40 ?_
      first
        | exact absurd h_5 h_29
        | exact absurd h_29 h_5
        | (rw [hx.2]
           exact ⟨rfl, he2, (FTp.rf.u41.n hF1).n hF2⟩)
        | (have hr : ¬ (lo ≤ tvl T a ∧ tvl T a ≤ hi) := by
             rw [inB_n (by omega)] at h_20
             simpa only [decide_eq_false_iff_not] using h_20
           unfold pNum at h
           rw [if_pos (tkv_2.mp h_5), if_neg hr] at h
           cases h
           exact ⟨rfl, ⟨by rw [up1_at, if_pos ⟨rfl, rfl⟩], by rw [up1_at, if_neg (by decide)]; exact hk.2.1⟩, FTp.rf.u34 (by decide)⟩)
        | (unfold pNum at h
           rw [if_neg (fun z => h_5 (tkv_2.mpr z))] at h
           cases h
           exact ⟨rfl, ⟨by rw [up1_at, if_pos ⟨rfl, rfl⟩], by rw [up1_at, if_neg (by decide)]; exact hk.2.1⟩, FTp.rf.u34 (by decide)⟩)
  · refine x_aload_n dX12_takesNumber_8 rfl ?_
    refine g_X12_97 dX12_takesNumber_9 ?_
    rw [hk.2.2.2.2.2.1 (tkv_2.mp h_5)]
    have hv99 := tvl_le (tkv_2.mp h_5) hTW
    refine x_i2l dX12_takesNumber_12 ?_
    refine x_iload_n dX12_takesNumber_13 rfl ?_
    refine y_i2l dX12_takesNumber_14 (by omega) ?_
    refine x_iload_n dX12_takesNumber_15 rfl ?_
    refine y_i2l dX12_takesNumber_16 (by omega) ?_
    refine q_X12_60 (m_inB (by omega) (by omega)) dX12_takesNumber_17 rfl ?_
    rintro _ _ ⟨rfl, rfl⟩
    refine z_if_ne 41 dX12_takesNumber_20 (fun h_20 => ?_) (fun h_20 => ?_)
    · have hr : lo ≤ tvl T a ∧ tvl T a ≤ hi := by
        rw [inB_n (by omega)] at h_20
        simpa only [decide_eq_true_eq] using h_20
      have hx : ¬ tcd T (nx T a) = sg ∧ er = (1, nx T a) := by
        unfold pNum at h
        rw [if_pos (tkv_2.mp h_5), if_pos hr] at h
        unfold pPass at h
        by_cases q : tcd T (nx T a) = sg
        · rw [if_pos q] at h; cases h
        · rw [if_neg q] at h; cases h; exact ⟨q, rfl⟩
      refine x_aload_n dX12_takesNumber_41 rfl ?_
      refine g_X12_28 dX12_takesNumber_42 ?_
      refine x_iload_n dX12_takesNumber_45 rfl ?_
      refine x_aload_n dX12_takesNumber_46 rfl ?_
      refine g_X12_97 dX12_takesNumber_47 ?_
      rw [hk.2.2.2.2.2.1 (tkv_2.mp h_5)]
      refine x_ias dX12_takesNumber_50 (⟨by decide, rfl, rfl, by decide⟩ : Ar 41 45) (by omega) ?_
      refine x_aload_n dX12_takesNumber_51 rfl ?_
      refine q_X12_117 (m_nextToken hk.u41.1 hTW (hk.u41.2.2.2.2.2.2 (by rw [tkv_2.mp h_5]; decide)) (tln_le T hk.2.2.1)) dX12_takesNumber_52 rfl ?_
      rintro _ M1 ⟨rfl, hk1, hF1⟩
      refine x_aload_n dX12_takesNumber_55 rfl ?_
      refine x_iload dX12_takesNumber_56 rfl ?_
      refine q_X12_120 (m_takes_no hk1 hTW hsg hx.1) dX12_takesNumber_58 rfl ?_
      rintro _ M2 ⟨rfl, he2, hF2⟩
      first | refine z_iret dX12_takesNumber_61 ?_ | refine z_iret0 dX12_takesNumber_61 ?_ | refine z_iret1 dX12_takesNumber_61 ?_
      first
        | exact absurd h_5 h_29
        | exact absurd h_29 h_5
        | (rw [hx.2]
           exact ⟨rfl, he2, (FTp.rf.u41.n hF1).n hF2⟩)
        | (have hr : ¬ (lo ≤ tvl T a ∧ tvl T a ≤ hi) := by
             rw [inB_n (by omega)] at h_20
             simpa only [decide_eq_false_iff_not] using h_20
           unfold pNum at h
           rw [if_pos (tkv_2.mp h_5), if_neg hr] at h
           cases h
           exact ⟨rfl, ⟨by rw [up1_at, if_pos ⟨rfl, rfl⟩], by rw [up1_at, if_neg (by decide)]; exact hk.2.1⟩, FTp.rf.u34 (by decide)⟩)
        | (unfold pNum at h
           rw [if_neg (fun z => h_5 (tkv_2.mpr z))] at h
           cases h
           exact ⟨rfl, ⟨by rw [up1_at, if_pos ⟨rfl, rfl⟩], by rw [up1_at, if_neg (by decide)]; exact hk.2.1⟩, FTp.rf.u34 (by decide)⟩)
    · refine x_aload_n dX12_takesNumber_23 rfl ?_
      refine x_aload_n dX12_takesNumber_24 rfl ?_
      refine g_X12_94 dX12_takesNumber_25 ?_
      first
        | rw [hk.2.2.2.1]
        | rw [up1_at, if_pos ⟨rfl, rfl⟩]
        | rw [up1_at, if_neg (by decide), hk.2.2.2.1]
        | rw [up1_at, if_neg (by decide), up1_at, if_pos ⟨rfl, rfl⟩]
        | rw [up1_at, if_neg (by decide), up1_at, if_neg (by decide), hk.2.2.2.1]
        | rw [up1_at, if_neg (by decide), up1_at, if_neg (by decide), up1_at, if_pos ⟨rfl, rfl⟩]
        | rw [up1_at, if_neg (by decide), up1_at, if_neg (by decide), up1_at, if_neg (by decide), hk.2.2.2.1]
      refine y_iconst (a := 2) dX12_takesNumber_28 rfl ?_
      refine y_icmp_ne 36 dX12_takesNumber_29 (by omega) (by omega) (fun h_29 => ?_) (fun h_29 => ?_)
      · refine y_iconst (a := 1) dX12_takesNumber_36 rfl ?_
        refine q_X12_114 (m_faults) dX12_takesNumber_37 rfl ?_
        rintro _ _ ⟨rfl, rfl⟩
        first | refine z_iret dX12_takesNumber_40 ?_ | refine z_iret0 dX12_takesNumber_40 ?_ | refine z_iret1 dX12_takesNumber_40 ?_
        first
          | exact absurd h_5 h_29
          | exact absurd h_29 h_5
          | (rw [hx.2]
             exact ⟨rfl, he2, (FTp.rf.u41.n hF1).n hF2⟩)
          | (have hr : ¬ (lo ≤ tvl T a ∧ tvl T a ≤ hi) := by
               rw [inB_n (by omega)] at h_20
               simpa only [decide_eq_false_iff_not] using h_20
             unfold pNum at h
             rw [if_pos (tkv_2.mp h_5), if_neg hr] at h
             cases h
             exact ⟨rfl, ⟨by rw [up1_at, if_pos ⟨rfl, rfl⟩], by rw [up1_at, if_neg (by decide)]; exact hk.2.1⟩, FTp.rf.u34 (by decide)⟩)
          | (unfold pNum at h
             rw [if_neg (fun z => h_5 (tkv_2.mpr z))] at h
             cases h
             exact ⟨rfl, ⟨by rw [up1_at, if_pos ⟨rfl, rfl⟩], by rw [up1_at, if_neg (by decide)]; exact hk.2.1⟩, FTp.rf.u34 (by decide)⟩)
      · refine y_iconst (a := 2) dX12_takesNumber_32 rfl ?_
        refine x_goto 37 dX12_takesNumber_33 ?_
        refine q_X12_114 (m_faults) dX12_takesNumber_37 rfl ?_
        rintro _ _ ⟨rfl, rfl⟩
        first | refine z_iret dX12_takesNumber_40 ?_ | refine z_iret0 dX12_takesNumber_40 ?_ | refine z_iret1 dX12_takesNumber_40 ?_
        first
          | exact absurd h_5 h_29
          | exact absurd h_29 h_5
          | (rw [hx.2]
             exact ⟨rfl, he2, (FTp.rf.u41.n hF1).n hF2⟩)
          | (have hr : ¬ (lo ≤ tvl T a ∧ tvl T a ≤ hi) := by
               rw [inB_n (by omega)] at h_20
               simpa only [decide_eq_false_iff_not] using h_20
             unfold pNum at h
             rw [if_pos (tkv_2.mp h_5), if_neg hr] at h
             cases h
             exact ⟨rfl, ⟨by rw [up1_at, if_pos ⟨rfl, rfl⟩], by rw [up1_at, if_neg (by decide)]; exact hk.2.1⟩, FTp.rf.u34 (by decide)⟩)
          | (unfold pNum at h
             rw [if_neg (fun z => h_5 (tkv_2.mpr z))] at h
             cases h
             exact ⟨rfl, ⟨by rw [up1_at, if_pos ⟨rfl, rfl⟩], by rw [up1_at, if_neg (by decide)]; exact hk.2.1⟩, FTp.rf.u34 (by decide)⟩)
set_option maxRecDepth 100000 in
set_option maxHeartbeats 4000000 in
theorem m_num_ok {Ω : Om} {l : Launch} {M : Mem} {T : Tp} {a : Nat} (hk : TkM M T a) (hTW : TW T) {lo hi at_ sg : Nat} (hlo : lo ≤ 99) (hhi : hi ≤ 99) (hat : at_ < 45) (hsg : (97 ≤ sg ∧ sg ≤ 122) ∨ sg = 44 ∨ sg = 59) {x b : Nat} (h : pNum T lo hi sg a = .inr (x, b)) : Ct Ω l yX12_takesNumber cX12_takesNumber 5 4 (some .boolean) [.ref (Ω.2.2 34), .int (nI lo), .int (nI hi), .int (nI at_), .int (nI sg)] M (fun ro M' => ro = some (.int (bI true)) ∧ TkM M' T b ∧ FTn (up1 M 41 at_ (nI x)) M') := by
  have ht := tkv_le (tcd T a)
  have hall : tcd T a = 257 ∧ (lo ≤ tvl T a ∧ tvl T a ≤ hi) ∧ tcd T (nx T a) = sg ∧ x = tvl T a ∧ b = nx T (nx T a) := by
    unfold pNum at h
    by_cases q1 : tcd T a = 257
    · rw [if_pos q1] at h
      by_cases q2 : lo ≤ tvl T a ∧ tvl T a ≤ hi
      · rw [if_pos q2] at h
        unfold pPass at h
        by_cases q3 : tcd T (nx T a) = sg
        · rw [if_pos q3] at h; cases h; exact ⟨q1, q2, q3, rfl, rfl⟩
        · rw [if_neg q3] at h; cases h
      · rw [if_neg q2] at h; cases h
    · rw [if_neg q1] at h; cases h
  obtain ⟨q1, q2, q3, rfl, rfl⟩ := hall
  have h_5' := tkv_2.mpr q1
  have hv99 := tvl_le q1 hTW
  refine ct_of (by decide) (Nat.le_of_ble_eq_true rfl) ?_
  intro p e R s m args below meth c
  refine x_aload_n dX12_takesNumber_0 rfl ?_
  refine g_X12_94 dX12_takesNumber_1 ?_
  first
    | rw [hk.2.2.2.1]
    | rw [up1_at, if_pos ⟨rfl, rfl⟩]
    | rw [up1_at, if_neg (by decide), hk.2.2.2.1]
    | rw [up1_at, if_neg (by decide), up1_at, if_pos ⟨rfl, rfl⟩]
    | rw [up1_at, if_neg (by decide), up1_at, if_neg (by decide), hk.2.2.2.1]
    | rw [up1_at, if_neg (by decide), up1_at, if_neg (by decide), up1_at, if_pos ⟨rfl, rfl⟩]
    | rw [up1_at, if_neg (by decide), up1_at, if_neg (by decide), up1_at, if_neg (by decide), hk.2.2.2.1]
  refine y_iconst (a := 2) dX12_takesNumber_4 rfl ?_
  refine y_icmp_ne 23 dX12_takesNumber_5 (by omega) (by omega) (fun h_5 => ?_) (fun h_5 => ?_)
  · exfalso
    first
      | exact h_5 h_5'
      | (rw [inB_n (by omega)] at h_20
         simp only [decide_eq_false_iff_not] at h_20
         exact h_20 q2)
  · refine x_aload_n dX12_takesNumber_8 rfl ?_
    refine g_X12_97 dX12_takesNumber_9 ?_
    rw [hk.2.2.2.2.2.1 (tkv_2.mp h_5')]
    refine x_i2l dX12_takesNumber_12 ?_
    refine x_iload_n dX12_takesNumber_13 rfl ?_
    refine y_i2l dX12_takesNumber_14 (by omega) ?_
    refine x_iload_n dX12_takesNumber_15 rfl ?_
    refine y_i2l dX12_takesNumber_16 (by omega) ?_
    refine q_X12_60 (m_inB (by omega) (by omega)) dX12_takesNumber_17 rfl ?_
    rintro _ _ ⟨rfl, rfl⟩
    refine z_if_ne 41 dX12_takesNumber_20 (fun h_20 => ?_) (fun h_20 => ?_)
    · refine x_aload_n dX12_takesNumber_41 rfl ?_
      refine g_X12_28 dX12_takesNumber_42 ?_
      refine x_iload_n dX12_takesNumber_45 rfl ?_
      refine x_aload_n dX12_takesNumber_46 rfl ?_
      refine g_X12_97 dX12_takesNumber_47 ?_
      rw [hk.2.2.2.2.2.1 (tkv_2.mp h_5')]
      refine x_ias dX12_takesNumber_50 (⟨by decide, rfl, rfl, by decide⟩ : Ar 41 45) (by omega) ?_
      refine x_aload_n dX12_takesNumber_51 rfl ?_
      refine q_X12_117 (m_nextToken hk.u41.1 hTW (hk.u41.2.2.2.2.2.2 (by rw [q1]; decide)) (tln_le T hk.2.2.1)) dX12_takesNumber_52 rfl ?_
      rintro _ M1 ⟨rfl, hk1, hF1⟩
      refine x_aload_n dX12_takesNumber_55 rfl ?_
      refine x_iload dX12_takesNumber_56 rfl ?_
      refine q_X12_120 (m_takes_ok hk1 hTW hsg q3) dX12_takesNumber_58 rfl ?_
      rintro _ M2 ⟨rfl, hk2, hF2⟩
      first | refine z_iret dX12_takesNumber_61 ?_ | refine z_iret0 dX12_takesNumber_61 ?_ | refine z_iret1 dX12_takesNumber_61 ?_
      exact ⟨rfl, hk2, hF1.tr hF2⟩
    · exfalso
      first
        | exact h_5 h_5'
        | (rw [inB_n (by omega)] at h_20
           simp only [decide_eq_false_iff_not] at h_20
           exact h_20 q2)
set_option maxRecDepth 100000 in
set_option maxHeartbeats 4000000 in
theorem m_kindBy {Ω : Om} {l : Launch} {M : Mem} {c : Nat} (hc : c < 300) : Ct Ω l yX12_kindBy cX12_kindBy 1 1 (some .int) [.int (nI c)] M (fun ro M' => ro = some (.int (nI (kdO c))) ∧ M = M') := by
  refine ct_of (by decide) (Nat.le_of_ble_eq_true rfl) ?_
  intro p e R s m args below meth c
  refine x_iload_n dX12_kindBy_0 rfl ?_
  refine x_bipush (v := nI 99) dX12_kindBy_1 rfl ?_
  refine y_icmp_ne 10 dX12_kindBy_3 (by omega) (by omega) (fun h_3 => ?_) (fun h_3 => ?_)
  · refine x_iload_n dX12_kindBy_10 rfl ?_
    refine x_bipush (v := nI 100) dX12_kindBy_11 rfl ?_
    refine y_icmp_ne 20 dX12_kindBy_13 (by omega) (by omega) (fun h_13 => ?_) (fun h_13 => ?_)
    · refine x_iload_n dX12_kindBy_20 rfl ?_
      refine x_bipush (v := nI 107) dX12_kindBy_21 rfl ?_
      refine y_icmp_ne 30 dX12_kindBy_23 (by omega) (by omega) (fun h_23 => ?_) (fun h_23 => ?_)
      · refine x_iload_n dX12_kindBy_30 rfl ?_
        refine x_bipush (v := nI 102) dX12_kindBy_31 rfl ?_
        refine y_icmp_ne 40 dX12_kindBy_33 (by omega) (by omega) (fun h_33 => ?_) (fun h_33 => ?_)
        · refine x_iload_n dX12_kindBy_40 rfl ?_
          refine x_bipush (v := nI 103) dX12_kindBy_41 rfl ?_
          refine y_icmp_ne 50 dX12_kindBy_43 (by omega) (by omega) (fun h_43 => ?_) (fun h_43 => ?_)
          · refine y_iconst (a := 0) dX12_kindBy_50 rfl ?_
            refine x_iret dX12_kindBy_51 ?_
            refine ⟨congrArg (fun z => some (Value.int (nI z))) ?_, rfl⟩
            simp [kdO, *]
          · refine y_iconst (a := 5) dX12_kindBy_46 rfl ?_
            refine x_goto 51 dX12_kindBy_47 ?_
            refine x_iret dX12_kindBy_51 ?_
            refine ⟨congrArg (fun z => some (Value.int (nI z))) ?_, rfl⟩
            simp [kdO, *]
        · refine y_iconst (a := 4) dX12_kindBy_36 rfl ?_
          refine x_goto 51 dX12_kindBy_37 ?_
          refine x_iret dX12_kindBy_51 ?_
          refine ⟨congrArg (fun z => some (Value.int (nI z))) ?_, rfl⟩
          simp [kdO, *]
      · refine y_iconst (a := 3) dX12_kindBy_26 rfl ?_
        refine x_goto 51 dX12_kindBy_27 ?_
        refine x_iret dX12_kindBy_51 ?_
        refine ⟨congrArg (fun z => some (Value.int (nI z))) ?_, rfl⟩
        simp [kdO, *]
    · refine y_iconst (a := 2) dX12_kindBy_16 rfl ?_
      refine x_goto 51 dX12_kindBy_17 ?_
      refine x_iret dX12_kindBy_51 ?_
      refine ⟨congrArg (fun z => some (Value.int (nI z))) ?_, rfl⟩
      simp [kdO, *]
  · refine y_iconst (a := 1) dX12_kindBy_6 rfl ?_
    refine x_goto 51 dX12_kindBy_7 ?_
    refine x_iret dX12_kindBy_51 ?_
    refine ⟨congrArg (fun z => some (Value.int (nI z))) ?_, rfl⟩
    simp [kdO, *]
