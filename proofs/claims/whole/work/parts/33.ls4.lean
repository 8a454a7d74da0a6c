/-! LADDERSPRINGS: drawn, risk, who, rotten, trace, count, as (laid by gen_ls4.py) -/
theorem dwV_02 {v : Nat → Nat} (h : Iv v) (a : Nat) : ∀ (n : Nat), v 3 + n ≤ 5000 → dwV v a n 0 = v 0 ∧ dwV v a n 2 = v 2
  | 0, _ => ⟨rfl, rfl⟩
  | n + 1, hn => by
    obtain ⟨h1, h2⟩ := dwV_Iv h a n (by omega)
    obtain ⟨i1, i2⟩ := dwV_02 h a n (by omega)
    have hd := drV_Iv h1 (dwX a (n + 1))
    have hm := hd.1.nums
    have hm1 := h1.1.nums
    have e : ∀ j, j = 0 ∨ j = 2 → drV (dwV v a n) (dwX a (n + 1)) j = dwV v a n j := by
      intro j hj
      unfold drV
      repeat' split
      · exact sv_ne _ _ (by omega)
      · exact bkV_ne (by omega) (by omega) (Or.inl (by omega)) (by omega)
      · rfl
    refine ⟨?_, ?_⟩
    · show hrV _ 0 = _
      rw [hrV_ne (by omega) (by omega) (Or.inl (by omega)) (by omega), e 0 (Or.inl rfl), i1]
    · show hrV _ 2 = _
      rw [hrV_ne (by omega) (by omega) (Or.inl (by omega)) (by omega), e 2 (Or.inr rfl), i2]
/-- what the rows' span asks, in naturals -/
theorem spn_nat {z n : Nat} {i : Int32} (hz : z ≤ 40) (hn : n ≤ 40) (h : spn (nI z) i (nI n) = true) : ∃ j, j + n ≤ z ∧ i = nI j := by
  simp only [spn, decide_eq_true_eq] at h
  rw [pk_sub_toInt (by omega) (by omega), nI_toInt (by omega)] at h
  obtain ⟨j, h1, h2⟩ := vp_in_of (x := i) (n := 41) (vp_in_iff.mpr (by omega)) (by omega)
  subst h2
  rw [nI_toInt (by omega)] at h
  exact ⟨j, by omega, rfl⟩
theorem cB (a b : Bool) (h : a = b) : some (Value.int (bI a)) = some (Value.int (bI b)) := by rw [h]

theorem k_X11_312 : Cond.constant RX11 312 999999 ∈ tbw := tb 897 (by decide +kernel) (by decide +kernel)
set_option maxRecDepth 100000 in
set_option maxHeartbeats 4000000 in
theorem c_drawn {Ω : Om} {l : Launch} {M : Mem} {σ : Sg} (hC : IC M σ) (hW : SgW σ) {n x w : Int32} : Ct Ω l yX11_drawn cX11_drawn 5 7 (some .int) [.ref (Ω.2.2 0), .int n, .int x, .int w] M (fun ro M' => ro = some (.int (R_drawn σ.v n x w)) ∧ IC M' σ ∧ FrM M M') := by
  have hL49 : Lk 49 := Lk49
  have hL57 : Lk 57 := Lk57
  have hR := hC.lake
  have hLv : Lv σ.v := hW.2.2.1
  have hw := hLv.wv
  have hn := hw.nums
  have hL65 : Lk 65 := Lk65
  refine ct_of (by decide) (Nat.le_of_ble_eq_true rfl) ?_
  intro p e R s m args below meth c
  refine x_aload_n dX11_drawn_0 rfl ?_
  refine q_X11_161 (c_hasNoLake hR hw) dX11_drawn_1 rfl ?_
  rintro _ _ ⟨rfl, rfl⟩
  refine z_if_eq 10 dX11_drawn_4 (fun h_4 => ?_) (fun h_4 => ?_)
  · have h0 : ¬ σ.v 0 = 0 := by simpa using h_4
    obtain ⟨hI, h999⟩ := hLv.rung (r := 0) (by omega)
    refine x_iload_n dX11_drawn_10 rfl ?_
    refine y_iconst (a := 0) dX11_drawn_11 rfl ?_
    refine x_bipush (v := nI 60) dX11_drawn_12 rfl ?_
    refine q_X11_77 (c_within (by omega) (by omega)) dX11_drawn_14 rfl ?_
    rintro _ _ ⟨rfl, rfl⟩
    refine z_if_eq 40 dX11_drawn_17 (fun h_17 => ?_) (fun h_17 => ?_)
    · refine x_ldc dX11_drawn_40 k_X11_81 ?_
      refine x_iret dX11_drawn_42 ?_
      first
        | (refine ⟨congrArg (fun z => some (Value.int z)) ?_, hC1, hM1⟩
           unfold R_drawn
           rw [if_neg h0, if_pos ⟨h_17, h_28, h_37⟩]
           first
             | (obtain rfl : w0 = 0 := h_59
                rw [if_pos rfl, tn, tx, d0]; done)
             | (rw [if_neg (fun z => h_59 ((nI_eq (by omega) (by omega)).mp z)), tn, tx]; done))
        | (first
        | (refine ⟨congrArg (fun z => some (Value.int z)) ?_, hC1, hM1⟩
           simp [R_drawn, *]; done)
        | (refine ⟨congrArg (fun z => some (Value.int z)) ?_, hC, FrM.rf⟩
           simp [R_drawn, *]; done)
        | (refine ⟨congrArg (fun z => some (Value.int z)) ?_, hC, FrM.rf⟩
           simp at h_4; simp [R_drawn, h_4]; done))
    · refine x_iload_n dX11_drawn_20 rfl ?_
      refine y_iconst (a := 1) dX11_drawn_21 rfl ?_
      refine x_ldcw (v := nI 999999) dX11_drawn_22 k_X11_312 ?_
      refine q_X11_77 (c_within (by omega) (by omega)) dX11_drawn_25 rfl ?_
      rintro _ _ ⟨rfl, rfl⟩
      refine z_if_eq 40 dX11_drawn_28 (fun h_28 => ?_) (fun h_28 => ?_)
      · refine x_ldc dX11_drawn_40 k_X11_81 ?_
        refine x_iret dX11_drawn_42 ?_
        first
          | (refine ⟨congrArg (fun z => some (Value.int z)) ?_, hC1, hM1⟩
             unfold R_drawn
             rw [if_neg h0, if_pos ⟨h_17, h_28, h_37⟩]
             first
               | (obtain rfl : w0 = 0 := h_59
                  rw [if_pos rfl, tn, tx, d0]; done)
               | (rw [if_neg (fun z => h_59 ((nI_eq (by omega) (by omega)).mp z)), tn, tx]; done))
          | (first
          | (refine ⟨congrArg (fun z => some (Value.int z)) ?_, hC1, hM1⟩
             simp [R_drawn, *]; done)
          | (refine ⟨congrArg (fun z => some (Value.int z)) ?_, hC, FrM.rf⟩
             simp [R_drawn, *]; done)
          | (refine ⟨congrArg (fun z => some (Value.int z)) ?_, hC, FrM.rf⟩
             simp at h_4; simp [R_drawn, h_4]; done))
      · refine x_iload_n dX11_drawn_31 rfl ?_
        refine y_iconst (a := 0) dX11_drawn_32 rfl ?_
        refine y_iconst (a := 1) dX11_drawn_33 rfl ?_
        refine q_X11_77 (c_within (by omega) (by omega)) dX11_drawn_34 rfl ?_
        rintro _ _ ⟨rfl, rfl⟩
        refine z_if_ne 43 dX11_drawn_37 (fun h_37 => ?_) (fun h_37 => ?_)
        · obtain ⟨n0, hn0, hn1, rfl⟩ := inB_nI h_17 (by omega)
          have tn := tN_nI (g := n0) (by omega)
          obtain ⟨x0, hx0, hx1, rfl⟩ := inB_nI h_28 (by omega)
          obtain ⟨w0, hw0, hw1, rfl⟩ := inB_nI h_37 (by omega)
          have tx := tN_nI (g := x0) (by omega)
          obtain ⟨hI2, h32⟩ := dwV_Iv hI x0 n0 (by omega)
          obtain ⟨d0, d2⟩ := dwV_02 hI x0 n0 (by omega)
          refine x_aload_n dX11_drawn_43 rfl ?_
          refine g_X11_68 dX11_drawn_44 ?_
          refine x_aload_n dX11_drawn_47 rfl ?_
          refine g_X11_58 dX11_drawn_48 ?_
          refine x_iload_n dX11_drawn_51 rfl ?_
          refine x_iload_n dX11_drawn_52 rfl ?_
          refine q_X11_313 (c_afterDraws Lk49 (by decide) hR hI (by omega) (by omega) (by omega)) dX11_drawn_53 rfl ?_
          rintro _ M1 ⟨rfl, hR1, hF1⟩
          obtain ⟨hC1, hM1⟩ := hC.fr65 hF1
          refine x_astore dX11_drawn_56 ?_
          refine x_iload_n dX11_drawn_58 rfl ?_
          refine y_if_ne 70 dX11_drawn_59 (by omega) (fun h_59 => ?_) (fun h_59 => ?_)
          · refine x_aload dX11_drawn_70 rfl ?_
            refine q_X11_249 (c_allFalls Lk65 hR1 hI2.1) dX11_drawn_72 rfl ?_
            rintro _ _ ⟨rfl, rfl⟩
            refine x_aload_n dX11_drawn_75 rfl ?_
            refine g_X11_58 dX11_drawn_76 ?_
            refine q_X11_249 (c_allFalls Lk49 (hR.keep hF1 Lk49 Lk65 (by decide)) hw) dX11_drawn_79 rfl ?_
            rintro _ _ ⟨rfl, rfl⟩
            refine x_isub dX11_drawn_82 ?_
            refine x_iret dX11_drawn_83 ?_
            first
              | (refine ⟨congrArg (fun z => some (Value.int z)) ?_, hC1, hM1⟩
                 unfold R_drawn
                 rw [if_neg h0, if_pos ⟨h_17, h_28, h_37⟩]
                 first
                   | (obtain rfl : w0 = 0 := h_59
                      rw [if_pos rfl, tn, tx, d0]; done)
                   | (rw [if_neg (fun z => h_59 ((nI_eq (by omega) (by omega)).mp z)), tn, tx]; done))
              | (first
              | (refine ⟨congrArg (fun z => some (Value.int z)) ?_, hC1, hM1⟩
                 simp [R_drawn, *]; done)
              | (refine ⟨congrArg (fun z => some (Value.int z)) ?_, hC, FrM.rf⟩
                 simp [R_drawn, *]; done)
              | (refine ⟨congrArg (fun z => some (Value.int z)) ?_, hC, FrM.rf⟩
                 simp at h_4; simp [R_drawn, h_4]; done))
          · refine x_aload dX11_drawn_62 rfl ?_
            refine q_X11_317 (c_howManyAbove Lk65 hR1 hI2.1) dX11_drawn_64 rfl ?_
            rintro _ _ ⟨rfl, rfl⟩
            refine x_goto 83 dX11_drawn_67 ?_
            refine x_iret dX11_drawn_83 ?_
            first
              | (refine ⟨congrArg (fun z => some (Value.int z)) ?_, hC1, hM1⟩
                 unfold R_drawn
                 rw [if_neg h0, if_pos ⟨h_17, h_28, h_37⟩]
                 first
                   | (obtain rfl : w0 = 0 := h_59
                      rw [if_pos rfl, tn, tx, d0]; done)
                   | (rw [if_neg (fun z => h_59 ((nI_eq (by omega) (by omega)).mp z)), tn, tx]; done))
              | (first
              | (refine ⟨congrArg (fun z => some (Value.int z)) ?_, hC1, hM1⟩
                 simp [R_drawn, *]; done)
              | (refine ⟨congrArg (fun z => some (Value.int z)) ?_, hC, FrM.rf⟩
                 simp [R_drawn, *]; done)
              | (refine ⟨congrArg (fun z => some (Value.int z)) ?_, hC, FrM.rf⟩
                 simp at h_4; simp [R_drawn, h_4]; done))
        · refine x_ldc dX11_drawn_40 k_X11_81 ?_
          refine x_iret dX11_drawn_42 ?_
          first
            | (refine ⟨congrArg (fun z => some (Value.int z)) ?_, hC1, hM1⟩
               unfold R_drawn
               rw [if_neg h0, if_pos ⟨h_17, h_28, h_37⟩]
               first
                 | (obtain rfl : w0 = 0 := h_59
                    rw [if_pos rfl, tn, tx, d0]; done)
                 | (rw [if_neg (fun z => h_59 ((nI_eq (by omega) (by omega)).mp z)), tn, tx]; done))
            | (first
            | (refine ⟨congrArg (fun z => some (Value.int z)) ?_, hC1, hM1⟩
               simp [R_drawn, *]; done)
            | (refine ⟨congrArg (fun z => some (Value.int z)) ?_, hC, FrM.rf⟩
               simp [R_drawn, *]; done)
            | (refine ⟨congrArg (fun z => some (Value.int z)) ?_, hC, FrM.rf⟩
               simp at h_4; simp [R_drawn, h_4]; done))
  · refine x_ldc dX11_drawn_7 k_X11_154 ?_
    refine x_iret dX11_drawn_9 ?_
    first
      | (refine ⟨congrArg (fun z => some (Value.int z)) ?_, hC1, hM1⟩
         unfold R_drawn
         rw [if_neg h0, if_pos ⟨h_17, h_28, h_37⟩]
         first
           | (obtain rfl : w0 = 0 := h_59
              rw [if_pos rfl, tn, tx, d0]; done)
           | (rw [if_neg (fun z => h_59 ((nI_eq (by omega) (by omega)).mp z)), tn, tx]; done))
      | (first
      | (refine ⟨congrArg (fun z => some (Value.int z)) ?_, hC1, hM1⟩
         simp [R_drawn, *]; done)
      | (refine ⟨congrArg (fun z => some (Value.int z)) ?_, hC, FrM.rf⟩
         simp [R_drawn, *]; done)
      | (refine ⟨congrArg (fun z => some (Value.int z)) ?_, hC, FrM.rf⟩
         simp at h_4; simp [R_drawn, h_4]; done))
set_option maxRecDepth 100000 in
set_option maxHeartbeats 4000000 in
theorem c_risk {Ω : Om} {l : Launch} {M : Mem} {σ : Sg} (hC : IC M σ) (hW : SgW σ) {x n u w : Int32} : Ct Ω l yX11_risk cX11_risk 5 8 (some .long) [.ref (Ω.2.2 0), .int x, .int n, .int u, .int w] M (fun ro M' => ro = some (.long (R_risk σ.v x n u w)) ∧ IC M' σ ∧ FrM M M') := by
  have hL49 : Lk 49 := Lk49
  have hL57 : Lk 57 := Lk57
  have hR := hC.lake
  have hLv : Lv σ.v := hW.2.2.1
  have hw := hLv.wv
  have hn := hw.nums
  have hL65 : Lk 65 := Lk65
  refine ct_of (by decide) (Nat.le_of_ble_eq_true rfl) ?_
  intro p e R s m args below meth c
  refine x_aload_n dX11_risk_0 rfl ?_
  refine x_iload_n dX11_risk_1 rfl ?_
  refine q_X11_180 (c_isGoer hR hw) dX11_risk_2 rfl ?_
  rintro _ _ ⟨rfl, rfl⟩
  refine z_if_eq 38 dX11_risk_5 (fun h_5 => ?_) (fun h_5 => ?_)
  · refine x_ldc2 (v := (-1000001)) dX11_risk_38 k_X11_299 ?_
    refine x_lret dX11_risk_41 ?_
    first
      | (refine ⟨congrArg (fun z => some (Value.long z)) ?_, hC1, hM1⟩
         unfold R_risk
         rw [if_pos ⟨h_5, h_15, h_25, h_35⟩, tg, tn, tu]
         first
           | (obtain rfl : w0 = 0 := h_58
              rw [if_pos rfl]; done)
           | (rw [if_neg (fun z => h_58 ((nI_eq (by omega) (by omega)).mp z))]; done))
      | (refine ⟨congrArg (fun z => some (Value.long z)) ?_, hC, FrM.rf⟩
         unfold R_risk
         rw [if_neg (by simp [*])]; done)
  · refine x_iload_n dX11_risk_8 rfl ?_
    refine y_iconst (a := 0) dX11_risk_9 rfl ?_
    refine x_bipush (v := nI 30) dX11_risk_10 rfl ?_
    refine q_X11_77 (c_within (by omega) (by omega)) dX11_risk_12 rfl ?_
    rintro _ _ ⟨rfl, rfl⟩
    refine z_if_eq 38 dX11_risk_15 (fun h_15 => ?_) (fun h_15 => ?_)
    · refine x_ldc2 (v := (-1000001)) dX11_risk_38 k_X11_299 ?_
      refine x_lret dX11_risk_41 ?_
      first
        | (refine ⟨congrArg (fun z => some (Value.long z)) ?_, hC1, hM1⟩
           unfold R_risk
           rw [if_pos ⟨h_5, h_15, h_25, h_35⟩, tg, tn, tu]
           first
             | (obtain rfl : w0 = 0 := h_58
                rw [if_pos rfl]; done)
             | (rw [if_neg (fun z => h_58 ((nI_eq (by omega) (by omega)).mp z))]; done))
        | (refine ⟨congrArg (fun z => some (Value.long z)) ?_, hC, FrM.rf⟩
           unfold R_risk
           rw [if_neg (by simp [*])]; done)
    · refine x_iload_n dX11_risk_18 rfl ?_
      refine y_iconst (a := 0) dX11_risk_19 rfl ?_
      refine x_bipush (v := nI 10) dX11_risk_20 rfl ?_
      refine q_X11_77 (c_within (by omega) (by omega)) dX11_risk_22 rfl ?_
      rintro _ _ ⟨rfl, rfl⟩
      refine z_if_eq 38 dX11_risk_25 (fun h_25 => ?_) (fun h_25 => ?_)
      · refine x_ldc2 (v := (-1000001)) dX11_risk_38 k_X11_299 ?_
        refine x_lret dX11_risk_41 ?_
        first
          | (refine ⟨congrArg (fun z => some (Value.long z)) ?_, hC1, hM1⟩
             unfold R_risk
             rw [if_pos ⟨h_5, h_15, h_25, h_35⟩, tg, tn, tu]
             first
               | (obtain rfl : w0 = 0 := h_58
                  rw [if_pos rfl]; done)
               | (rw [if_neg (fun z => h_58 ((nI_eq (by omega) (by omega)).mp z))]; done))
          | (refine ⟨congrArg (fun z => some (Value.long z)) ?_, hC, FrM.rf⟩
             unfold R_risk
             rw [if_neg (by simp [*])]; done)
      · refine x_iload dX11_risk_28 rfl ?_
        refine y_iconst (a := 0) dX11_risk_30 rfl ?_
        refine y_iconst (a := 1) dX11_risk_31 rfl ?_
        refine q_X11_77 (c_within (by omega) (by omega)) dX11_risk_32 rfl ?_
        rintro _ _ ⟨rfl, rfl⟩
        refine z_if_ne 42 dX11_risk_35 (fun h_35 => ?_) (fun h_35 => ?_)
        · obtain ⟨g, hg, rfl⟩ := inR_nI h_5 (by omega)
          obtain ⟨hI, h999⟩ := hLv.goer hg
          have tg := tN_nI (g := g) (by omega)
          have hgo := hw.goer hg
          obtain ⟨n0, hn0, hn1, rfl⟩ := inB_nI h_15 (by omega)
          have tn := tN_nI (g := n0) (by omega)
          obtain ⟨u0, hu0, hu1, rfl⟩ := inB_nI h_25 (by omega)
          obtain ⟨w0, hw0, hw1, rfl⟩ := inB_nI h_35 (by omega)
          have tu := tN_nI (g := u0) (by omega)
          refine x_aload_n dX11_risk_42 rfl ?_
          refine g_X11_68 dX11_risk_43 ?_
          refine x_aload_n dX11_risk_46 rfl ?_
          refine g_X11_58 dX11_risk_47 ?_
          refine x_iload_n dX11_risk_50 rfl ?_
          refine x_iload_n dX11_risk_51 rfl ?_
          refine x_iload_n dX11_risk_52 rfl ?_
          refine q_X11_301 (c_seekRisk Lk49 (by decide) hR hI hg (by omega) hu1 (by omega)) dX11_risk_53 rfl ?_
          rintro _ M1 ⟨rfl, hr0, hr1, hr2, hrm⟩
          have hC1 : IC M1 σ := hC.keep (fun d hd => hrm d (by omega) (by omega))
          have hM1 : FrM M M1 := fun d a1 a2 => hrm d (by omega) (by omega)
          refine x_iload dX11_risk_56 rfl ?_
          refine y_if_ne 71 dX11_risk_58 (by omega) (fun h_58 => ?_) (fun h_58 => ?_)
          · refine x_aload_n dX11_risk_71 rfl ?_
            refine g_X11_68 dX11_risk_72 ?_
            refine g_X11_309 dX11_risk_75 ?_
            rw [hr1]
            refine x_lret dX11_risk_78 ?_
            first
              | (refine ⟨congrArg (fun z => some (Value.long z)) ?_, hC1, hM1⟩
                 unfold R_risk
                 rw [if_pos ⟨h_5, h_15, h_25, h_35⟩, tg, tn, tu]
                 first
                   | (obtain rfl : w0 = 0 := h_58
                      rw [if_pos rfl]; done)
                   | (rw [if_neg (fun z => h_58 ((nI_eq (by omega) (by omega)).mp z))]; done))
              | (refine ⟨congrArg (fun z => some (Value.long z)) ?_, hC, FrM.rf⟩
                 unfold R_risk
                 rw [if_neg (by simp [*])]; done)
          · refine x_aload_n dX11_risk_61 rfl ?_
            refine g_X11_68 dX11_risk_62 ?_
            refine g_X11_305 dX11_risk_65 ?_
            rw [hr0]
            refine x_goto 78 dX11_risk_68 ?_
            refine x_lret dX11_risk_78 ?_
            first
              | (refine ⟨congrArg (fun z => some (Value.long z)) ?_, hC1, hM1⟩
                 unfold R_risk
                 rw [if_pos ⟨h_5, h_15, h_25, h_35⟩, tg, tn, tu]
                 first
                   | (obtain rfl : w0 = 0 := h_58
                      rw [if_pos rfl]; done)
                   | (rw [if_neg (fun z => h_58 ((nI_eq (by omega) (by omega)).mp z))]; done))
              | (refine ⟨congrArg (fun z => some (Value.long z)) ?_, hC, FrM.rf⟩
                 unfold R_risk
                 rw [if_neg (by simp [*])]; done)
        · refine x_ldc2 (v := (-1000001)) dX11_risk_38 k_X11_299 ?_
          refine x_lret dX11_risk_41 ?_
          first
            | (refine ⟨congrArg (fun z => some (Value.long z)) ?_, hC1, hM1⟩
               unfold R_risk
               rw [if_pos ⟨h_5, h_15, h_25, h_35⟩, tg, tn, tu]
               first
                 | (obtain rfl : w0 = 0 := h_58
                    rw [if_pos rfl]; done)
                 | (rw [if_neg (fun z => h_58 ((nI_eq (by omega) (by omega)).mp z))]; done))
            | (refine ⟨congrArg (fun z => some (Value.long z)) ?_, hC, FrM.rf⟩
               unfold R_risk
               rw [if_neg (by simp [*])]; done)
set_option maxRecDepth 100000 in
set_option maxHeartbeats 4000000 in
theorem c_trace {Ω : Om} {l : Launch} {M : Mem} {σ : Sg} (hC : IC M σ) (hW : SgW σ) {x : Int32} : Ct Ω l yX11_trace cX11_trace 2 1 (some .int) [.ref (Ω.2.2 0), .int x] M (fun ro M' => ro = some (.int (R_trace σ x)) ∧ IC M' σ ∧ FrM M M') := by
  have hL49 : Lk 49 := Lk49
  have hL57 : Lk 57 := Lk57
  have hR := hC.lake
  have hLv : Lv σ.v := hW.2.2.1
  have hw := hLv.wv
  have hn := hw.nums
  have hL65 : Lk 65 := Lk65
  have h16 : σ.rn ≤ 16 := hW.2.2.2.2.2.2.1
  refine ct_of (by decide) (Nat.le_of_ble_eq_true rfl) ?_
  intro p e R s m args below meth c
  refine x_iload_n dX11_trace_0 rfl ?_
  refine x_if_lt 27 dX11_trace_1 (fun h_1 => ?_) (fun h_1 => ?_)
  · refine x_ldc dX11_trace_27 k_X11_242 ?_
    refine x_iret dX11_trace_29 ?_
    have h16 : σ.rn ≤ 16 := hW.2.2.2.2.2.2.1
    first
      | (exact ⟨congrArg (fun z => some (Value.int z)) (by unfold R_trace; rw [if_pos hin, tg]), hC, FrM.rf⟩)
      | (refine ⟨congrArg (fun z => some (Value.int z)) ?_, hC, FrM.rf⟩
         unfold R_trace
         rw [if_neg]
         simp only [inR, decide_eq_true_eq]
         first
           | omega
           | (rw [nI_toInt (by omega)] at h_12; omega))
  · refine x_iload_n dX11_trace_4 rfl ?_
    refine x_aload_n dX11_trace_5 rfl ?_
    refine g_X11_34 dX11_trace_6 ?_
    refine g_X11_344 dX11_trace_9 ?_
    rw [hC.tr.1]
    refine x_icmp_ge 27 dX11_trace_12 (fun h_12 => ?_) (fun h_12 => ?_)
    · refine x_ldc dX11_trace_27 k_X11_242 ?_
      refine x_iret dX11_trace_29 ?_
      have h16 : σ.rn ≤ 16 := hW.2.2.2.2.2.2.1
      first
        | (exact ⟨congrArg (fun z => some (Value.int z)) (by unfold R_trace; rw [if_pos hin, tg]), hC, FrM.rf⟩)
        | (refine ⟨congrArg (fun z => some (Value.int z)) ?_, hC, FrM.rf⟩
           unfold R_trace
           rw [if_neg]
           simp only [inR, decide_eq_true_eq]
           first
             | omega
             | (rw [nI_toInt (by omega)] at h_12; omega))
    · obtain ⟨g, hg, rfl⟩ := inR_nI (x := x) (n := σ.rn) (by simp only [inR, decide_eq_true_eq]; rw [nI_toInt (by omega)] at h_12; omega) (by omega)
      have tg := tN_nI (g := g) (by omega)
      have hin := inR_of hg (by omega)
      refine x_aload_n dX11_trace_15 rfl ?_
      refine g_X11_34 dX11_trace_16 ?_
      refine g_X11_347 dX11_trace_19 ?_
      refine x_iload_n dX11_trace_22 rfl ?_
      refine x_ial dX11_trace_23 (⟨by decide, rfl, rfl, by decide⟩ : Ar 7 16) (by omega) ?_
      rw [hC.tr.2 g hg]
      refine x_goto 29 dX11_trace_24 ?_
      refine x_iret dX11_trace_29 ?_
      have h16 : σ.rn ≤ 16 := hW.2.2.2.2.2.2.1
      first
        | (exact ⟨congrArg (fun z => some (Value.int z)) (by unfold R_trace; rw [if_pos hin, tg]), hC, FrM.rf⟩)
        | (refine ⟨congrArg (fun z => some (Value.int z)) ?_, hC, FrM.rf⟩
           unfold R_trace
           rw [if_neg]
           simp only [inR, decide_eq_true_eq]
           first
             | omega
             | (rw [nI_toInt (by omega)] at h_12; omega))
set_option maxRecDepth 100000 in
set_option maxHeartbeats 4000000 in
theorem c_count {Ω : Om} {l : Launch} {M : Mem} {σ : Sg} (hC : IC M σ) (hW : SgW σ) {w : Int32} : Ct Ω l yX11_count cX11_count 2 3 (some .int) [.ref (Ω.2.2 0), .int w] M (fun ro M' => ro = some (.int (R_count σ w)) ∧ IC M' σ ∧ FrM M M') := by
  have hL49 : Lk 49 := Lk49
  have hL57 : Lk 57 := Lk57
  have hR := hC.lake
  have hLv : Lv σ.v := hW.2.2.1
  have hw := hLv.wv
  have hn := hw.nums
  have hL65 : Lk 65 := Lk65
  refine ct_of (by decide) (Nat.le_of_ble_eq_true rfl) ?_
  intro p e R s m args below meth c
  refine x_iload_n dX11_count_0 rfl ?_
  rcases sw7 w with rfl | rfl | rfl | rfl | rfl | rfl | rfl | rfl | hsw
  · refine x_tableIn 48 dX11_count_1 (by decide) (by decide) rfl ?_
    refine x_aload_n dX11_count_48 rfl ?_
    refine q_X11_350 (c_howManyRows hC.rows) dX11_count_49 rfl ?_
    rintro _ _ ⟨rfl, rfl⟩
    refine x_iret dX11_count_52 ?_
    refine ⟨congrArg (fun z => some (Value.int z)) ?_, hC, FrM.rf⟩
    simp [R_count, nid, *]
  · refine x_tableIn 53 dX11_count_1 (by decide) (by decide) rfl ?_
    refine x_aload_n dX11_count_53 rfl ?_
    refine g_X11_58 dX11_count_54 ?_
    refine g_X11_353 dX11_count_57 ?_
    rw [hR.rungs]
    refine x_iret dX11_count_60 ?_
    refine ⟨congrArg (fun z => some (Value.int z)) ?_, hC, FrM.rf⟩
    simp [R_count, nid, *]
  · refine x_tableIn 61 dX11_count_1 (by decide) (by decide) rfl ?_
    refine x_aload_n dX11_count_61 rfl ?_
    refine g_X11_58 dX11_count_62 ?_
    refine g_X11_148 dX11_count_65 ?_
    rw [hR.goers]
    refine x_iret dX11_count_68 ?_
    refine ⟨congrArg (fun z => some (Value.int z)) ?_, hC, FrM.rf⟩
    simp [R_count, nid, *]
  · refine x_tableIn 69 dX11_count_1 (by decide) (by decide) rfl ?_
    refine x_aload_n dX11_count_69 rfl ?_
    refine g_X11_58 dX11_count_70 ?_
    refine g_X11_164 dX11_count_73 ?_
    rw [hR.hour]
    refine x_iret dX11_count_76 ?_
    refine ⟨congrArg (fun z => some (Value.int z)) ?_, hC, FrM.rf⟩
    simp [R_count, nid, *]
  · refine x_tableIn 77 dX11_count_1 (by decide) (by decide) rfl ?_
    refine x_aload_n dX11_count_77 rfl ?_
    refine g_X11_58 dX11_count_78 ?_
    refine q_X11_317 (c_howManyAbove Lk49 hR hw) dX11_count_81 rfl ?_
    rintro _ _ ⟨rfl, rfl⟩
    refine x_iret dX11_count_84 ?_
    refine ⟨congrArg (fun z => some (Value.int z)) ?_, hC, FrM.rf⟩
    simp [R_count, nid, *]
  · refine x_tableIn 85 dX11_count_1 (by decide) (by decide) rfl ?_
    refine x_aload_n dX11_count_85 rfl ?_
    refine g_X11_58 dX11_count_86 ?_
    refine q_X11_249 (c_allFalls Lk49 hR hw) dX11_count_89 rfl ?_
    rintro _ _ ⟨rfl, rfl⟩
    refine x_iret dX11_count_92 ?_
    refine ⟨congrArg (fun z => some (Value.int z)) ?_, hC, FrM.rf⟩
    simp [R_count, nid, *]
  · refine x_tableIn 93 dX11_count_1 (by decide) (by decide) rfl ?_
    refine x_aload_n dX11_count_93 rfl ?_
    refine g_X11_151 dX11_count_94 ?_
    obtain ⟨o, a1, a2, a3, a4⟩ := hC.acts
    rw [a3]
    refine x_iret dX11_count_97 ?_
    refine ⟨congrArg (fun z => some (Value.int z)) ?_, hC, FrM.rf⟩
    simp [R_count, nid, *]
  · refine x_tableIn 98 dX11_count_1 (by decide) (by decide) rfl ?_
    refine x_aload_n dX11_count_98 rfl ?_
    refine g_X11_18 dX11_count_99 ?_
    refine g_X11_125 dX11_count_102 ?_
    rw [hC.tape.1]
    refine x_iret dX11_count_105 ?_
    refine ⟨congrArg (fun z => some (Value.int z)) ?_, hC, FrM.rf⟩
    simp [R_count, nid, *]
  · have n0 := sw_ne (i := 0) hsw (by decide) (by decide)
    have n1 := sw_ne (i := 1) hsw (by decide) (by decide)
    have n2 := sw_ne (i := 2) hsw (by decide) (by decide)
    have n3 := sw_ne (i := 3) hsw (by decide) (by decide)
    have n4 := sw_ne (i := 4) hsw (by decide) (by decide)
    have n5 := sw_ne (i := 5) hsw (by decide) (by decide)
    have n6 := sw_ne (i := 6) hsw (by decide) (by decide)
    have n7 := sw_ne (i := 7) hsw (by decide) (by decide)
    refine x_tableOut 106 dX11_count_1 hsw ?_
    refine x_ldc dX11_count_106 k_X11_81 ?_
    refine x_iret dX11_count_108 ?_
    refine ⟨congrArg (fun z => some (Value.int z)) ?_, hC, FrM.rf⟩
    simp [R_count, nid, *]
set_option maxRecDepth 100000 in
set_option maxHeartbeats 4000000 in
theorem c_isOfKind {Ω : Om} {l : Launch} {M : Mem} {k u : Nat} (hk : 1 ≤ k ∧ k ≤ 5) (hu : u ≤ 5) : Ct Ω l yX11_isOfKind cX11_isOfKind 2 1 (some .boolean) [.ref (Ω.2.2 (8 + k)), .int (nI u)] M (fun ro M' => ro = some (.int (bI (decide (u = 0 ∨ u = k ∨ (u = 1 ∧ k ≤ 3) ∨ (u = 4 ∧ k = 5))))) ∧ M = M') := by
  have hL49 : Lk 49 := Lk49
  have hL57 : Lk 57 := Lk57
  refine ct_of (by decide) (Nat.le_of_ble_eq_true rfl) ?_
  intro p e R s m args below meth c
  refine x_iload_n dX11_isOfKind_0 rfl ?_
  rcases (show u = 0 ∨ u = 1 ∨ u = 2 ∨ u = 3 ∨ u = 4 ∨ u = 5 by omega) with rfl | rfl | rfl | rfl | rfl | rfl
  · refine x_tableOut 61 dX11_isOfKind_1 (Or.inl (by decide)) ?_
    refine x_aload_n dX11_isOfKind_61 rfl ?_
    refine x_ifnull dX11_isOfKind_62 ?_
    refine y_iconst (a := 1) dX11_isOfKind_65 rfl ?_
    refine x_goto 70 dX11_isOfKind_66 ?_
    first | refine z_iret dX11_isOfKind_70 ?_ | refine z_iret0 dX11_isOfKind_70 ?_ | refine z_iret1 dX11_isOfKind_70 ?_
    exact ⟨cB _ _ (by first | exact decide_eq_decide.mpr (by omega) | exact (decide_eq_true (by omega)).symm | (simp <;> omega)), rfl⟩
  · refine x_tableIn 36 dX11_isOfKind_1 (by decide) (by decide) rfl ?_
    refine x_aload_n dX11_isOfKind_36 rfl ?_
    refine x_inst1 hk dX11_isOfKind_37 i_X11_40 ?_
    first | refine z_iret dX11_isOfKind_40 ?_ | refine z_iret0 dX11_isOfKind_40 ?_ | refine z_iret1 dX11_isOfKind_40 ?_
    exact ⟨cB _ _ (by first | exact decide_eq_decide.mpr (by omega) | exact (decide_eq_true (by omega)).symm | (simp <;> omega)), rfl⟩
  · refine x_tableIn 41 dX11_isOfKind_1 (by decide) (by decide) rfl ?_
    refine x_aload_n dX11_isOfKind_41 rfl ?_
    refine x_inst3 hk dX11_isOfKind_42 i_X11_43 ?_
    first | refine z_iret dX11_isOfKind_45 ?_ | refine z_iret0 dX11_isOfKind_45 ?_ | refine z_iret1 dX11_isOfKind_45 ?_
    exact ⟨cB _ _ (by first | exact decide_eq_decide.mpr (by omega) | exact (decide_eq_true (by omega)).symm | (simp <;> omega)), rfl⟩
  · refine x_tableIn 46 dX11_isOfKind_1 (by decide) (by decide) rfl ?_
    refine x_aload_n dX11_isOfKind_46 rfl ?_
    refine x_inst2 hk dX11_isOfKind_47 i_X11_46 ?_
    first | refine z_iret dX11_isOfKind_50 ?_ | refine z_iret0 dX11_isOfKind_50 ?_ | refine z_iret1 dX11_isOfKind_50 ?_
    exact ⟨cB _ _ (by first | exact decide_eq_decide.mpr (by omega) | exact (decide_eq_true (by omega)).symm | (simp <;> omega)), rfl⟩
  · refine x_tableIn 51 dX11_isOfKind_1 (by decide) (by decide) rfl ?_
    refine x_aload_n dX11_isOfKind_51 rfl ?_
    refine x_inst4 hk dX11_isOfKind_52 i_X11_49 ?_
    first | refine z_iret dX11_isOfKind_55 ?_ | refine z_iret0 dX11_isOfKind_55 ?_ | refine z_iret1 dX11_isOfKind_55 ?_
    exact ⟨cB _ _ (by first | exact decide_eq_decide.mpr (by omega) | exact (decide_eq_true (by omega)).symm | (simp <;> omega)), rfl⟩
  · refine x_tableIn 56 dX11_isOfKind_1 (by decide) (by decide) rfl ?_
    refine x_aload_n dX11_isOfKind_56 rfl ?_
    refine x_inst6 hk dX11_isOfKind_57 i_X11_52 ?_
    first | refine z_iret dX11_isOfKind_60 ?_ | refine z_iret0 dX11_isOfKind_60 ?_ | refine z_iret1 dX11_isOfKind_60 ?_
    exact ⟨cB _ _ (by first | exact decide_eq_decide.mpr (by omega) | exact (decide_eq_true (by omega)).symm | (simp <;> omega)), rfl⟩
set_option maxRecDepth 100000 in
set_option maxHeartbeats 4000000 in
theorem c_as {Ω : Om} {l : Launch} {M : Mem} {σ : Sg} (hC : IC M σ) (hW : SgW σ) {x u : Int32} : Ct Ω l yX11_as cX11_as 3 3 (some .int) [.ref (Ω.2.2 0), .int x, .int u] M (fun ro M' => ro = some (.int (R_as σ x u).1) ∧ IC M' (R_as σ x u).2 ∧ FrM M M') := by
  have hL49 : Lk 49 := Lk49
  have hL57 : Lk 57 := Lk57
  have hR := hC.lake
  have hLv : Lv σ.v := hW.2.2.1
  have hw := hLv.wv
  have hn := hw.nums
  have hL65 : Lk 65 := Lk65
  refine ct_of (by decide) (Nat.le_of_ble_eq_true rfl) ?_
  intro p e R s m args below meth c
  refine x_aload_n dX11_as_0 rfl ?_
  refine x_iload_n dX11_as_1 rfl ?_
  refine q_X11_180 (c_isGoer hR hw) dX11_as_2 rfl ?_
  rintro _ _ ⟨rfl, rfl⟩
  refine z_if_eq 17 dX11_as_5 (fun h_5 => ?_) (fun h_5 => ?_)
  · refine x_ldc dX11_as_17 k_X11_81 ?_
    refine x_iret dX11_as_19 ?_
    unfold R_as
    first
      | (rw [if_pos ⟨h_5, h_14⟩, tg]
         simp only [nIe (show u0 < 2 ^ 31 by omega) (show 0 < 2 ^ 31 by decide), nIe (show u0 < 2 ^ 31 by omega) (show σ.v (15 + g) < 2 ^ 31 by omega), nIe (show u0 < 2 ^ 31 by omega) (show 1 < 2 ^ 31 by decide), nIe (show u0 < 2 ^ 31 by omega) (show 4 < 2 ^ 31 by decide)]
         first
           | (rw [if_pos (by simpa using h_32)]
              exact ⟨rfl, hC.setSt _, FrM.rf.up (by omega)⟩)
           | (rw [if_neg (by simpa using h_32)]
              exact ⟨rfl, hC.setSt _, FrM.rf.up (by omega)⟩))
      | (rw [if_neg (by simp [*])]
         exact ⟨rfl, hC, FrM.rf⟩)
  · refine x_iload_n dX11_as_8 rfl ?_
    refine y_iconst (a := 0) dX11_as_9 rfl ?_
    refine y_iconst (a := 5) dX11_as_10 rfl ?_
    refine q_X11_77 (c_within (by omega) (by omega)) dX11_as_11 rfl ?_
    rintro _ _ ⟨rfl, rfl⟩
    refine z_if_ne 20 dX11_as_14 (fun h_14 => ?_) (fun h_14 => ?_)
    · obtain ⟨g, hg, rfl⟩ := inR_nI h_5 (by omega)
      obtain ⟨hI, h999⟩ := hLv.goer hg
      have tg := tN_nI (g := g) (by omega)
      have hgo := hw.goer hg
      obtain ⟨u0, hu0, hu1, rfl⟩ := inB_nI h_14 (by omega)
      refine x_aload_n dX11_as_20 rfl ?_
      refine g_X11_58 dX11_as_21 ?_
      refine x_iload_n dX11_as_24 rfl ?_
      refine q_X11_326 (c_sortOf Lk49 hR hw hg) dX11_as_25 rfl ?_
      rintro _ _ ⟨rfl, rfl⟩
      refine x_iload_n dX11_as_28 rfl ?_
      refine q_X11_330 (c_isOfKind (by omega) hu1) dX11_as_29 rfl ?_
      rintro _ _ ⟨rfl, rfl⟩
      refine z_if_eq 43 dX11_as_32 (fun h_32 => ?_) (fun h_32 => ?_)
      · refine x_aload_n dX11_as_43 rfl ?_
        refine y_iconst (a := 3) dX11_as_44 rfl ?_
        refine q_X11_82 (c_found) dX11_as_45 rfl ?_
        rintro _ _ ⟨rfl, rfl⟩
        refine x_iret dX11_as_48 ?_
        unfold R_as
        first
          | (rw [if_pos ⟨h_5, h_14⟩, tg]
             simp only [nIe (show u0 < 2 ^ 31 by omega) (show 0 < 2 ^ 31 by decide), nIe (show u0 < 2 ^ 31 by omega) (show σ.v (15 + g) < 2 ^ 31 by omega), nIe (show u0 < 2 ^ 31 by omega) (show 1 < 2 ^ 31 by decide), nIe (show u0 < 2 ^ 31 by omega) (show 4 < 2 ^ 31 by decide)]
             first
               | (rw [if_pos (by simpa using h_32)]
                  exact ⟨rfl, hC.setSt _, FrM.rf.up (by omega)⟩)
               | (rw [if_neg (by simpa using h_32)]
                  exact ⟨rfl, hC.setSt _, FrM.rf.up (by omega)⟩))
          | (rw [if_neg (by simp [*])]
             exact ⟨rfl, hC, FrM.rf⟩)
      · refine x_aload_n dX11_as_35 rfl ?_
        refine x_iload_n dX11_as_36 rfl ?_
        refine q_X11_90 (c_fine) dX11_as_37 rfl ?_
        rintro _ _ ⟨rfl, rfl⟩
        refine x_goto 48 dX11_as_40 ?_
        refine x_iret dX11_as_48 ?_
        unfold R_as
        first
          | (rw [if_pos ⟨h_5, h_14⟩, tg]
             simp only [nIe (show u0 < 2 ^ 31 by omega) (show 0 < 2 ^ 31 by decide), nIe (show u0 < 2 ^ 31 by omega) (show σ.v (15 + g) < 2 ^ 31 by omega), nIe (show u0 < 2 ^ 31 by omega) (show 1 < 2 ^ 31 by decide), nIe (show u0 < 2 ^ 31 by omega) (show 4 < 2 ^ 31 by decide)]
             first
               | (rw [if_pos (by simpa using h_32)]
                  exact ⟨rfl, hC.setSt _, FrM.rf.up (by omega)⟩)
               | (rw [if_neg (by simpa using h_32)]
                  exact ⟨rfl, hC.setSt _, FrM.rf.up (by omega)⟩))
          | (rw [if_neg (by simp [*])]
             exact ⟨rfl, hC, FrM.rf⟩)
    · refine x_ldc dX11_as_17 k_X11_81 ?_
      refine x_iret dX11_as_19 ?_
      unfold R_as
      first
        | (rw [if_pos ⟨h_5, h_14⟩, tg]
           simp only [nIe (show u0 < 2 ^ 31 by omega) (show 0 < 2 ^ 31 by decide), nIe (show u0 < 2 ^ 31 by omega) (show σ.v (15 + g) < 2 ^ 31 by omega), nIe (show u0 < 2 ^ 31 by omega) (show 1 < 2 ^ 31 by decide), nIe (show u0 < 2 ^ 31 by omega) (show 4 < 2 ^ 31 by decide)]
           first
             | (rw [if_pos (by simpa using h_32)]
                exact ⟨rfl, hC.setSt _, FrM.rf.up (by omega)⟩)
             | (rw [if_neg (by simpa using h_32)]
                exact ⟨rfl, hC.setSt _, FrM.rf.up (by omega)⟩))
        | (rw [if_neg (by simp [*])]
           exact ⟨rfl, hC, FrM.rf⟩)
