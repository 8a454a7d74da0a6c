/-! LADDERSPRINGS: line itself (laid by gen_line3.py) -/
set_option maxRecDepth 100000 in
set_option maxHeartbeats 4000000 in
theorem c_line {Ω : Om} {l : Launch} {M : Mem} {σ : Sg} (hC : IC M σ) (hW : SgW σ) {n k : Int32} : Ct Ω l yX11_line cX11_line 3 8 (some .int) [.ref (Ω.2.2 0), .int n, .int k] M (fun ro M' => ro = some (.int (R_line σ.v n k)) ∧ IC M' σ ∧ FrM M M') := by
  have hL49 : Lk 49 := Lk49
  have hL57 : Lk 57 := Lk57
  have hR := hC.lake
  have hLv : Lv σ.v := hW.2.2.1
  have hw := hLv.wv
  have hn := hw.nums
  have hL65 : Lk 65 := Lk65
  refine ct_of (by decide) (Nat.le_of_ble_eq_true rfl) ?_
  intro p e R s m args below meth c
  refine x_aload_n dX11_line_0 rfl ?_
  refine q_X11_161 (c_hasNoLake hR hw) dX11_line_1 rfl ?_
  rintro _ _ ⟨rfl, rfl⟩
  refine z_if_eq 10 dX11_line_4 (fun h_4 => ?_) (fun h_4 => ?_)
  · have h0 : ¬ σ.v 0 = 0 := by simpa using h_4
    obtain ⟨hI, h999⟩ := hLv.rung (r := 0) (by omega)
    refine x_iload_n dX11_line_10 rfl ?_
    refine y_iconst (a := 1) dX11_line_11 rfl ?_
    refine x_bipush (v := nI 60) dX11_line_12 rfl ?_
    refine q_X11_77 (c_within (by omega) (by omega)) dX11_line_14 rfl ?_
    rintro _ _ ⟨rfl, rfl⟩
    refine z_if_eq 25 dX11_line_17 (fun h_17 => ?_) (fun h_17 => ?_)
    · refine x_ldc dX11_line_25 k_X11_81 ?_
      refine x_iret dX11_line_27 ?_
      first
        | (refine ⟨congrArg (fun z => some (Value.int z)) ?_, hC1, hM1⟩
           unfold R_line
           rw [if_neg h0, if_pos ⟨h_17, by rw [m1_toInt] at h_22; omega⟩, tn, hq1]
           show _ = (if _ then _ else _)
           first
             | (rw [if_pos h_42]; done)
             | (rw [if_neg h_42, hq2, if_pos hin, tk]; done)
             | (rw [if_neg h_42, hq2, if_neg (by simp only [inR, decide_eq_true_eq]; rw [nI_toInt (by omega)] at h_61; omega)]; done))
        | (refine ⟨congrArg (fun z => some (Value.int z)) ?_, hC, FrM.rf⟩
           unfold R_line
           first
             | (rw [if_pos (by simpa using h_4)]; done)
             | (rw [if_neg h0, if_neg (by rintro ⟨z1, z2⟩; first | exact absurd (z1.symm.trans h_17) (by decide) | (rw [m1_toInt] at h_22; omega))]; done))
    · refine x_iload_n dX11_line_20 rfl ?_
      refine x_iconst (v := -1) dX11_line_21 rfl ?_
      refine x_icmp_ge 28 dX11_line_22 (fun h_22 => ?_) (fun h_22 => ?_)
      · obtain ⟨n0, hn0, hn1, rfl⟩ := inB_nI h_17 (by omega)
        have tn := tN_nI (g := n0) (by omega)
        have hod := (o0_Od hw).1
        refine x_aload_n dX11_line_28 rfl ?_
        refine g_X11_68 dX11_line_29 ?_
        refine x_aload_n dX11_line_32 rfl ?_
        refine g_X11_58 dX11_line_33 ?_
        refine x_iload_n dX11_line_36 rfl ?_
        refine q_X11_262 (c_seekLine hR hI h999 (by omega) (by omega) hC.line) dX11_line_37 rfl ?_
        rintro _ M1 ⟨rfl, ⟨q0, hq1, hq2, h51, hB1⟩, hl1, hF1⟩
        obtain ⟨hC1, hM1⟩ := hC.setLine hF1 hl1
        refine x_iload_n dX11_line_40 rfl ?_
        refine x_iconst (v := -1) dX11_line_41 rfl ?_
        refine x_icmp_ne 53 dX11_line_42 (fun h_42 => ?_) (fun h_42 => ?_)
        · refine x_iload_n dX11_line_53 rfl ?_
          refine x_aload_n dX11_line_54 rfl ?_
          refine g_X11_68 dX11_line_55 ?_
          refine g_X11_269 dX11_line_58 ?_
          rw [h51]
          refine x_icmp_ge 76 dX11_line_61 (fun h_61 => ?_) (fun h_61 => ?_)
          · refine x_ldc dX11_line_76 k_X11_242 ?_
            refine x_iret dX11_line_78 ?_
            first
              | (refine ⟨congrArg (fun z => some (Value.int z)) ?_, hC1, hM1⟩
                 unfold R_line
                 rw [if_neg h0, if_pos ⟨h_17, by rw [m1_toInt] at h_22; omega⟩, tn, hq1]
                 show _ = (if _ then _ else _)
                 first
                   | (rw [if_pos h_42]; done)
                   | (rw [if_neg h_42, hq2, if_pos hin, tk]; done)
                   | (rw [if_neg h_42, hq2, if_neg (by simp only [inR, decide_eq_true_eq]; rw [nI_toInt (by omega)] at h_61; omega)]; done))
              | (refine ⟨congrArg (fun z => some (Value.int z)) ?_, hC, FrM.rf⟩
                 unfold R_line
                 first
                   | (rw [if_pos (by simpa using h_4)]; done)
                   | (rw [if_neg h0, if_neg (by rintro ⟨z1, z2⟩; first | exact absurd (z1.symm.trans h_17) (by decide) | (rw [m1_toInt] at h_22; omega))]; done))
          · obtain ⟨k0, hk0, rfl⟩ := inR_nI (x := k) (n := (o0 σ.v).length) (by simp only [inR, decide_eq_true_eq]; rw [nI_toInt (by omega)] at h_61; rw [m1_toInt] at h_22; have : k.toInt ≠ -1 := (fun z => h_42 (Int32.toInt_inj.mp (z.trans m1_toInt.symm))); omega) (by omega)
            have tk := tN_nI (g := k0) (by omega)
            have hin := inR_of hk0 (by omega)
            refine x_aload_n dX11_line_64 rfl ?_
            refine g_X11_68 dX11_line_65 ?_
            refine g_X11_272 dX11_line_68 ?_
            refine x_iload_n dX11_line_71 rfl ?_
            refine x_ial dX11_line_72 (⟨by decide, rfl, rfl, by decide⟩ : Ar 16 6) (by omega) ?_
            rw [hB1.2.2.2 _ hk0]
            refine x_goto 78 dX11_line_73 ?_
            refine x_iret dX11_line_78 ?_
            first
              | (refine ⟨congrArg (fun z => some (Value.int z)) ?_, hC1, hM1⟩
                 unfold R_line
                 rw [if_neg h0, if_pos ⟨h_17, by rw [m1_toInt] at h_22; omega⟩, tn, hq1]
                 show _ = (if _ then _ else _)
                 first
                   | (rw [if_pos h_42]; done)
                   | (rw [if_neg h_42, hq2, if_pos hin, tk]; done)
                   | (rw [if_neg h_42, hq2, if_neg (by simp only [inR, decide_eq_true_eq]; rw [nI_toInt (by omega)] at h_61; omega)]; done))
              | (refine ⟨congrArg (fun z => some (Value.int z)) ?_, hC, FrM.rf⟩
                 unfold R_line
                 first
                   | (rw [if_pos (by simpa using h_4)]; done)
                   | (rw [if_neg h0, if_neg (by rintro ⟨z1, z2⟩; first | exact absurd (z1.symm.trans h_17) (by decide) | (rw [m1_toInt] at h_22; omega))]; done))
        · refine x_aload_n dX11_line_45 rfl ?_
          refine g_X11_68 dX11_line_46 ?_
          refine g_X11_266 dX11_line_49 ?_
          rw [hB1.1]
          refine x_iret dX11_line_52 ?_
          first
            | (refine ⟨congrArg (fun z => some (Value.int z)) ?_, hC1, hM1⟩
               unfold R_line
               rw [if_neg h0, if_pos ⟨h_17, by rw [m1_toInt] at h_22; omega⟩, tn, hq1]
               show _ = (if _ then _ else _)
               first
                 | (rw [if_pos h_42]; done)
                 | (rw [if_neg h_42, hq2, if_pos hin, tk]; done)
                 | (rw [if_neg h_42, hq2, if_neg (by simp only [inR, decide_eq_true_eq]; rw [nI_toInt (by omega)] at h_61; omega)]; done))
            | (refine ⟨congrArg (fun z => some (Value.int z)) ?_, hC, FrM.rf⟩
               unfold R_line
               first
                 | (rw [if_pos (by simpa using h_4)]; done)
                 | (rw [if_neg h0, if_neg (by rintro ⟨z1, z2⟩; first | exact absurd (z1.symm.trans h_17) (by decide) | (rw [m1_toInt] at h_22; omega))]; done))
      · refine x_ldc dX11_line_25 k_X11_81 ?_
        refine x_iret dX11_line_27 ?_
        first
          | (refine ⟨congrArg (fun z => some (Value.int z)) ?_, hC1, hM1⟩
             unfold R_line
             rw [if_neg h0, if_pos ⟨h_17, by rw [m1_toInt] at h_22; omega⟩, tn, hq1]
             show _ = (if _ then _ else _)
             first
               | (rw [if_pos h_42]; done)
               | (rw [if_neg h_42, hq2, if_pos hin, tk]; done)
               | (rw [if_neg h_42, hq2, if_neg (by simp only [inR, decide_eq_true_eq]; rw [nI_toInt (by omega)] at h_61; omega)]; done))
          | (refine ⟨congrArg (fun z => some (Value.int z)) ?_, hC, FrM.rf⟩
             unfold R_line
             first
               | (rw [if_pos (by simpa using h_4)]; done)
               | (rw [if_neg h0, if_neg (by rintro ⟨z1, z2⟩; first | exact absurd (z1.symm.trans h_17) (by decide) | (rw [m1_toInt] at h_22; omega))]; done))
  · refine x_ldc dX11_line_7 k_X11_154 ?_
    refine x_iret dX11_line_9 ?_
    first
      | (refine ⟨congrArg (fun z => some (Value.int z)) ?_, hC1, hM1⟩
         unfold R_line
         rw [if_neg h0, if_pos ⟨h_17, by rw [m1_toInt] at h_22; omega⟩, tn, hq1]
         show _ = (if _ then _ else _)
         first
           | (rw [if_pos h_42]; done)
           | (rw [if_neg h_42, hq2, if_pos hin, tk]; done)
           | (rw [if_neg h_42, hq2, if_neg (by simp only [inR, decide_eq_true_eq]; rw [nI_toInt (by omega)] at h_61; omega)]; done))
      | (refine ⟨congrArg (fun z => some (Value.int z)) ?_, hC, FrM.rf⟩
         unfold R_line
         first
           | (rw [if_pos (by simpa using h_4)]; done)
           | (rw [if_neg h0, if_neg (by rintro ⟨z1, z2⟩; first | exact absurd (z1.symm.trans h_17) (by decide) | (rw [m1_toInt] at h_22; omega))]; done))
