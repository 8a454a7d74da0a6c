/-! THE REFERENCE: one hour (laid by gen_m2.py) -/
set_option maxRecDepth 100000 in
set_option maxHeartbeats 4000000 in
theorem m_oneHour {Ω : Om} {l : Launch} {M : Mem} {v : Nat → Nat} (hS : MsR M v) (hI : Iv v)  : Ct Ω l yX12_oneHour cX12_oneHour 4 8 none [.ref (Ω.2.2 34)] M (fun ro M' => ro = none ∧ MsR M' (hrV v) ∧ FS M M') := by
  have hw := hI.1
  have hn := hw.nums
  have hIm := hI.mvs (v 2) (Nat.le_refl _)
  have hwm := hIm.1
  have hm2 : mvN v (v 2) 2 ≤ 6 := by rw [mvN_2]; omega
  have hm0 : mvN v (v 2) 0 = v 0 := mvN_ne _ (by omega) (by omega)
  refine ct_of (by decide) (Nat.le_of_ble_eq_true rfl) ?_
  intro p e R s m args below meth c
  have key2 : ∀ (k : Nat) (h : Nat) (M1 : Mem) (x2 x3 : Option Value), h + k = v 0 ∧ MsR M1 (wrN (mvN v (v 2)) h) ∧ FS M M1 → X (mkG p l e R s m args below meth c Ω (fun ro M' => ro = none ∧ MsR M' (hrV v) ∧ FS M M')) Ω RX12 cX12_oneHour 4 8 none 64 [some (.ref (Ω.2.2 34)), some (.int (nI (h + 1))), x2, x3] [] M1 := by
    intro k
    induction k with
    | zero =>
      intro h M1 x2 x3 hk
      obtain ⟨hk, hS1, hF1⟩ := hk
      have hw1 := hwm.wrs h (by omega)
      have e0 : wrN (mvN v (v 2)) h 0 = v 0 := by rw [wrN_ne hm2 h (by omega) (by omega) (by omega) (by omega), mvN_ne _ (by omega) (by omega)]
      refine x_iload_n dX12_oneHour_64 rfl ?_
      refine x_aload_n dX12_oneHour_65 rfl ?_
      refine g_X12_19 dX12_oneHour_66 ?_
      refine y_iconst (a := 0) dX12_oneHour_69 rfl ?_
      refine x_ial dX12_oneHour_70 (⟨by decide, rfl, rfl, by decide⟩ : Ar 38 45) (by omega) ?_
      rw [hS1.at (by omega), e0]
      refine y_icmp_gt 140 dX12_oneHour_71 (by omega) (by omega) (fun h_71 => ?_) (fun h_71 => ?_)
      · refine x_aload_n dX12_oneHour_140 rfl ?_
        refine g_X12_19 dX12_oneHour_141 ?_
        refine y_iconst (a := 3) dX12_oneHour_144 rfl ?_
        refine x_dup2 dX12_oneHour_145 rfl rfl ?_
        refine x_ial dX12_oneHour_146 (⟨by decide, rfl, rfl, by decide⟩ : Ar 38 45) (by omega) ?_
        rw [hS1.at (by omega)]
        refine y_iconst (a := 1) dX12_oneHour_147 rfl ?_
        refine y_iadd dX12_oneHour_148 ?_
        refine x_ias dX12_oneHour_149 (⟨by decide, rfl, rfl, by decide⟩ : Ar 38 45) (by omega) ?_
        refine x_vret dX12_oneHour_150 ?_
        obtain rfl : h = v 0 := by omega
        have hS5 := hS1.set 3 (wrN (mvN v (v 2)) (v 0) 3 + 1)
        have e3 : wrN (mvN v (v 2)) (v 0) 3 = v 3 := by rw [wrN_ne hm2 (v 0) (by omega) (by omega) (by omega) (by omega), mvN_ne _ (by omega) (by omega)]
        rw [e3] at hS5
        refine ⟨rfl, ?_, hF1.up⟩
        rw [e3]
        exact hS5
      · exfalso; omega
    | succ k ih =>
      intro h M1 x2 x3 hk
      obtain ⟨hk, hS1, hF1⟩ := hk
      have hw1 := hwm.wrs h (by omega)
      have e0 : wrN (mvN v (v 2)) h 0 = v 0 := by rw [wrN_ne hm2 h (by omega) (by omega) (by omega) (by omega), mvN_ne _ (by omega) (by omega)]
      refine x_iload_n dX12_oneHour_64 rfl ?_
      refine x_aload_n dX12_oneHour_65 rfl ?_
      refine g_X12_19 dX12_oneHour_66 ?_
      refine y_iconst (a := 0) dX12_oneHour_69 rfl ?_
      refine x_ial dX12_oneHour_70 (⟨by decide, rfl, rfl, by decide⟩ : Ar 38 45) (by omega) ?_
      rw [hS1.at (by omega), e0]
      refine y_icmp_gt 140 dX12_oneHour_71 (by omega) (by omega) (fun h_71 => ?_) (fun h_71 => ?_)
      · refine x_aload_n dX12_oneHour_140 rfl ?_
        refine g_X12_19 dX12_oneHour_141 ?_
        refine y_iconst (a := 3) dX12_oneHour_144 rfl ?_
        refine x_dup2 dX12_oneHour_145 rfl rfl ?_
        refine x_ial dX12_oneHour_146 (⟨by decide, rfl, rfl, by decide⟩ : Ar 38 45) (by omega) ?_
        rw [hS1.at (by omega)]
        refine y_iconst (a := 1) dX12_oneHour_147 rfl ?_
        refine y_iadd dX12_oneHour_148 ?_
        refine x_ias dX12_oneHour_149 (⟨by decide, rfl, rfl, by decide⟩ : Ar 38 45) (by omega) ?_
        refine x_vret dX12_oneHour_150 ?_
        obtain rfl : h = v 0 := by omega
        have hS5 := hS1.set 3 (wrN (mvN v (v 2)) (v 0) 3 + 1)
        have e3 : wrN (mvN v (v 2)) (v 0) 3 = v 3 := by rw [wrN_ne hm2 (v 0) (by omega) (by omega) (by omega) (by omega), mvN_ne _ (by omega) (by omega)]
        rw [e3] at hS5
        refine ⟨rfl, ?_, hF1.up⟩
        rw [e3]
        exact hS5
      · have hst := hw1.str (p := h + 1) (by omega)
        have hla := loadA_le hw1 (h + 1)
        refine x_aload_n dX12_oneHour_74 rfl ?_
        refine x_iload_n dX12_oneHour_75 rfl ?_
        refine q_X12_157 (m_loadOn hS1 hw1 (by omega)) dX12_oneHour_76 rfl ?_
        rintro _ _ ⟨rfl, rfl⟩
        refine x_istore_n dX12_oneHour_79 ?_
        refine x_aload_n dX12_oneHour_80 rfl ?_
        refine g_X12_19 dX12_oneHour_81 ?_
        refine x_bipush (v := nI 6) dX12_oneHour_84 rfl ?_
        refine x_iload_n dX12_oneHour_86 rfl ?_
        refine y_iadd dX12_oneHour_87 ?_
        refine y_iconst (a := 1) dX12_oneHour_88 rfl ?_
        refine y_isub dX12_oneHour_89 (by omega) ?_
        rw [show 6 + (h + 1) - 1 = 5 + (h + 1) by omega]
        refine x_ial dX12_oneHour_90 (⟨by decide, rfl, rfl, by decide⟩ : Ar 38 45) (by omega) ?_
        rw [hS1.at (by omega)]
        refine x_istore_n dX12_oneHour_91 ?_
        show X _ _ _ _ _ _ _ _ [some (.ref (Ω.2.2 34)), some (.int (nI (h + 1))), some (.int _), some (.int _)] _ _
        refine x_iload_n dX12_oneHour_92 rfl ?_
        refine x_iload_n dX12_oneHour_93 rfl ?_
        refine y_icmp_le 105 dX12_oneHour_94 (by omega) (by omega) (fun h_94 => ?_) (fun h_94 => ?_)
        · refine x_iload_n dX12_oneHour_105 rfl ?_
          refine y_if_le 134 dX12_oneHour_106 (by omega) (fun h_106 => ?_) (fun h_106 => ?_)
          · refine y_iinc dX12_oneHour_134 rfl ?_
            refine x_goto 64 dX12_oneHour_137 ?_
            first
              | exact ih (h + 1) _ _ _ ⟨by omega, hS2.congr (fun j _ => by simp only [wrN, wr1]; rw [if_pos (by assumption)]), hF1.tr hF2⟩
              | exact ih (h + 1) _ _ _ ⟨by omega, hS1.congr (fun j _ => by simp only [wrN, wr1]; rw [if_neg (by omega), if_pos (by assumption)]), hF1⟩
              | exact ih (h + 1) _ _ _ ⟨by omega, hS4.congr (fun j _ => by simp only [wrN, wr1]; rw [if_neg (by omega), if_neg (by omega), if_pos (by assumption)]), hF1.up.tr hF4⟩
              | exact ih (h + 1) _ _ _ ⟨by omega, hS3.congr (fun j _ => by simp only [wrN, wr1]; rw [if_neg (by omega), if_neg (by omega), if_neg (by assumption)]), hF1.up⟩
          · refine x_aload_n dX12_oneHour_109 rfl ?_
            refine g_X12_19 dX12_oneHour_110 ?_
            refine x_bipush (v := nI 6) dX12_oneHour_113 rfl ?_
            refine x_iload_n dX12_oneHour_115 rfl ?_
            refine y_iadd dX12_oneHour_116 ?_
            refine y_iconst (a := 1) dX12_oneHour_117 rfl ?_
            refine y_isub dX12_oneHour_118 (by omega) ?_
            refine x_dup2 dX12_oneHour_119 rfl rfl ?_
            rw [show 6 + (h + 1) - 1 = 5 + (h + 1) by omega]
            refine x_ial dX12_oneHour_120 (⟨by decide, rfl, rfl, by decide⟩ : Ar 38 45) (by omega) ?_
            rw [hS1.at (by omega)]
            refine y_iconst (a := 1) dX12_oneHour_121 rfl ?_
            refine y_isub dX12_oneHour_122 (by omega) ?_
            refine x_ias dX12_oneHour_123 (⟨by decide, rfl, rfl, by decide⟩ : Ar 38 45) (by omega) ?_
            have hS3 := hS1.set (5 + (h + 1)) (wrN (mvN v (v 2)) h (5 + (h + 1)) - 1)
            refine x_iload_n dX12_oneHour_124 rfl ?_
            refine y_iconst (a := 1) dX12_oneHour_125 rfl ?_
            refine y_icmp_ne 134 dX12_oneHour_126 (by omega) (by omega) (fun h_126 => ?_) (fun h_126 => ?_)
            · refine y_iinc dX12_oneHour_134 rfl ?_
              refine x_goto 64 dX12_oneHour_137 ?_
              first
                | exact ih (h + 1) _ _ _ ⟨by omega, hS2.congr (fun j _ => by simp only [wrN, wr1]; rw [if_pos (by assumption)]), hF1.tr hF2⟩
                | exact ih (h + 1) _ _ _ ⟨by omega, hS1.congr (fun j _ => by simp only [wrN, wr1]; rw [if_neg (by omega), if_pos (by assumption)]), hF1⟩
                | exact ih (h + 1) _ _ _ ⟨by omega, hS4.congr (fun j _ => by simp only [wrN, wr1]; rw [if_neg (by omega), if_neg (by omega), if_pos (by assumption)]), hF1.up.tr hF4⟩
                | exact ih (h + 1) _ _ _ ⟨by omega, hS3.congr (fun j _ => by simp only [wrN, wr1]; rw [if_neg (by omega), if_neg (by omega), if_neg (by assumption)]), hF1.up⟩
            · have e1 : wrN (mvN v (v 2)) h (5 + (h + 1)) - 1 = 0 := by omega
              rw [e1] at hS3 ⊢
              refine x_aload_n dX12_oneHour_129 rfl ?_
              refine x_iload_n dX12_oneHour_130 rfl ?_
              refine q_X12_194 (m_breaks (q := h + 1) hS3 (hw1.setS (by omega) (by omega) (by omega)) (by omega) (by rw [sv_ne _ _ (by omega)]; omega)) dX12_oneHour_131 rfl ?_
              rintro _ M4 ⟨rfl, hS4, hF4⟩
              refine y_iinc dX12_oneHour_134 rfl ?_
              refine x_goto 64 dX12_oneHour_137 ?_
              first
                | exact ih (h + 1) _ _ _ ⟨by omega, hS2.congr (fun j _ => by simp only [wrN, wr1]; rw [if_pos (by assumption)]), hF1.tr hF2⟩
                | exact ih (h + 1) _ _ _ ⟨by omega, hS1.congr (fun j _ => by simp only [wrN, wr1]; rw [if_neg (by omega), if_pos (by assumption)]), hF1⟩
                | exact ih (h + 1) _ _ _ ⟨by omega, hS4.congr (fun j _ => by simp only [wrN, wr1]; rw [if_neg (by omega), if_neg (by omega), if_pos (by assumption)]), hF1.up.tr hF4⟩
                | exact ih (h + 1) _ _ _ ⟨by omega, hS3.congr (fun j _ => by simp only [wrN, wr1]; rw [if_neg (by omega), if_neg (by omega), if_neg (by assumption)]), hF1.up⟩
        · refine x_aload_n dX12_oneHour_97 rfl ?_
          refine x_iload_n dX12_oneHour_98 rfl ?_
          refine q_X12_194 (m_breaks (q := h + 1) hS1 hw1 (by omega) (by omega)) dX12_oneHour_99 rfl ?_
          rintro _ M2 ⟨rfl, hS2, hF2⟩
          refine x_goto 134 dX12_oneHour_102 ?_
          refine y_iinc dX12_oneHour_134 rfl ?_
          refine x_goto 64 dX12_oneHour_137 ?_
          first
            | exact ih (h + 1) _ _ _ ⟨by omega, hS2.congr (fun j _ => by simp only [wrN, wr1]; rw [if_pos (by assumption)]), hF1.tr hF2⟩
            | exact ih (h + 1) _ _ _ ⟨by omega, hS1.congr (fun j _ => by simp only [wrN, wr1]; rw [if_neg (by omega), if_pos (by assumption)]), hF1⟩
            | exact ih (h + 1) _ _ _ ⟨by omega, hS4.congr (fun j _ => by simp only [wrN, wr1]; rw [if_neg (by omega), if_neg (by omega), if_pos (by assumption)]), hF1.up.tr hF4⟩
            | exact ih (h + 1) _ _ _ ⟨by omega, hS3.congr (fun j _ => by simp only [wrN, wr1]; rw [if_neg (by omega), if_neg (by omega), if_neg (by assumption)]), hF1.up⟩
  have key1 : ∀ (k : Nat) (g : Nat) (M1 : Mem), g + k = v 2 ∧ MsR M1 (mvN v g) ∧ FS M M1 → X (mkG p l e R s m args below meth c Ω (fun ro M' => ro = none ∧ MsR M' (hrV v) ∧ FS M M')) Ω RX12 cX12_oneHour 4 8 none 2 [some (.ref (Ω.2.2 34)), some (.int (nI g)), none, none] [] M1 := by
    intro k
    induction k with
    | zero =>
      intro g M1 hk
      obtain ⟨hk, hS1, hF1⟩ := hk
      have hI1 := hI.mvs g (by omega)
      have hw1 := hI1.1
      have hn1 := hw1.nums
      have e2 : mvN v g 2 = v 2 := mvN_2 g
      refine x_iload_n dX12_oneHour_2 rfl ?_
      refine x_aload_n dX12_oneHour_3 rfl ?_
      refine g_X12_19 dX12_oneHour_4 ?_
      refine y_iconst (a := 2) dX12_oneHour_7 rfl ?_
      refine x_ial dX12_oneHour_8 (⟨by decide, rfl, rfl, by decide⟩ : Ar 38 45) (by omega) ?_
      rw [hS1.at (by omega), e2]
      refine y_icmp_ge 62 dX12_oneHour_9 (by omega) (by omega) (fun h_9 => ?_) (fun h_9 => ?_)
      · obtain rfl : g = v 2 := by omega
        refine y_iconst (a := 1) dX12_oneHour_62 rfl ?_
        refine x_istore_n dX12_oneHour_63 ?_
        exact key2 _ 0 _ _ _ ⟨Nat.zero_add _, hS1, hF1⟩
      · exfalso; omega
    | succ k ih =>
      intro g M1 hk
      obtain ⟨hk, hS1, hF1⟩ := hk
      have hI1 := hI.mvs g (by omega)
      have hw1 := hI1.1
      have hn1 := hw1.nums
      have e2 : mvN v g 2 = v 2 := mvN_2 g
      refine x_iload_n dX12_oneHour_2 rfl ?_
      refine x_aload_n dX12_oneHour_3 rfl ?_
      refine g_X12_19 dX12_oneHour_4 ?_
      refine y_iconst (a := 2) dX12_oneHour_7 rfl ?_
      refine x_ial dX12_oneHour_8 (⟨by decide, rfl, rfl, by decide⟩ : Ar 38 45) (by omega) ?_
      rw [hS1.at (by omega), e2]
      refine y_icmp_ge 62 dX12_oneHour_9 (by omega) (by omega) (fun h_9 => ?_) (fun h_9 => ?_)
      · obtain rfl : g = v 2 := by omega
        refine y_iconst (a := 1) dX12_oneHour_62 rfl ?_
        refine x_istore_n dX12_oneHour_63 ?_
        exact key2 _ 0 _ _ _ ⟨Nat.zero_add _, hS1, hF1⟩
      · have hgo := hw1.goer (g := g) (by omega)
        refine x_aload_n dX12_oneHour_12 rfl ?_
        refine x_iload_n dX12_oneHour_13 rfl ?_
        refine q_X12_184 (m_isAbove hS1 hw1 (by omega)) dX12_oneHour_14 rfl ?_
        rintro _ _ ⟨rfl, rfl⟩
        refine z_if_ne 56 dX12_oneHour_17 (fun h_17 => ?_) (fun h_17 => ?_)
        · refine y_iinc dX12_oneHour_56 rfl ?_
          refine x_goto 2 dX12_oneHour_59 ?_
          first
            | exact ih (g + 1) _ ⟨by omega, hS2.congr (fun j _ => by simp only [mvN]; rw [if_neg (by
                rintro (z | z | z)
                · exact Bool.false_ne_true (h_17.symm.trans z)
                · exact Bool.false_ne_true (h_30.symm.trans z)
                · omega)]), hF1.tr hF2⟩
            | exact ih (g + 1) _ ⟨by omega, hS1.congr (fun j _ => by simp only [mvN]; rw [if_pos (Or.inl (by assumption))]), hF1⟩
            | exact ih (g + 1) _ ⟨by omega, hS1.congr (fun j _ => by simp only [mvN]; rw [if_pos (Or.inr (Or.inl (by assumption)))]), hF1⟩
            | exact ih (g + 1) _ ⟨by omega, hS1.congr (fun j _ => by simp only [mvN]; rw [if_pos (Or.inr (Or.inr (by assumption)))]), hF1⟩
        · refine x_aload_n dX12_oneHour_20 rfl ?_
          refine g_X12_19 dX12_oneHour_21 ?_
          refine y_iconst (a := 4) dX12_oneHour_24 rfl ?_
          refine x_ial dX12_oneHour_25 (⟨by decide, rfl, rfl, by decide⟩ : Ar 38 45) (by omega) ?_
          rw [hS1.at (by omega)]
          refine x_iload_n dX12_oneHour_26 rfl ?_
          refine q_X12_174 (m_has (by omega) (by omega)) dX12_oneHour_27 rfl ?_
          rintro _ _ ⟨rfl, rfl⟩
          refine z_if_ne 56 dX12_oneHour_30 (fun h_30 => ?_) (fun h_30 => ?_)
          · refine y_iinc dX12_oneHour_56 rfl ?_
            refine x_goto 2 dX12_oneHour_59 ?_
            first
              | exact ih (g + 1) _ ⟨by omega, hS2.congr (fun j _ => by simp only [mvN]; rw [if_neg (by
                  rintro (z | z | z)
                  · exact Bool.false_ne_true (h_17.symm.trans z)
                  · exact Bool.false_ne_true (h_30.symm.trans z)
                  · omega)]), hF1.tr hF2⟩
              | exact ih (g + 1) _ ⟨by omega, hS1.congr (fun j _ => by simp only [mvN]; rw [if_pos (Or.inl (by assumption))]), hF1⟩
              | exact ih (g + 1) _ ⟨by omega, hS1.congr (fun j _ => by simp only [mvN]; rw [if_pos (Or.inr (Or.inl (by assumption)))]), hF1⟩
              | exact ih (g + 1) _ ⟨by omega, hS1.congr (fun j _ => by simp only [mvN]; rw [if_pos (Or.inr (Or.inr (by assumption)))]), hF1⟩
          · refine x_aload_n dX12_oneHour_33 rfl ?_
            refine g_X12_19 dX12_oneHour_34 ?_
            refine x_bipush (v := nI 27) dX12_oneHour_37 rfl ?_
            refine x_iload_n dX12_oneHour_39 rfl ?_
            refine y_iadd dX12_oneHour_40 ?_
            refine x_ial dX12_oneHour_41 (⟨by decide, rfl, rfl, by decide⟩ : Ar 38 45) (by omega) ?_
            rw [hS1.at (by omega)]
            refine x_aload_n dX12_oneHour_42 rfl ?_
            refine g_X12_19 dX12_oneHour_43 ?_
            refine y_iconst (a := 3) dX12_oneHour_46 rfl ?_
            refine x_ial dX12_oneHour_47 (⟨by decide, rfl, rfl, by decide⟩ : Ar 38 45) (by omega) ?_
            rw [hS1.at (by omega)]
            refine y_icmp_gt 56 dX12_oneHour_48 (by omega) (by omega) (fun h_48 => ?_) (fun h_48 => ?_)
            · refine y_iinc dX12_oneHour_56 rfl ?_
              refine x_goto 2 dX12_oneHour_59 ?_
              first
                | exact ih (g + 1) _ ⟨by omega, hS2.congr (fun j _ => by simp only [mvN]; rw [if_neg (by
                    rintro (z | z | z)
                    · exact Bool.false_ne_true (h_17.symm.trans z)
                    · exact Bool.false_ne_true (h_30.symm.trans z)
                    · omega)]), hF1.tr hF2⟩
                | exact ih (g + 1) _ ⟨by omega, hS1.congr (fun j _ => by simp only [mvN]; rw [if_pos (Or.inl (by assumption))]), hF1⟩
                | exact ih (g + 1) _ ⟨by omega, hS1.congr (fun j _ => by simp only [mvN]; rw [if_pos (Or.inr (Or.inl (by assumption)))]), hF1⟩
                | exact ih (g + 1) _ ⟨by omega, hS1.congr (fun j _ => by simp only [mvN]; rw [if_pos (Or.inr (Or.inr (by assumption)))]), hF1⟩
            · refine x_aload_n dX12_oneHour_51 rfl ?_
              refine x_iload_n dX12_oneHour_52 rfl ?_
              refine q_X12_191 (m_move hS1 hI1 (by omega) (by simp only [abv, decide_eq_false_iff_not] at h_17; omega)) dX12_oneHour_53 rfl ?_
              rintro _ M2 ⟨rfl, hS2, hF2⟩
              refine y_iinc dX12_oneHour_56 rfl ?_
              refine x_goto 2 dX12_oneHour_59 ?_
              first
                | exact ih (g + 1) _ ⟨by omega, hS2.congr (fun j _ => by simp only [mvN]; rw [if_neg (by
                    rintro (z | z | z)
                    · exact Bool.false_ne_true (h_17.symm.trans z)
                    · exact Bool.false_ne_true (h_30.symm.trans z)
                    · omega)]), hF1.tr hF2⟩
                | exact ih (g + 1) _ ⟨by omega, hS1.congr (fun j _ => by simp only [mvN]; rw [if_pos (Or.inl (by assumption))]), hF1⟩
                | exact ih (g + 1) _ ⟨by omega, hS1.congr (fun j _ => by simp only [mvN]; rw [if_pos (Or.inr (Or.inl (by assumption)))]), hF1⟩
                | exact ih (g + 1) _ ⟨by omega, hS1.congr (fun j _ => by simp only [mvN]; rw [if_pos (Or.inr (Or.inr (by assumption)))]), hF1⟩
  refine y_iconst (a := 0) dX12_oneHour_0 rfl ?_
  refine x_istore_n dX12_oneHour_1 ?_
  exact key1 _ 0 _ ⟨Nat.zero_add _, hS, FS.rf⟩
