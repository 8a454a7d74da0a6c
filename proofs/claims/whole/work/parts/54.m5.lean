/-! THE REFERENCE: queries, second part (laid by gen_m5.py) -/
set_option maxRecDepth 100000 in
set_option maxHeartbeats 4000000 in
theorem m_first {Ω : Om} {l : Launch} {M : Mem} {σ : Sg} (hM : IM M σ) (hW : SgW σ) {w : Int32} : Ct Ω l yX12_first cX12_first 6 9 (some .int) [.ref (Ω.2.2 34), .int w] M (fun ro M' => ro = some (.int (R_first σ.v w)) ∧ IM M' σ ∧ FrC M M') := by
  have hS := hM.ms
  have hLv : Lv σ.v := hW.2.2.1
  have hw := hLv.wv
  have hn := hw.nums
  have hth := hM.there
  refine ct_of (by decide) (Nat.le_of_ble_eq_true rfl) ?_
  intro p e R s m args below meth c
  have low : ∀ (a h b : Nat) (M9 : Mem), a < 512 → ¬ a = 0 → R_first σ.v w = (if w = nI 1 then nI h else nI (lob a 9)) → (w = nI 0 ∨ w = nI 1) → IM M9 σ ∧ FrC M M9 → ∀ (k q : Nat), q + k = lob a 9 → X (mkG p l e R s m args below meth c Ω (fun ro M' => ro = some (.int (R_first σ.v w)) ∧ IM M' σ ∧ FrC M M')) Ω RX12 cX12_first 6 9 (some .int) 80 [some (.ref (Ω.2.2 34)), some (.int w), some (.int (nI b)), some (.int (nI h)), some (.int (nI a)), some (.int (nI q))] [] M9 := by
    intro a h b M9 ha ha0 hR hw01 hM9 k
    obtain ⟨l1, l2, l3⟩ := lob_low a ha ha0
    induction k with
    | zero =>
      intro q hk
      obtain rfl : q = lob a 9 := by omega
      refine x_iload dX12_first_80 rfl ?_
      refine x_iload dX12_first_82 rfl ?_
      refine q_X12_174 (m_has (by omega) (by omega)) dX12_first_84 rfl ?_
      rintro _ _ ⟨rfl, rfl⟩
      refine z_if_ne 96 dX12_first_87 (fun h_87 => ?_) (fun h_87 => ?_)
      · refine x_iload_n dX12_first_96 rfl ?_
        refine x_if_ne 105 dX12_first_97 (fun h_97 => ?_) (fun h_97 => ?_)
        · refine x_iload_n dX12_first_105 rfl ?_
          refine x_iret dX12_first_106 ?_
          rcases hw01 with rfl | rfl
          · first
              | (exact absurd rfl h_97)
              | (rw [if_neg (by decide +kernel)] at hR; rw [hR]; exact ⟨rfl, hM9⟩)
          · first
              | (exact absurd h_97 (by decide +kernel))
              | (rw [if_pos rfl] at hR; rw [hR]; exact ⟨rfl, hM9⟩)
        · refine x_iload dX12_first_100 rfl ?_
          refine x_goto 106 dX12_first_102 ?_
          refine x_iret dX12_first_106 ?_
          rcases hw01 with rfl | rfl
          · first
              | (exact absurd rfl h_97)
              | (rw [if_neg (by decide +kernel)] at hR; rw [hR]; exact ⟨rfl, hM9⟩)
          · first
              | (exact absurd h_97 (by decide +kernel))
              | (rw [if_pos rfl] at hR; rw [hR]; exact ⟨rfl, hM9⟩)
      · exact absurd (l1.symm.trans h_87) (by decide)
    | succ k ih =>
      intro q hk
      refine x_iload dX12_first_80 rfl ?_
      refine x_iload dX12_first_82 rfl ?_
      refine q_X12_174 (m_has (by omega) (by omega)) dX12_first_84 rfl ?_
      rintro _ _ ⟨rfl, rfl⟩
      refine z_if_ne 96 dX12_first_87 (fun h_87 => ?_) (fun h_87 => ?_)
      · exact absurd ((l3 q (by omega)).symm.trans h_87) (by decide)
      · refine y_iinc dX12_first_90 rfl ?_
        refine x_goto 80 dX12_first_93 ?_
        exact ih (q + 1) (by omega)
  have key : Iv σ.v → σ.v 3 ≤ 999 → inB w 0 1 = true → ∀ (k h : Nat) (M1 : Mem), h + k = 60 ∧ MsR M1 (hrs σ.v h) ∧ AsR M1 σ.v ∧ FQ M M1 ∧ (∀ i, i < h → (fun n => !decide (brkS (hrs σ.v n) &&& snd σ.v = 0)) i = false) → X (mkG p l e R s m args below meth c Ω (fun ro M' => ro = some (.int (R_first σ.v w)) ∧ IM M' σ ∧ FrC M M')) Ω RX12 cX12_first 6 9 (some .int) 31 [some (.ref (Ω.2.2 34)), some (.int w), some (.int (nI (brkS σ.v))), some (.int (nI h)), none, none] [] M1 := by
    intro hI h999 hin k
    have hw01 : w = nI 0 ∨ w = nI 1 := by
      obtain ⟨z, _, _, rfl⟩ := inB_nI hin (by decide)
      rcases (show z = 0 ∨ z = 1 by omega) with rfl | rfl
      · exact Or.inl rfl
      · exact Or.inr rfl
    have h00 : ¬ σ.v 0 = 0 := by have := hI.2.1; omega
    have hb0 := brkS_lt hw
    induction k with
    | zero =>
      intro h M1 hk
      obtain ⟨hk, hS1, hA1, hF1, hal⟩ := hk
      have hne := hrs_ne hw h (by omega)
      have hI1 := hrs_Iv hI h (by omega)
      have hb1 := brkS_lt hne.1
      obtain ⟨q1, q2⟩ := brk_more hw (n := h) (by omega)
      have hand : brkS (hrs σ.v h) &&& snd σ.v ≤ brkS (hrs σ.v h) := Nat.and_le_left
      refine x_aload_n dX12_first_31 rfl ?_
      refine q_X12_217 (m_brokenSet hS1 hne.1) dX12_first_32 rfl ?_
      rintro _ _ ⟨rfl, rfl⟩
      refine x_iload_n dX12_first_35 rfl ?_
      refine y_icmp_ne 55 dX12_first_36 (by omega) (by omega) (fun h_36 => ?_) (fun h_36 => ?_)
      · refine x_aload_n dX12_first_55 rfl ?_
        refine q_X12_217 (m_brokenSet hS1 hne.1) dX12_first_56 rfl ?_
        rintro _ _ ⟨rfl, rfl⟩
        refine x_iload_n dX12_first_59 rfl ?_
        refine x_iconst (v := -1) dX12_first_60 rfl ?_
        refine x_ixor dX12_first_61 ?_
        refine x_iand dX12_first_62 ?_
        rw [snd_and hb1, q1]
        refine x_istore dX12_first_63 ?_
        refine x_aload_n dX12_first_65 rfl ?_
        refine q_X12_223 (m_takeBack hA1) dX12_first_66 rfl ?_
        rintro _ M9 ⟨rfl, hS9, hF9⟩
        refine x_iload dX12_first_69 rfl ?_
        refine y_if_ne 77 dX12_first_71 (by omega) (fun h_71 => ?_) (fun h_71 => ?_)
        · refine y_iconst (a := 0) dX12_first_77 rfl ?_
          refine x_istore dX12_first_78 ?_
          have hf : fnd (fun n => !decide (brkS (hrs σ.v n) &&& snd σ.v = 0)) 60 0 = some h := fnd_some (by omega) (by omega) (by show (!decide (brkS (hrs σ.v h) &&& snd σ.v = 0)) = true; simp [h_71]) (fun i _ hi => hal i hi)
          exact low _ h _ _ (by omega) h_71 (by unfold R_first; rw [if_neg h00, if_pos hin, hf]) hw01 (hM.q (hF1.s hF9) hS9) _ 0 (Nat.zero_add _)
        · have hf : fnd (fun n => !decide (brkS (hrs σ.v n) &&& snd σ.v = 0)) 60 0 = none := fnd_none (fun i _ hi => by
            rcases Nat.lt_or_ge i h with z | z
            · exact hal i z
            · have hh : ¬ h < 60 := fun z2 => by first | (exact h_36 (q2.mpr h_71)) | omega
              obtain rfl : i = h := by omega
              show (!decide (brkS (hrs σ.v i) &&& snd σ.v = 0)) = false
              simp [h_71])
          refine x_ldc dX12_first_74 k_X12_167 ?_
          refine x_iret dX12_first_76 ?_
          refine ⟨congrArg (fun z => some (Value.int z)) ?_, hM.q (hF1.s hF9) hS9⟩
          unfold R_first
          rw [if_neg h00, if_pos hin, hf]
      · refine x_iload_n dX12_first_39 rfl ?_
        refine x_bipush (v := nI 60) dX12_first_40 rfl ?_
        refine y_icmp_ge 55 dX12_first_42 (by omega) (by omega) (fun h_42 => ?_) (fun h_42 => ?_)
        · refine x_aload_n dX12_first_55 rfl ?_
          refine q_X12_217 (m_brokenSet hS1 hne.1) dX12_first_56 rfl ?_
          rintro _ _ ⟨rfl, rfl⟩
          refine x_iload_n dX12_first_59 rfl ?_
          refine x_iconst (v := -1) dX12_first_60 rfl ?_
          refine x_ixor dX12_first_61 ?_
          refine x_iand dX12_first_62 ?_
          rw [snd_and hb1, q1]
          refine x_istore dX12_first_63 ?_
          refine x_aload_n dX12_first_65 rfl ?_
          refine q_X12_223 (m_takeBack hA1) dX12_first_66 rfl ?_
          rintro _ M9 ⟨rfl, hS9, hF9⟩
          refine x_iload dX12_first_69 rfl ?_
          refine y_if_ne 77 dX12_first_71 (by omega) (fun h_71 => ?_) (fun h_71 => ?_)
          · refine y_iconst (a := 0) dX12_first_77 rfl ?_
            refine x_istore dX12_first_78 ?_
            have hf : fnd (fun n => !decide (brkS (hrs σ.v n) &&& snd σ.v = 0)) 60 0 = some h := fnd_some (by omega) (by omega) (by show (!decide (brkS (hrs σ.v h) &&& snd σ.v = 0)) = true; simp [h_71]) (fun i _ hi => hal i hi)
            exact low _ h _ _ (by omega) h_71 (by unfold R_first; rw [if_neg h00, if_pos hin, hf]) hw01 (hM.q (hF1.s hF9) hS9) _ 0 (Nat.zero_add _)
          · have hf : fnd (fun n => !decide (brkS (hrs σ.v n) &&& snd σ.v = 0)) 60 0 = none := fnd_none (fun i _ hi => by
              rcases Nat.lt_or_ge i h with z | z
              · exact hal i z
              · have hh : ¬ h < 60 := fun z2 => by first | (exact h_36 (q2.mpr h_71)) | omega
                obtain rfl : i = h := by omega
                show (!decide (brkS (hrs σ.v i) &&& snd σ.v = 0)) = false
                simp [h_71])
            refine x_ldc dX12_first_74 k_X12_167 ?_
            refine x_iret dX12_first_76 ?_
            refine ⟨congrArg (fun z => some (Value.int z)) ?_, hM.q (hF1.s hF9) hS9⟩
            unfold R_first
            rw [if_neg h00, if_pos hin, hf]
        · exfalso; omega
    | succ k ih =>
      intro h M1 hk
      obtain ⟨hk, hS1, hA1, hF1, hal⟩ := hk
      have hne := hrs_ne hw h (by omega)
      have hI1 := hrs_Iv hI h (by omega)
      have hb1 := brkS_lt hne.1
      obtain ⟨q1, q2⟩ := brk_more hw (n := h) (by omega)
      have hand : brkS (hrs σ.v h) &&& snd σ.v ≤ brkS (hrs σ.v h) := Nat.and_le_left
      refine x_aload_n dX12_first_31 rfl ?_
      refine q_X12_217 (m_brokenSet hS1 hne.1) dX12_first_32 rfl ?_
      rintro _ _ ⟨rfl, rfl⟩
      refine x_iload_n dX12_first_35 rfl ?_
      refine y_icmp_ne 55 dX12_first_36 (by omega) (by omega) (fun h_36 => ?_) (fun h_36 => ?_)
      · refine x_aload_n dX12_first_55 rfl ?_
        refine q_X12_217 (m_brokenSet hS1 hne.1) dX12_first_56 rfl ?_
        rintro _ _ ⟨rfl, rfl⟩
        refine x_iload_n dX12_first_59 rfl ?_
        refine x_iconst (v := -1) dX12_first_60 rfl ?_
        refine x_ixor dX12_first_61 ?_
        refine x_iand dX12_first_62 ?_
        rw [snd_and hb1, q1]
        refine x_istore dX12_first_63 ?_
        refine x_aload_n dX12_first_65 rfl ?_
        refine q_X12_223 (m_takeBack hA1) dX12_first_66 rfl ?_
        rintro _ M9 ⟨rfl, hS9, hF9⟩
        refine x_iload dX12_first_69 rfl ?_
        refine y_if_ne 77 dX12_first_71 (by omega) (fun h_71 => ?_) (fun h_71 => ?_)
        · refine y_iconst (a := 0) dX12_first_77 rfl ?_
          refine x_istore dX12_first_78 ?_
          have hf : fnd (fun n => !decide (brkS (hrs σ.v n) &&& snd σ.v = 0)) 60 0 = some h := fnd_some (by omega) (by omega) (by show (!decide (brkS (hrs σ.v h) &&& snd σ.v = 0)) = true; simp [h_71]) (fun i _ hi => hal i hi)
          exact low _ h _ _ (by omega) h_71 (by unfold R_first; rw [if_neg h00, if_pos hin, hf]) hw01 (hM.q (hF1.s hF9) hS9) _ 0 (Nat.zero_add _)
        · have hf : fnd (fun n => !decide (brkS (hrs σ.v n) &&& snd σ.v = 0)) 60 0 = none := fnd_none (fun i _ hi => by
            rcases Nat.lt_or_ge i h with z | z
            · exact hal i z
            · have hh : ¬ h < 60 := fun z2 => by first | (exact h_36 (q2.mpr h_71)) | omega
              obtain rfl : i = h := by omega
              show (!decide (brkS (hrs σ.v i) &&& snd σ.v = 0)) = false
              simp [h_71])
          refine x_ldc dX12_first_74 k_X12_167 ?_
          refine x_iret dX12_first_76 ?_
          refine ⟨congrArg (fun z => some (Value.int z)) ?_, hM.q (hF1.s hF9) hS9⟩
          unfold R_first
          rw [if_neg h00, if_pos hin, hf]
      · refine x_iload_n dX12_first_39 rfl ?_
        refine x_bipush (v := nI 60) dX12_first_40 rfl ?_
        refine y_icmp_ge 55 dX12_first_42 (by omega) (by omega) (fun h_42 => ?_) (fun h_42 => ?_)
        · refine x_aload_n dX12_first_55 rfl ?_
          refine q_X12_217 (m_brokenSet hS1 hne.1) dX12_first_56 rfl ?_
          rintro _ _ ⟨rfl, rfl⟩
          refine x_iload_n dX12_first_59 rfl ?_
          refine x_iconst (v := -1) dX12_first_60 rfl ?_
          refine x_ixor dX12_first_61 ?_
          refine x_iand dX12_first_62 ?_
          rw [snd_and hb1, q1]
          refine x_istore dX12_first_63 ?_
          refine x_aload_n dX12_first_65 rfl ?_
          refine q_X12_223 (m_takeBack hA1) dX12_first_66 rfl ?_
          rintro _ M9 ⟨rfl, hS9, hF9⟩
          refine x_iload dX12_first_69 rfl ?_
          refine y_if_ne 77 dX12_first_71 (by omega) (fun h_71 => ?_) (fun h_71 => ?_)
          · refine y_iconst (a := 0) dX12_first_77 rfl ?_
            refine x_istore dX12_first_78 ?_
            have hf : fnd (fun n => !decide (brkS (hrs σ.v n) &&& snd σ.v = 0)) 60 0 = some h := fnd_some (by omega) (by omega) (by show (!decide (brkS (hrs σ.v h) &&& snd σ.v = 0)) = true; simp [h_71]) (fun i _ hi => hal i hi)
            exact low _ h _ _ (by omega) h_71 (by unfold R_first; rw [if_neg h00, if_pos hin, hf]) hw01 (hM.q (hF1.s hF9) hS9) _ 0 (Nat.zero_add _)
          · have hf : fnd (fun n => !decide (brkS (hrs σ.v n) &&& snd σ.v = 0)) 60 0 = none := fnd_none (fun i _ hi => by
              rcases Nat.lt_or_ge i h with z | z
              · exact hal i z
              · have hh : ¬ h < 60 := fun z2 => by first | (exact h_36 (q2.mpr h_71)) | omega
                obtain rfl : i = h := by omega
                show (!decide (brkS (hrs σ.v i) &&& snd σ.v = 0)) = false
                simp [h_71])
            refine x_ldc dX12_first_74 k_X12_167 ?_
            refine x_iret dX12_first_76 ?_
            refine ⟨congrArg (fun z => some (Value.int z)) ?_, hM.q (hF1.s hF9) hS9⟩
            unfold R_first
            rw [if_neg h00, if_pos hin, hf]
        · refine x_aload_n dX12_first_45 rfl ?_
          refine q_X12_203 (m_oneHour hS1 hI1) dX12_first_46 rfl ?_
          rintro _ M2 ⟨rfl, hS2, hF2⟩
          refine y_iinc dX12_first_49 rfl ?_
          refine x_goto 31 dX12_first_52 ?_
          refine ih (h + 1) _ ⟨by omega, hS2, hA1.keep hF2, hF1.s hF2, fun i hi => ?_⟩
          rcases Nat.lt_or_ge i h with z | z
          · exact hal i z
          · obtain rfl : i = h := by omega
            show (!decide (brkS (hrs σ.v i) &&& snd σ.v = 0)) = false
            simp [q2.mp h_36]
  refine x_aload_n dX12_first_0 rfl ?_
  refine g_X12_147 dX12_first_1 ?_
  rw [hth]
  refine z_if_ne 10 dX12_first_4 (fun h_4 => ?_) (fun h_4 => ?_)
  · simp only [decide_eq_true_eq] at h_4
    obtain ⟨hI, h999⟩ : Iv σ.v ∧ σ.v 3 ≤ 999 := by
      rcases hLv with z | z
      · exact z
      · exact absurd (z 0 (by decide)) h_4
    refine x_iload_n dX12_first_10 rfl ?_
    refine q_X12_231 (m_isWhat) dX12_first_11 rfl ?_
    rintro _ _ ⟨rfl, rfl⟩
    refine z_if_ne 20 dX12_first_14 (fun h_14 => ?_) (fun h_14 => ?_)
    · refine x_aload_n dX12_first_20 rfl ?_
      refine q_X12_228 (m_putAside hS) dX12_first_21 rfl ?_
      rintro _ M0 ⟨rfl, hA0, hF0⟩
      have hS0 := hS.fc hF0 (by decide)
      refine x_aload_n dX12_first_24 rfl ?_
      refine q_X12_217 (m_brokenSet hS0 hw) dX12_first_25 rfl ?_
      rintro _ _ ⟨rfl, rfl⟩
      refine x_istore_n dX12_first_28 ?_
      refine y_iconst (a := 0) dX12_first_29 rfl ?_
      refine x_istore_n dX12_first_30 ?_
      exact key hI h999 h_14 60 0 _ ⟨rfl, hS0, hA0, FQ.rf.c hF0 (by omega), fun i hi => absurd hi (Nat.not_lt_zero _)⟩
    · refine x_ldc dX12_first_17 k_X12_70 ?_
      refine x_iret dX12_first_19 ?_
      refine ⟨congrArg (fun z => some (Value.int z)) ?_, hM, FrC.rf⟩
      first
        | (simp [R_first, *]; done)
        | (simp only [decide_eq_false_iff_not] at h_4
           simp [R_first, Decidable.not_not.mp h_4])
  · refine x_ldc dX12_first_7 k_X12_197 ?_
    refine x_iret dX12_first_9 ?_
    refine ⟨congrArg (fun z => some (Value.int z)) ?_, hM, FrC.rf⟩
    first
      | (simp [R_first, *]; done)
      | (simp only [decide_eq_false_iff_not] at h_4
         simp [R_first, Decidable.not_not.mp h_4])
set_option maxRecDepth 100000 in
set_option maxHeartbeats 4000000 in
theorem m_isKind {Ω : Om} {l : Launch} {M : Mem} {a b : Nat} (ha : a ≤ 5) (hb : b ≤ 5) : Ct Ω l yX12_isKind cX12_isKind 2 1 (some .boolean) [.int (nI a), .int (nI b)] M (fun ro M' => ro = some (.int (bI (decide (b = 0 ∨ b = a ∨ (b = 1 ∧ a ≤ 3) ∨ (b = 4 ∧ a = 5))))) ∧ M = M') := by
  refine ct_of (by decide) (Nat.le_of_ble_eq_true rfl) ?_
  intro p e R s m args below meth c
  refine x_iload_n dX12_isKind_0 rfl ?_
  refine y_if_eq 29 dX12_isKind_1 (by omega) (fun h_1 => ?_) (fun h_1 => ?_)
  · refine y_iconst (a := 1) dX12_isKind_29 rfl ?_
    refine x_goto 34 dX12_isKind_30 ?_
    first | refine z_iret dX12_isKind_34 ?_ | refine z_iret0 dX12_isKind_34 ?_ | refine z_iret1 dX12_isKind_34 ?_
    refine ⟨congrArg (fun z => some (Value.int (bI z))) ?_, rfl⟩
    first
      | (symm; rw [decide_eq_true_eq]; omega)
      | (symm; rw [decide_eq_false_iff_not]; omega)
  · refine x_iload_n dX12_isKind_4 rfl ?_
    refine x_iload_n dX12_isKind_5 rfl ?_
    refine y_icmp_eq 29 dX12_isKind_6 (by omega) (by omega) (fun h_6 => ?_) (fun h_6 => ?_)
    · refine y_iconst (a := 1) dX12_isKind_29 rfl ?_
      refine x_goto 34 dX12_isKind_30 ?_
      first | refine z_iret dX12_isKind_34 ?_ | refine z_iret0 dX12_isKind_34 ?_ | refine z_iret1 dX12_isKind_34 ?_
      refine ⟨congrArg (fun z => some (Value.int (bI z))) ?_, rfl⟩
      first
        | (symm; rw [decide_eq_true_eq]; omega)
        | (symm; rw [decide_eq_false_iff_not]; omega)
    · refine x_iload_n dX12_isKind_9 rfl ?_
      refine y_iconst (a := 1) dX12_isKind_10 rfl ?_
      refine y_icmp_ne 19 dX12_isKind_11 (by omega) (by omega) (fun h_11 => ?_) (fun h_11 => ?_)
      · refine x_iload_n dX12_isKind_19 rfl ?_
        refine y_iconst (a := 4) dX12_isKind_20 rfl ?_
        refine y_icmp_ne 33 dX12_isKind_21 (by omega) (by omega) (fun h_21 => ?_) (fun h_21 => ?_)
        · refine y_iconst (a := 0) dX12_isKind_33 rfl ?_
          first | refine z_iret dX12_isKind_34 ?_ | refine z_iret0 dX12_isKind_34 ?_ | refine z_iret1 dX12_isKind_34 ?_
          refine ⟨congrArg (fun z => some (Value.int (bI z))) ?_, rfl⟩
          first
            | (symm; rw [decide_eq_true_eq]; omega)
            | (symm; rw [decide_eq_false_iff_not]; omega)
        · refine x_iload_n dX12_isKind_24 rfl ?_
          refine y_iconst (a := 5) dX12_isKind_25 rfl ?_
          refine y_icmp_ne 33 dX12_isKind_26 (by omega) (by omega) (fun h_26 => ?_) (fun h_26 => ?_)
          · refine y_iconst (a := 0) dX12_isKind_33 rfl ?_
            first | refine z_iret dX12_isKind_34 ?_ | refine z_iret0 dX12_isKind_34 ?_ | refine z_iret1 dX12_isKind_34 ?_
            refine ⟨congrArg (fun z => some (Value.int (bI z))) ?_, rfl⟩
            first
              | (symm; rw [decide_eq_true_eq]; omega)
              | (symm; rw [decide_eq_false_iff_not]; omega)
          · refine y_iconst (a := 1) dX12_isKind_29 rfl ?_
            refine x_goto 34 dX12_isKind_30 ?_
            first | refine z_iret dX12_isKind_34 ?_ | refine z_iret0 dX12_isKind_34 ?_ | refine z_iret1 dX12_isKind_34 ?_
            refine ⟨congrArg (fun z => some (Value.int (bI z))) ?_, rfl⟩
            first
              | (symm; rw [decide_eq_true_eq]; omega)
              | (symm; rw [decide_eq_false_iff_not]; omega)
      · refine x_iload_n dX12_isKind_14 rfl ?_
        refine y_iconst (a := 4) dX12_isKind_15 rfl ?_
        refine y_icmp_lt 29 dX12_isKind_16 (by omega) (by omega) (fun h_16 => ?_) (fun h_16 => ?_)
        · refine y_iconst (a := 1) dX12_isKind_29 rfl ?_
          refine x_goto 34 dX12_isKind_30 ?_
          first | refine z_iret dX12_isKind_34 ?_ | refine z_iret0 dX12_isKind_34 ?_ | refine z_iret1 dX12_isKind_34 ?_
          refine ⟨congrArg (fun z => some (Value.int (bI z))) ?_, rfl⟩
          first
            | (symm; rw [decide_eq_true_eq]; omega)
            | (symm; rw [decide_eq_false_iff_not]; omega)
        · refine x_iload_n dX12_isKind_19 rfl ?_
          refine y_iconst (a := 4) dX12_isKind_20 rfl ?_
          refine y_icmp_ne 33 dX12_isKind_21 (by omega) (by omega) (fun h_21 => ?_) (fun h_21 => ?_)
          · refine y_iconst (a := 0) dX12_isKind_33 rfl ?_
            first | refine z_iret dX12_isKind_34 ?_ | refine z_iret0 dX12_isKind_34 ?_ | refine z_iret1 dX12_isKind_34 ?_
            refine ⟨congrArg (fun z => some (Value.int (bI z))) ?_, rfl⟩
            first
              | (symm; rw [decide_eq_true_eq]; omega)
              | (symm; rw [decide_eq_false_iff_not]; omega)
          · refine x_iload_n dX12_isKind_24 rfl ?_
            refine y_iconst (a := 5) dX12_isKind_25 rfl ?_
            refine y_icmp_ne 33 dX12_isKind_26 (by omega) (by omega) (fun h_26 => ?_) (fun h_26 => ?_)
            · refine y_iconst (a := 0) dX12_isKind_33 rfl ?_
              first | refine z_iret dX12_isKind_34 ?_ | refine z_iret0 dX12_isKind_34 ?_ | refine z_iret1 dX12_isKind_34 ?_
              refine ⟨congrArg (fun z => some (Value.int (bI z))) ?_, rfl⟩
              first
                | (symm; rw [decide_eq_true_eq]; omega)
                | (symm; rw [decide_eq_false_iff_not]; omega)
            · refine y_iconst (a := 1) dX12_isKind_29 rfl ?_
              refine x_goto 34 dX12_isKind_30 ?_
              first | refine z_iret dX12_isKind_34 ?_ | refine z_iret0 dX12_isKind_34 ?_ | refine z_iret1 dX12_isKind_34 ?_
              refine ⟨congrArg (fun z => some (Value.int (bI z))) ?_, rfl⟩
              first
                | (symm; rw [decide_eq_true_eq]; omega)
                | (symm; rw [decide_eq_false_iff_not]; omega)
set_option maxRecDepth 100000 in
set_option maxHeartbeats 4000000 in
theorem m_as_ {Ω : Om} {l : Launch} {M : Mem} {σ : Sg} (hM : IM M σ) (hW : SgW σ) {x k : Int32} : Ct Ω l yX12_as cX12_as 3 3 (some .int) [.ref (Ω.2.2 34), .int x, .int k] M (fun ro M' => ro = some (.int (R_as σ x k).1) ∧ IM M' (R_as σ x k).2 ∧ FrC M M') := by
  have hS := hM.ms
  have hLv : Lv σ.v := hW.2.2.1
  have hw := hLv.wv
  have hn := hw.nums
  have hth := hM.there
  refine ct_of (by decide) (Nat.le_of_ble_eq_true rfl) ?_
  intro p e R s m args below meth c
  refine x_aload_n dX12_as_0 rfl ?_
  refine x_iload_n dX12_as_1 rfl ?_
  refine q_X12_209 (m_isGoer hS (by omega)) dX12_as_2 rfl ?_
  rintro _ _ ⟨rfl, rfl⟩
  refine z_if_eq 20 dX12_as_5 (fun h_5 => ?_) (fun h_5 => ?_)
  · refine x_ldc dX12_as_20 k_X12_70 ?_
    refine x_iret dX12_as_22 ?_
    unfold R_as
    first
      | (rw [if_neg (by simp [*])]; exact ⟨rfl, hM, FrC.rf⟩)
      | (have hs := h_36
         simp only [decide_eq_true_eq] at hs
         rw [if_pos ⟨h_5, h_17⟩, if_pos (by rw [tg]; simp only [nI_eq (show b < 2 ^ 31 by omega) (show 0 < 2 ^ 31 by decide), nI_eq (show b < 2 ^ 31 by omega) (show σ.v (15 + g) < 2 ^ 31 by omega), nI_eq (show b < 2 ^ 31 by omega) (show 1 < 2 ^ 31 by decide), nI_eq (show b < 2 ^ 31 by omega) (show 4 < 2 ^ 31 by decide)]; exact hs)]
         exact ⟨rfl, hM.setSt _⟩)
      | (have hs := h_36
         simp only [decide_eq_false_iff_not] at hs
         rw [if_pos ⟨h_5, h_17⟩, if_neg (by rw [tg]; simp only [nI_eq (show b < 2 ^ 31 by omega) (show 0 < 2 ^ 31 by decide), nI_eq (show b < 2 ^ 31 by omega) (show σ.v (15 + g) < 2 ^ 31 by omega), nI_eq (show b < 2 ^ 31 by omega) (show 1 < 2 ^ 31 by decide), nI_eq (show b < 2 ^ 31 by omega) (show 4 < 2 ^ 31 by decide)]; exact hs)]
         exact ⟨rfl, hM.setSt _⟩)
  · obtain ⟨g, hg, rfl⟩ := inR_nI h_5 (by omega)
    obtain ⟨hI, h999⟩ := hLv.goer hg
    have tg := tN_nI (g := g) (by omega)
    have hgo := hw.goer hg
    refine x_iload_n dX12_as_8 rfl ?_
    refine x_i2l dX12_as_9 ?_
    refine x_lconst (v := lN 0) dX12_as_10 rfl ?_
    refine x_ldc2 (v := lN 5) dX12_as_11 k_X12_272 ?_
    refine q_X12_60 (m_inB (by decide) (by decide)) dX12_as_14 rfl ?_
    rintro _ _ ⟨rfl, rfl⟩
    refine z_if_ne 23 dX12_as_17 (fun h_17 => ?_) (fun h_17 => ?_)
    · obtain ⟨b, _, b2, rfl⟩ := inB_nI h_17 (by decide)
      refine x_aload_n dX12_as_23 rfl ?_
      refine g_X12_19 dX12_as_24 ?_
      refine x_bipush (v := nI 15) dX12_as_27 rfl ?_
      refine x_iload_n dX12_as_29 rfl ?_
      refine y_iadd dX12_as_30 ?_
      refine x_ial dX12_as_31 (⟨by decide, rfl, rfl, by decide⟩ : Ar 38 45) (by omega) ?_
      rw [hS.at (by omega)]
      refine x_iload_n dX12_as_32 rfl ?_
      refine q_X12_274 (m_isKind (by omega) (by omega)) dX12_as_33 rfl ?_
      rintro _ _ ⟨rfl, rfl⟩
      refine z_if_eq 47 dX12_as_36 (fun h_36 => ?_) (fun h_36 => ?_)
      · refine x_aload_n dX12_as_47 rfl ?_
        refine y_iconst (a := 3) dX12_as_48 rfl ?_
        refine q_X12_71 (m_find) dX12_as_49 rfl ?_
        rintro _ _ ⟨rfl, rfl⟩
        refine x_iret dX12_as_52 ?_
        unfold R_as
        first
          | (rw [if_neg (by simp [*])]; exact ⟨rfl, hM, FrC.rf⟩)
          | (have hs := h_36
             simp only [decide_eq_true_eq] at hs
             rw [if_pos ⟨h_5, h_17⟩, if_pos (by rw [tg]; simp only [nI_eq (show b < 2 ^ 31 by omega) (show 0 < 2 ^ 31 by decide), nI_eq (show b < 2 ^ 31 by omega) (show σ.v (15 + g) < 2 ^ 31 by omega), nI_eq (show b < 2 ^ 31 by omega) (show 1 < 2 ^ 31 by decide), nI_eq (show b < 2 ^ 31 by omega) (show 4 < 2 ^ 31 by decide)]; exact hs)]
             exact ⟨rfl, hM.setSt _⟩)
          | (have hs := h_36
             simp only [decide_eq_false_iff_not] at hs
             rw [if_pos ⟨h_5, h_17⟩, if_neg (by rw [tg]; simp only [nI_eq (show b < 2 ^ 31 by omega) (show 0 < 2 ^ 31 by decide), nI_eq (show b < 2 ^ 31 by omega) (show σ.v (15 + g) < 2 ^ 31 by omega), nI_eq (show b < 2 ^ 31 by omega) (show 1 < 2 ^ 31 by decide), nI_eq (show b < 2 ^ 31 by omega) (show 4 < 2 ^ 31 by decide)]; exact hs)]
             exact ⟨rfl, hM.setSt _⟩)
      · refine x_aload_n dX12_as_39 rfl ?_
        refine x_iload_n dX12_as_40 rfl ?_
        refine q_X12_75 (m_well) dX12_as_41 rfl ?_
        rintro _ _ ⟨rfl, rfl⟩
        refine x_goto 52 dX12_as_44 ?_
        refine x_iret dX12_as_52 ?_
        unfold R_as
        first
          | (rw [if_neg (by simp [*])]; exact ⟨rfl, hM, FrC.rf⟩)
          | (have hs := h_36
             simp only [decide_eq_true_eq] at hs
             rw [if_pos ⟨h_5, h_17⟩, if_pos (by rw [tg]; simp only [nI_eq (show b < 2 ^ 31 by omega) (show 0 < 2 ^ 31 by decide), nI_eq (show b < 2 ^ 31 by omega) (show σ.v (15 + g) < 2 ^ 31 by omega), nI_eq (show b < 2 ^ 31 by omega) (show 1 < 2 ^ 31 by decide), nI_eq (show b < 2 ^ 31 by omega) (show 4 < 2 ^ 31 by decide)]; exact hs)]
             exact ⟨rfl, hM.setSt _⟩)
          | (have hs := h_36
             simp only [decide_eq_false_iff_not] at hs
             rw [if_pos ⟨h_5, h_17⟩, if_neg (by rw [tg]; simp only [nI_eq (show b < 2 ^ 31 by omega) (show 0 < 2 ^ 31 by decide), nI_eq (show b < 2 ^ 31 by omega) (show σ.v (15 + g) < 2 ^ 31 by omega), nI_eq (show b < 2 ^ 31 by omega) (show 1 < 2 ^ 31 by decide), nI_eq (show b < 2 ^ 31 by omega) (show 4 < 2 ^ 31 by decide)]; exact hs)]
             exact ⟨rfl, hM.setSt _⟩)
    · refine x_ldc dX12_as_20 k_X12_70 ?_
      refine x_iret dX12_as_22 ?_
      unfold R_as
      first
        | (rw [if_neg (by simp [*])]; exact ⟨rfl, hM, FrC.rf⟩)
        | (have hs := h_36
           simp only [decide_eq_true_eq] at hs
           rw [if_pos ⟨h_5, h_17⟩, if_pos (by rw [tg]; simp only [nI_eq (show b < 2 ^ 31 by omega) (show 0 < 2 ^ 31 by decide), nI_eq (show b < 2 ^ 31 by omega) (show σ.v (15 + g) < 2 ^ 31 by omega), nI_eq (show b < 2 ^ 31 by omega) (show 1 < 2 ^ 31 by decide), nI_eq (show b < 2 ^ 31 by omega) (show 4 < 2 ^ 31 by decide)]; exact hs)]
           exact ⟨rfl, hM.setSt _⟩)
        | (have hs := h_36
           simp only [decide_eq_false_iff_not] at hs
           rw [if_pos ⟨h_5, h_17⟩, if_neg (by rw [tg]; simp only [nI_eq (show b < 2 ^ 31 by omega) (show 0 < 2 ^ 31 by decide), nI_eq (show b < 2 ^ 31 by omega) (show σ.v (15 + g) < 2 ^ 31 by omega), nI_eq (show b < 2 ^ 31 by omega) (show 1 < 2 ^ 31 by decide), nI_eq (show b < 2 ^ 31 by omega) (show 4 < 2 ^ 31 by decide)]; exact hs)]
           exact ⟨rfl, hM.setSt _⟩)
set_option maxRecDepth 100000 in
set_option maxHeartbeats 4000000 in
theorem m_count {Ω : Om} {l : Launch} {M : Mem} {σ : Sg} (hM : IM M σ) (hW : SgW σ) {w : Int32} : Ct Ω l yX12_count cX12_count 4 3 (some .int) [.ref (Ω.2.2 34), .int w] M (fun ro M' => ro = some (.int (R_count σ w)) ∧ IM M' σ ∧ FrC M M') := by
  have hS := hM.ms
  have hLv : Lv σ.v := hW.2.2.1
  have hw := hLv.wv
  have hn := hw.nums
  have hth := hM.there
  have hwh := whoA_lt hw (σ.v 0 + 1)
  refine ct_of (by decide) (Nat.le_of_ble_eq_true rfl) ?_
  intro p e R s m args below meth c
  have hz : ∀ r, r < 8 → (¬ (σ.sz r).toInt < 0 ↔ ¬ σ.sz r = -1) := by
    intro r hr
    rcases (hW.1 r hr).2 with e | ⟨q, hq, e⟩
    · rw [e]; decide
    · rw [e, nI_toInt (by omega)]
      constructor
      · intro _ z; exact nI_m1 (by omega) z
      · intro _; omega
  have key : ∀ (k r : Nat), r + k = 8 → X (mkG p l e R s m args below meth c Ω (fun ro M' => ro = some (.int (R_count σ w)) ∧ IM M' σ ∧ FrC M M')) Ω RX12 cX12_count 4 3 (some .int) 4 [some (.ref (Ω.2.2 34)), some (.int w), some (.int (nI (cntN (fun r => !decide (σ.sz r = -1)) r))), some (.int (nI r))] [] M := by
    intro k
    induction k with
    | zero =>
      intro r hk
      refine x_iload_n dX12_count_4 rfl ?_
      refine x_bipush (v := nI 8) dX12_count_5 rfl ?_
      refine y_icmp_ge 33 dX12_count_7 (by omega) (by omega) (fun h_7 => ?_) (fun h_7 => ?_)
      · obtain rfl : r = 8 := by omega
        refine x_iload_n dX12_count_33 rfl ?_
        rcases sw7 w with rfl | rfl | rfl | rfl | rfl | rfl | rfl | rfl | hsw
        · refine x_tableIn 80 dX12_count_34 (by decide) (by decide) rfl ?_
          refine x_iload_n dX12_count_80 rfl ?_
          refine x_iret dX12_count_81 ?_
          refine ⟨congrArg (fun z => some (Value.int z)) ?_, hM, FrC.rf⟩
          simp [R_count, nid, *]
        · refine x_tableIn 82 dX12_count_34 (by decide) (by decide) rfl ?_
          refine x_aload_n dX12_count_82 rfl ?_
          refine g_X12_19 dX12_count_83 ?_
          refine y_iconst (a := 0) dX12_count_86 rfl ?_
          refine x_ial dX12_count_87 (⟨by decide, rfl, rfl, by decide⟩ : Ar 38 45) (by omega) ?_
          rw [hS.at (by omega)]
          refine x_iret dX12_count_88 ?_
          refine ⟨congrArg (fun z => some (Value.int z)) ?_, hM, FrC.rf⟩
          simp [R_count, nid, *]
        · refine x_tableIn 89 dX12_count_34 (by decide) (by decide) rfl ?_
          refine x_aload_n dX12_count_89 rfl ?_
          refine g_X12_19 dX12_count_90 ?_
          refine y_iconst (a := 2) dX12_count_93 rfl ?_
          refine x_ial dX12_count_94 (⟨by decide, rfl, rfl, by decide⟩ : Ar 38 45) (by omega) ?_
          rw [hS.at (by omega)]
          refine x_iret dX12_count_95 ?_
          refine ⟨congrArg (fun z => some (Value.int z)) ?_, hM, FrC.rf⟩
          simp [R_count, nid, *]
        · refine x_tableIn 96 dX12_count_34 (by decide) (by decide) rfl ?_
          refine x_aload_n dX12_count_96 rfl ?_
          refine g_X12_19 dX12_count_97 ?_
          refine y_iconst (a := 3) dX12_count_100 rfl ?_
          refine x_ial dX12_count_101 (⟨by decide, rfl, rfl, by decide⟩ : Ar 38 45) (by omega) ?_
          rw [hS.at (by omega)]
          refine x_iret dX12_count_102 ?_
          refine ⟨congrArg (fun z => some (Value.int z)) ?_, hM, FrC.rf⟩
          simp [R_count, nid, *]
        · refine x_tableIn 103 dX12_count_34 (by decide) (by decide) rfl ?_
          refine x_aload_n dX12_count_103 rfl ?_
          refine q_X12_206 (m_aboveSet hS hw) dX12_count_104 rfl ?_
          rintro _ _ ⟨rfl, rfl⟩
          refine q_X12_237 (m_ones (by omega)) dX12_count_107 rfl ?_
          rintro _ _ ⟨rfl, rfl⟩
          refine x_iret dX12_count_110 ?_
          refine ⟨congrArg (fun z => some (Value.int z)) ?_, hM, FrC.rf⟩
          simp [R_count, nid, *]
        · refine x_tableIn 111 dX12_count_34 (by decide) (by decide) rfl ?_
          refine x_aload_n dX12_count_111 rfl ?_
          refine q_X12_234 (m_sumFell hS hw) dX12_count_112 rfl ?_
          rintro _ _ ⟨rfl, rfl⟩
          refine x_iret dX12_count_115 ?_
          refine ⟨congrArg (fun z => some (Value.int z)) ?_, hM, FrC.rf⟩
          simp [R_count, nid, *]
        · refine x_tableIn 116 dX12_count_34 (by decide) (by decide) rfl ?_
          refine x_aload_n dX12_count_116 rfl ?_
          refine g_X12_151 dX12_count_117 ?_
          rw [hM.acts.1]
          refine x_iret dX12_count_120 ?_
          refine ⟨congrArg (fun z => some (Value.int z)) ?_, hM, FrC.rf⟩
          simp [R_count, nid, *]
        · refine x_tableIn 121 dX12_count_34 (by decide) (by decide) rfl ?_
          refine x_aload_n dX12_count_121 rfl ?_
          refine g_X12_84 dX12_count_122 ?_
          rw [hM.tape.1]
          refine x_iret dX12_count_125 ?_
          refine ⟨congrArg (fun z => some (Value.int z)) ?_, hM, FrC.rf⟩
          simp [R_count, nid, *]
        · have n0 := sw_ne (i := 0) hsw (by decide) (by decide)
          have n1 := sw_ne (i := 1) hsw (by decide) (by decide)
          have n2 := sw_ne (i := 2) hsw (by decide) (by decide)
          have n3 := sw_ne (i := 3) hsw (by decide) (by decide)
          have n4 := sw_ne (i := 4) hsw (by decide) (by decide)
          have n5 := sw_ne (i := 5) hsw (by decide) (by decide)
          have n6 := sw_ne (i := 6) hsw (by decide) (by decide)
          have n7 := sw_ne (i := 7) hsw (by decide) (by decide)
          refine x_tableOut 126 dX12_count_34 hsw ?_
          refine x_ldc dX12_count_126 k_X12_70 ?_
          refine x_iret dX12_count_128 ?_
          refine ⟨congrArg (fun z => some (Value.int z)) ?_, hM, FrC.rf⟩
          simp [R_count, nid, *]
      · exfalso; omega
    | succ k ih =>
      intro r hk
      refine x_iload_n dX12_count_4 rfl ?_
      refine x_bipush (v := nI 8) dX12_count_5 rfl ?_
      refine y_icmp_ge 33 dX12_count_7 (by omega) (by omega) (fun h_7 => ?_) (fun h_7 => ?_)
      · exfalso; omega
      · refine x_iload_n dX12_count_10 rfl ?_
        refine x_aload_n dX12_count_11 rfl ?_
        refine g_X12_13 dX12_count_12 ?_
        refine x_iload_n dX12_count_15 rfl ?_
        refine x_ial dX12_count_16 (⟨by decide, rfl, rfl, by decide⟩ : Ar 36 8) (by omega) ?_
        rw [(hM.rows r (by omega)).2.1]
        refine x_if_lt 24 dX12_count_17 (fun h_17 => ?_) (fun h_17 => ?_)
        · refine y_iconst (a := 0) dX12_count_24 rfl ?_
          refine y_iadd dX12_count_25 ?_
          refine x_istore_n dX12_count_26 ?_
          refine y_iinc dX12_count_27 rfl ?_
          refine x_goto 4 dX12_count_30 ?_
          have hh := ih (r + 1) (by omega)
          first
            | (rw [show cntN (fun r => !decide (σ.sz r = -1)) (r + 1) = cntN (fun r => !decide (σ.sz r = -1)) r + 1 by simp [cntN, (hz r (by omega)).mp (by omega)]] at hh
               exact hh)
            | (rw [show cntN (fun r => !decide (σ.sz r = -1)) (r + 1) = cntN (fun r => !decide (σ.sz r = -1)) r by simp [cntN, Decidable.not_not.mp (fun z => absurd h_17 ((hz r (by omega)).mpr z))]] at hh
               exact hh)
        · refine y_iconst (a := 1) dX12_count_20 rfl ?_
          refine x_goto 25 dX12_count_21 ?_
          refine y_iadd dX12_count_25 ?_
          refine x_istore_n dX12_count_26 ?_
          refine y_iinc dX12_count_27 rfl ?_
          refine x_goto 4 dX12_count_30 ?_
          have hh := ih (r + 1) (by omega)
          first
            | (rw [show cntN (fun r => !decide (σ.sz r = -1)) (r + 1) = cntN (fun r => !decide (σ.sz r = -1)) r + 1 by simp [cntN, (hz r (by omega)).mp (by omega)]] at hh
               exact hh)
            | (rw [show cntN (fun r => !decide (σ.sz r = -1)) (r + 1) = cntN (fun r => !decide (σ.sz r = -1)) r by simp [cntN, Decidable.not_not.mp (fun z => absurd h_17 ((hz r (by omega)).mpr z))]] at hh
               exact hh)
  refine y_iconst (a := 0) dX12_count_0 rfl ?_
  refine x_istore_n dX12_count_1 ?_
  refine y_iconst (a := 0) dX12_count_2 rfl ?_
  refine x_istore_n dX12_count_3 ?_
  exact key 8 0 rfl
set_option maxRecDepth 100000 in
set_option maxHeartbeats 4000000 in
theorem m_mends {Ω : Om} {l : Launch} {M : Mem} {σ : Sg} (hM : IM M σ) (hW : SgW σ) {x n w : Int32} : Ct Ω l yX12_mends cX12_mends 7 11 (some .int) [.ref (Ω.2.2 34), .int x, .int n, .int w] M (fun ro M' => ro = some (.int (R_mends σ.v x n w)) ∧ IM M' σ ∧ FrC M M') := by
  have hS := hM.ms
  have hLv : Lv σ.v := hW.2.2.1
  have hw := hLv.wv
  have hn := hw.nums
  have hth := hM.there
  refine ct_of (by decide) (Nat.le_of_ble_eq_true rfl) ?_
  intro p e R s m args below meth c
  have key : ∀ (g n : Nat), g < σ.v 2 → 1 ≤ n → n ≤ 30 → inB (nI n) 1 30 = true → inB w 0 1 = true → ∀ (k z : Nat) (M1 : Mem) (x6 : Option Value), z + k = 2 ^ σ.v 0 ∧ MsR M1 σ.v ∧ AsR M1 σ.v ∧ FQ M M1 → X (mkG p l e R s m args below meth c Ω (fun ro M' => ro = some (.int (R_mends σ.v (nI g) (nI n) w)) ∧ IM M' σ ∧ FrC M M')) Ω RX12 cX12_mends 7 11 (some .int) 41 [some (.ref (Ω.2.2 34)), some (.int (nI g)), some (.int (nI n)), some (.int w), some (.int (nO (bst (fun s => abv (hrs (mdV σ.v s) n) g) z))), some (.int (nI z)), x6] [] M1 := by
    intro g n hg n1 n2 hin hin2 k
    obtain ⟨hI, h999⟩ := hLv.goer hg
    have tg := tN_nI (g := g) (by omega)
    have tn := tN_nI (g := n) (by omega)
    have hw01 : w = nI 0 ∨ w = nI 1 := by
      obtain ⟨z, _, _, rfl⟩ := inB_nI hin2 (by decide)
      rcases (show z = 0 ∨ z = 1 by omega) with rfl | rfl
      · exact Or.inl rfl
      · exact Or.inr rfl
    have hpw : 2 ^ σ.v 0 ≤ 512 := Nat.pow_le_pow_right (by decide) hn.1 (n := 2)
    have inner : ∀ (z : Nat) (x4 : Int32), z < 512 → ∀ (k r : Nat) (M1 M0 : Mem), r + k = σ.v 0 → MsR M1 (mdN σ.v z r) → FS M0 M1 → (∀ (M2 : Mem) (x6 : Int32), MsR M2 (mdV σ.v z) → FS M0 M2 → X (mkG p l e R s m args below meth c Ω (fun ro M' => ro = some (.int (R_mends σ.v (nI g) (nI n) w)) ∧ IM M' σ ∧ FrC M M')) Ω RX12 cX12_mends 7 11 (some .int) 127 [some (.ref (Ω.2.2 34)), some (.int (nI g)), some (.int (nI n)), some (.int w), some (.int x4), some (.int (nI z)), some (.int x6)] [] M2) → X (mkG p l e R s m args below meth c Ω (fun ro M' => ro = some (.int (R_mends σ.v (nI g) (nI n) w)) ∧ IM M' σ ∧ FrC M M')) Ω RX12 cX12_mends 7 11 (some .int) 75 [some (.ref (Ω.2.2 34)), some (.int (nI g)), some (.int (nI n)), some (.int w), some (.int x4), some (.int (nI z)), some (.int (nI r))] [] M1 := by
      intro z x4 hz k
      induction k with
      | zero =>
        intro r M1 M0 hk hS1 hF1 hc
        have e0 : mdN σ.v z r 0 = σ.v 0 := mdN_ne r (by omega)
        refine x_iload dX12_mends_75 rfl ?_
        refine x_aload_n dX12_mends_77 rfl ?_
        refine g_X12_19 dX12_mends_78 ?_
        refine y_iconst (a := 0) dX12_mends_81 rfl ?_
        refine x_ial dX12_mends_82 (⟨by decide, rfl, rfl, by decide⟩ : Ar 38 45) (by omega) ?_
        rw [hS1.at (by omega), e0]
        refine y_icmp_ge 127 dX12_mends_83 (by omega) (by omega) (fun h_83 => ?_) (fun h_83 => ?_)
        · obtain rfl : r = σ.v 0 := by omega
          exact hc _ _ hS1 hF1
        · exfalso; omega
      | succ k ih =>
        intro r M1 M0 hk hS1 hF1 hc
        have e0 : mdN σ.v z r 0 = σ.v 0 := mdN_ne r (by omega)
        refine x_iload dX12_mends_75 rfl ?_
        refine x_aload_n dX12_mends_77 rfl ?_
        refine g_X12_19 dX12_mends_78 ?_
        refine y_iconst (a := 0) dX12_mends_81 rfl ?_
        refine x_ial dX12_mends_82 (⟨by decide, rfl, rfl, by decide⟩ : Ar 38 45) (by omega) ?_
        rw [hS1.at (by omega), e0]
        refine y_icmp_ge 127 dX12_mends_83 (by omega) (by omega) (fun h_83 => ?_) (fun h_83 => ?_)
        · obtain rfl : r = σ.v 0 := by omega
          exact hc _ _ hS1 hF1
        · refine x_aload_n dX12_mends_86 rfl ?_
          refine g_X12_19 dX12_mends_87 ?_
          refine x_bipush (v := nI 6) dX12_mends_90 rfl ?_
          refine x_iload dX12_mends_92 rfl ?_
          refine y_iadd dX12_mends_94 ?_
          refine x_iload dX12_mends_95 rfl ?_
          refine x_iload dX12_mends_97 rfl ?_
          refine q_X12_174 (m_has (by omega) (by omega)) dX12_mends_99 rfl ?_
          rintro _ _ ⟨rfl, rfl⟩
          refine z_if_eq 110 dX12_mends_102 (fun h_102 => ?_) (fun h_102 => ?_)
          · refine x_aload_n dX12_mends_110 rfl ?_
            refine g_X12_19 dX12_mends_111 ?_
            refine x_bipush (v := nI 6) dX12_mends_114 rfl ?_
            refine x_iload dX12_mends_116 rfl ?_
            refine y_iadd dX12_mends_118 ?_
            refine x_ial dX12_mends_119 (⟨by decide, rfl, rfl, by decide⟩ : Ar 38 45) (by omega) ?_
            rw [hS1.at (by omega)]
            refine x_ias dX12_mends_120 (⟨by decide, rfl, rfl, by decide⟩ : Ar 38 45) (by omega) ?_
            refine y_iinc dX12_mends_121 rfl ?_
            refine x_goto 75 dX12_mends_124 ?_
            refine ih (r + 1) _ M0 (by omega) ?_ hF1.up hc
            first
              | (refine (hS1.set (6 + r) 99).congr (fun j _ => ?_)
                 simp only [mdN]; rw [if_pos h_102])
              | (refine (hS1.set (6 + r) (mdN σ.v z r (6 + r))).congr (fun j _ => ?_)
                 simp only [mdN]; rw [if_neg (fun q => Bool.false_ne_true (h_102.symm.trans q))]
                 unfold sv; split
                 · next e => rw [e]
                 · rfl)
          · refine x_bipush (v := nI 99) dX12_mends_105 rfl ?_
            refine x_goto 120 dX12_mends_107 ?_
            refine x_ias dX12_mends_120 (⟨by decide, rfl, rfl, by decide⟩ : Ar 38 45) (by omega) ?_
            refine y_iinc dX12_mends_121 rfl ?_
            refine x_goto 75 dX12_mends_124 ?_
            refine ih (r + 1) _ M0 (by omega) ?_ hF1.up hc
            first
              | (refine (hS1.set (6 + r) 99).congr (fun j _ => ?_)
                 simp only [mdN]; rw [if_pos h_102])
              | (refine (hS1.set (6 + r) (mdN σ.v z r (6 + r))).congr (fun j _ => ?_)
                 simp only [mdN]; rw [if_neg (fun q => Bool.false_ne_true (h_102.symm.trans q))]
                 unfold sv; split
                 · next e => rw [e]
                 · rfl)
    induction k with
    | zero =>
      intro z M1 x6 hk
      obtain ⟨hk, hS1, hA1, hF1⟩ := hk
      have hbo : ∀ b, bst (fun s => abv (hrs (mdV σ.v s) n) g) z = some b → b < 512 := fun b hb => by have := bst_lt hb; omega
      have hno := nO_neg (o := bst (fun s => abv (hrs (mdV σ.v s) n) g) z) (fun b hb => by have := hbo b hb; omega)
      refine x_iload dX12_mends_41 rfl ?_
      refine y_iconst (a := 1) dX12_mends_43 rfl ?_
      refine x_aload_n dX12_mends_44 rfl ?_
      refine g_X12_19 dX12_mends_45 ?_
      refine y_iconst (a := 0) dX12_mends_48 rfl ?_
      refine x_ial dX12_mends_49 (⟨by decide, rfl, rfl, by decide⟩ : Ar 38 45) (by omega) ?_
      rw [hS1.at (by omega)]
      refine y_ishl dX12_mends_50 (by omega) ?_
      try rw [Nat.one_mul]
      refine y_icmp_ge 151 dX12_mends_51 (by omega) (by omega) (fun h_51 => ?_) (fun h_51 => ?_)
      · refine x_iload dX12_mends_151 rfl ?_
        refine x_if_lt 161 dX12_mends_153 (fun h_153 => ?_) (fun h_153 => ?_)
        · refine x_iload dX12_mends_161 rfl ?_
          refine x_goto 171 dX12_mends_163 ?_
          refine x_iret dX12_mends_171 ?_
          obtain rfl : z = 2 ^ σ.v 0 := by omega
          refine ⟨congrArg (fun z => some (Value.int z)) ?_, hM.q hF1 hS1⟩
          unfold R_mends
          rw [if_pos ⟨inR_of hg (by omega), hin, hin2⟩, tg, tn]
          rcases ho : bst (fun s => abv (hrs (mdV σ.v s) n) g) (2 ^ σ.v 0) with _ | b
          · first
              | rfl
              | (rw [ho] at h_153; exact absurd h_153 (by decide))
          · try (rw [ho9] at ho; cases ho)
            rcases hw01 with rfl | rfl
            · first
                | (exact absurd h_158 (by decide +kernel))
                | (rw [ho] at h_153; exact absurd h_153 (by have := hbo b ho; simp only [nO]; rw [nI_toInt (by omega)]; omega))
                | (simp only [cOS, nO]; rw [if_pos rfl])
                | (simp only [cOS, nO]; rfl)
            · first
                | (exact absurd rfl h_158)
                | (rw [ho] at h_153; exact absurd h_153 (by have := hbo b ho; simp only [nO]; rw [nI_toInt (by omega)]; omega))
                | (simp only [cOS, nO]; rw [if_neg (by decide +kernel)])
        · refine x_iload_n dX12_mends_156 rfl ?_
          refine y_iconst (a := 1) dX12_mends_157 rfl ?_
          refine x_icmp_ne 166 dX12_mends_158 (fun h_158 => ?_) (fun h_158 => ?_)
          · obtain ⟨b9, ho9⟩ : ∃ b, bst (fun s => abv (hrs (mdV σ.v s) n) g) z = some b := Option.ne_none_iff_exists'.mp (fun q => by have := hno.mpr q; omega)
            have hb5 := hbo b9 ho9
            rw [ho9]
            refine x_iload dX12_mends_166 rfl ?_
            refine q_X12_237 (m_ones hb5) dX12_mends_168 rfl ?_
            rintro _ _ ⟨rfl, rfl⟩
            refine x_iret dX12_mends_171 ?_
            obtain rfl : z = 2 ^ σ.v 0 := by omega
            refine ⟨congrArg (fun z => some (Value.int z)) ?_, hM.q hF1 hS1⟩
            unfold R_mends
            rw [if_pos ⟨inR_of hg (by omega), hin, hin2⟩, tg, tn]
            rcases ho : bst (fun s => abv (hrs (mdV σ.v s) n) g) (2 ^ σ.v 0) with _ | b
            · first
                | rfl
                | (rw [ho] at h_153; exact absurd h_153 (by decide))
            · try (rw [ho9] at ho; cases ho)
              rcases hw01 with rfl | rfl
              · first
                  | (exact absurd h_158 (by decide +kernel))
                  | (rw [ho] at h_153; exact absurd h_153 (by have := hbo b ho; simp only [nO]; rw [nI_toInt (by omega)]; omega))
                  | (simp only [cOS, nO]; rw [if_pos rfl])
                  | (simp only [cOS, nO]; rfl)
              · first
                  | (exact absurd rfl h_158)
                  | (rw [ho] at h_153; exact absurd h_153 (by have := hbo b ho; simp only [nO]; rw [nI_toInt (by omega)]; omega))
                  | (simp only [cOS, nO]; rw [if_neg (by decide +kernel)])
          · refine x_iload dX12_mends_161 rfl ?_
            refine x_goto 171 dX12_mends_163 ?_
            refine x_iret dX12_mends_171 ?_
            obtain rfl : z = 2 ^ σ.v 0 := by omega
            refine ⟨congrArg (fun z => some (Value.int z)) ?_, hM.q hF1 hS1⟩
            unfold R_mends
            rw [if_pos ⟨inR_of hg (by omega), hin, hin2⟩, tg, tn]
            rcases ho : bst (fun s => abv (hrs (mdV σ.v s) n) g) (2 ^ σ.v 0) with _ | b
            · first
                | rfl
                | (rw [ho] at h_153; exact absurd h_153 (by decide))
            · try (rw [ho9] at ho; cases ho)
              rcases hw01 with rfl | rfl
              · first
                  | (exact absurd h_158 (by decide +kernel))
                  | (rw [ho] at h_153; exact absurd h_153 (by have := hbo b ho; simp only [nO]; rw [nI_toInt (by omega)]; omega))
                  | (simp only [cOS, nO]; rw [if_pos rfl])
                  | (simp only [cOS, nO]; rfl)
              · first
                  | (exact absurd rfl h_158)
                  | (rw [ho] at h_153; exact absurd h_153 (by have := hbo b ho; simp only [nO]; rw [nI_toInt (by omega)]; omega))
                  | (simp only [cOS, nO]; rw [if_neg (by decide +kernel)])
      · exfalso; omega
    | succ k ih =>
      intro z M1 x6 hk
      obtain ⟨hk, hS1, hA1, hF1⟩ := hk
      have hbo : ∀ b, bst (fun s => abv (hrs (mdV σ.v s) n) g) z = some b → b < 512 := fun b hb => by have := bst_lt hb; omega
      have hno := nO_neg (o := bst (fun s => abv (hrs (mdV σ.v s) n) g) z) (fun b hb => by have := hbo b hb; omega)
      refine x_iload dX12_mends_41 rfl ?_
      refine y_iconst (a := 1) dX12_mends_43 rfl ?_
      refine x_aload_n dX12_mends_44 rfl ?_
      refine g_X12_19 dX12_mends_45 ?_
      refine y_iconst (a := 0) dX12_mends_48 rfl ?_
      refine x_ial dX12_mends_49 (⟨by decide, rfl, rfl, by decide⟩ : Ar 38 45) (by omega) ?_
      rw [hS1.at (by omega)]
      refine y_ishl dX12_mends_50 (by omega) ?_
      try rw [Nat.one_mul]
      refine y_icmp_ge 151 dX12_mends_51 (by omega) (by omega) (fun h_51 => ?_) (fun h_51 => ?_)
      · refine x_iload dX12_mends_151 rfl ?_
        refine x_if_lt 161 dX12_mends_153 (fun h_153 => ?_) (fun h_153 => ?_)
        · refine x_iload dX12_mends_161 rfl ?_
          refine x_goto 171 dX12_mends_163 ?_
          refine x_iret dX12_mends_171 ?_
          obtain rfl : z = 2 ^ σ.v 0 := by omega
          refine ⟨congrArg (fun z => some (Value.int z)) ?_, hM.q hF1 hS1⟩
          unfold R_mends
          rw [if_pos ⟨inR_of hg (by omega), hin, hin2⟩, tg, tn]
          rcases ho : bst (fun s => abv (hrs (mdV σ.v s) n) g) (2 ^ σ.v 0) with _ | b
          · first
              | rfl
              | (rw [ho] at h_153; exact absurd h_153 (by decide))
          · try (rw [ho9] at ho; cases ho)
            rcases hw01 with rfl | rfl
            · first
                | (exact absurd h_158 (by decide +kernel))
                | (rw [ho] at h_153; exact absurd h_153 (by have := hbo b ho; simp only [nO]; rw [nI_toInt (by omega)]; omega))
                | (simp only [cOS, nO]; rw [if_pos rfl])
                | (simp only [cOS, nO]; rfl)
            · first
                | (exact absurd rfl h_158)
                | (rw [ho] at h_153; exact absurd h_153 (by have := hbo b ho; simp only [nO]; rw [nI_toInt (by omega)]; omega))
                | (simp only [cOS, nO]; rw [if_neg (by decide +kernel)])
        · refine x_iload_n dX12_mends_156 rfl ?_
          refine y_iconst (a := 1) dX12_mends_157 rfl ?_
          refine x_icmp_ne 166 dX12_mends_158 (fun h_158 => ?_) (fun h_158 => ?_)
          · obtain ⟨b9, ho9⟩ : ∃ b, bst (fun s => abv (hrs (mdV σ.v s) n) g) z = some b := Option.ne_none_iff_exists'.mp (fun q => by have := hno.mpr q; omega)
            have hb5 := hbo b9 ho9
            rw [ho9]
            refine x_iload dX12_mends_166 rfl ?_
            refine q_X12_237 (m_ones hb5) dX12_mends_168 rfl ?_
            rintro _ _ ⟨rfl, rfl⟩
            refine x_iret dX12_mends_171 ?_
            obtain rfl : z = 2 ^ σ.v 0 := by omega
            refine ⟨congrArg (fun z => some (Value.int z)) ?_, hM.q hF1 hS1⟩
            unfold R_mends
            rw [if_pos ⟨inR_of hg (by omega), hin, hin2⟩, tg, tn]
            rcases ho : bst (fun s => abv (hrs (mdV σ.v s) n) g) (2 ^ σ.v 0) with _ | b
            · first
                | rfl
                | (rw [ho] at h_153; exact absurd h_153 (by decide))
            · try (rw [ho9] at ho; cases ho)
              rcases hw01 with rfl | rfl
              · first
                  | (exact absurd h_158 (by decide +kernel))
                  | (rw [ho] at h_153; exact absurd h_153 (by have := hbo b ho; simp only [nO]; rw [nI_toInt (by omega)]; omega))
                  | (simp only [cOS, nO]; rw [if_pos rfl])
                  | (simp only [cOS, nO]; rfl)
              · first
                  | (exact absurd rfl h_158)
                  | (rw [ho] at h_153; exact absurd h_153 (by have := hbo b ho; simp only [nO]; rw [nI_toInt (by omega)]; omega))
                  | (simp only [cOS, nO]; rw [if_neg (by decide +kernel)])
          · refine x_iload dX12_mends_161 rfl ?_
            refine x_goto 171 dX12_mends_163 ?_
            refine x_iret dX12_mends_171 ?_
            obtain rfl : z = 2 ^ σ.v 0 := by omega
            refine ⟨congrArg (fun z => some (Value.int z)) ?_, hM.q hF1 hS1⟩
            unfold R_mends
            rw [if_pos ⟨inR_of hg (by omega), hin, hin2⟩, tg, tn]
            rcases ho : bst (fun s => abv (hrs (mdV σ.v s) n) g) (2 ^ σ.v 0) with _ | b
            · first
                | rfl
                | (rw [ho] at h_153; exact absurd h_153 (by decide))
            · try (rw [ho9] at ho; cases ho)
              rcases hw01 with rfl | rfl
              · first
                  | (exact absurd h_158 (by decide +kernel))
                  | (rw [ho] at h_153; exact absurd h_153 (by have := hbo b ho; simp only [nO]; rw [nI_toInt (by omega)]; omega))
                  | (simp only [cOS, nO]; rw [if_pos rfl])
                  | (simp only [cOS, nO]; rfl)
              · first
                  | (exact absurd rfl h_158)
                  | (rw [ho] at h_153; exact absurd h_153 (by have := hbo b ho; simp only [nO]; rw [nI_toInt (by omega)]; omega))
                  | (simp only [cOS, nO]; rw [if_neg (by decide +kernel)])
      · refine x_iload dX12_mends_54 rfl ?_
        refine x_if_lt 72 dX12_mends_56 (fun h_56 => ?_) (fun h_56 => ?_)
        · refine y_iconst (a := 0) dX12_mends_72 rfl ?_
          refine x_istore dX12_mends_73 ?_
          have hlt : ∀ b, bst (fun s => abv (hrs (mdV σ.v s) n) g) z = some b → pop z < pop b := by
            intro b hb
            first
              | (have := hno.mp h_56; rw [this] at hb; cases hb)
              | (rw [ho] at hb; cases hb; exact h_69)
          exact inner z _ (by omega) _ 0 _ _ (Nat.zero_add _) hS1 FS.rf (by
            intro M2 x6 hS2 hF2
            refine x_aload_n dX12_mends_127 rfl ?_
            refine x_iload_n dX12_mends_128 rfl ?_
            refine x_iload_n dX12_mends_129 rfl ?_
            refine q_X12_240 (m_isAboveBy hS2 (mdV_Iv hI z) (hA1.keep hF2) (by rw [mdV, mdN_ne _ (by omega)]; exact hg) (by omega) (by rw [mdV, mdN_ne _ (by omega)]; omega)) dX12_mends_130 rfl ?_
            rintro _ M3 ⟨rfl, hS3, hF3⟩
            refine z_if_eq 141 dX12_mends_133 (fun h_133 => ?_) (fun h_133 => ?_)
            · refine x_iload dX12_mends_141 rfl ?_
              refine x_istore dX12_mends_143 ?_
              refine y_iinc dX12_mends_145 rfl ?_
              refine x_goto 41 dX12_mends_148 ?_
              have hb : bst (fun s => abv (hrs (mdV σ.v s) n) g) (z + 1) = (if abv (hrs (mdV σ.v z) n) g = true then some z else bst (fun s => abv (hrs (mdV σ.v s) n) g) z) := by
                simp only [bst]
                rcases ho : bst (fun s => abv (hrs (mdV σ.v s) n) g) z with _ | b
                · rfl
                · have := hlt b ho
                  by_cases c : abv (hrs (mdV σ.v z) n) g = true
                  · simp only []
                    rw [if_pos ⟨c, this⟩, if_pos c]
                  · simp only []
                    rw [if_neg (fun q => c q.1), if_neg c]
              have hh := ih (z + 1) _ (some (.int x6)) ⟨by omega, hS3, (hA1.keep hF2).keep hF3, (hF1.s hF2).s hF3⟩
              rw [hb] at hh
              first
                | (rw [if_pos h_133] at hh; exact hh)
                | (rw [if_neg (fun q => Bool.false_ne_true (h_133.symm.trans q))] at hh; exact hh)
                | (rw [if_neg (fun q => Bool.false_ne_true (h_133.symm.trans q)), ho] at hh; exact hh)
            · refine x_iload dX12_mends_136 rfl ?_
              refine x_goto 143 dX12_mends_138 ?_
              refine x_istore dX12_mends_143 ?_
              refine y_iinc dX12_mends_145 rfl ?_
              refine x_goto 41 dX12_mends_148 ?_
              have hb : bst (fun s => abv (hrs (mdV σ.v s) n) g) (z + 1) = (if abv (hrs (mdV σ.v z) n) g = true then some z else bst (fun s => abv (hrs (mdV σ.v s) n) g) z) := by
                simp only [bst]
                rcases ho : bst (fun s => abv (hrs (mdV σ.v s) n) g) z with _ | b
                · rfl
                · have := hlt b ho
                  by_cases c : abv (hrs (mdV σ.v z) n) g = true
                  · simp only []
                    rw [if_pos ⟨c, this⟩, if_pos c]
                  · simp only []
                    rw [if_neg (fun q => c q.1), if_neg c]
              have hh := ih (z + 1) _ (some (.int x6)) ⟨by omega, hS3, (hA1.keep hF2).keep hF3, (hF1.s hF2).s hF3⟩
              rw [hb] at hh
              first
                | (rw [if_pos h_133] at hh; exact hh)
                | (rw [if_neg (fun q => Bool.false_ne_true (h_133.symm.trans q))] at hh; exact hh)
                | (rw [if_neg (fun q => Bool.false_ne_true (h_133.symm.trans q)), ho] at hh; exact hh))
        · obtain ⟨b, ho⟩ : ∃ b, bst (fun s => abv (hrs (mdV σ.v s) n) g) z = some b := Option.ne_none_iff_exists'.mp (fun q => by have := hno.mpr q; omega)
          have hb5 := hbo b ho
          have hp9 := pop_le9 b hb5
          have hpz := pop_le9 z (by omega)
          rw [ho]
          refine x_iload dX12_mends_59 rfl ?_
          refine q_X12_237 (m_ones (by omega)) dX12_mends_61 rfl ?_
          rintro _ _ ⟨rfl, rfl⟩
          refine x_iload dX12_mends_64 rfl ?_
          refine q_X12_237 (m_ones hb5) dX12_mends_66 rfl ?_
          rintro _ _ ⟨rfl, rfl⟩
          refine y_icmp_ge 145 dX12_mends_69 (by omega) (by omega) (fun h_69 => ?_) (fun h_69 => ?_)
          · refine y_iinc dX12_mends_145 rfl ?_
            refine x_goto 41 dX12_mends_148 ?_
            have hb : bst (fun s => abv (hrs (mdV σ.v s) n) g) (z + 1) = bst (fun s => abv (hrs (mdV σ.v s) n) g) z := by
              simp only [bst]
              rw [ho]
              simp only []
              rw [if_neg (fun q => by omega)]
            have hh := ih (z + 1) _ x6 ⟨by omega, hS1, hA1, hF1⟩
            rw [hb, ho] at hh
            exact hh
          · refine y_iconst (a := 0) dX12_mends_72 rfl ?_
            refine x_istore dX12_mends_73 ?_
            have hlt : ∀ b, bst (fun s => abv (hrs (mdV σ.v s) n) g) z = some b → pop z < pop b := by
              intro b hb
              first
                | (have := hno.mp h_56; rw [this] at hb; cases hb)
                | (rw [ho] at hb; cases hb; exact h_69)
            exact inner z _ (by omega) _ 0 _ _ (Nat.zero_add _) hS1 FS.rf (by
              intro M2 x6 hS2 hF2
              refine x_aload_n dX12_mends_127 rfl ?_
              refine x_iload_n dX12_mends_128 rfl ?_
              refine x_iload_n dX12_mends_129 rfl ?_
              refine q_X12_240 (m_isAboveBy hS2 (mdV_Iv hI z) (hA1.keep hF2) (by rw [mdV, mdN_ne _ (by omega)]; exact hg) (by omega) (by rw [mdV, mdN_ne _ (by omega)]; omega)) dX12_mends_130 rfl ?_
              rintro _ M3 ⟨rfl, hS3, hF3⟩
              refine z_if_eq 141 dX12_mends_133 (fun h_133 => ?_) (fun h_133 => ?_)
              · refine x_iload dX12_mends_141 rfl ?_
                refine x_istore dX12_mends_143 ?_
                refine y_iinc dX12_mends_145 rfl ?_
                refine x_goto 41 dX12_mends_148 ?_
                have hb : bst (fun s => abv (hrs (mdV σ.v s) n) g) (z + 1) = (if abv (hrs (mdV σ.v z) n) g = true then some z else bst (fun s => abv (hrs (mdV σ.v s) n) g) z) := by
                  simp only [bst]
                  rcases ho : bst (fun s => abv (hrs (mdV σ.v s) n) g) z with _ | b
                  · rfl
                  · have := hlt b ho
                    by_cases c : abv (hrs (mdV σ.v z) n) g = true
                    · simp only []
                      rw [if_pos ⟨c, this⟩, if_pos c]
                    · simp only []
                      rw [if_neg (fun q => c q.1), if_neg c]
                have hh := ih (z + 1) _ (some (.int x6)) ⟨by omega, hS3, (hA1.keep hF2).keep hF3, (hF1.s hF2).s hF3⟩
                rw [hb] at hh
                first
                  | (rw [if_pos h_133] at hh; exact hh)
                  | (rw [if_neg (fun q => Bool.false_ne_true (h_133.symm.trans q))] at hh; exact hh)
                  | (rw [if_neg (fun q => Bool.false_ne_true (h_133.symm.trans q)), ho] at hh; exact hh)
              · refine x_iload dX12_mends_136 rfl ?_
                refine x_goto 143 dX12_mends_138 ?_
                refine x_istore dX12_mends_143 ?_
                refine y_iinc dX12_mends_145 rfl ?_
                refine x_goto 41 dX12_mends_148 ?_
                have hb : bst (fun s => abv (hrs (mdV σ.v s) n) g) (z + 1) = (if abv (hrs (mdV σ.v z) n) g = true then some z else bst (fun s => abv (hrs (mdV σ.v s) n) g) z) := by
                  simp only [bst]
                  rcases ho : bst (fun s => abv (hrs (mdV σ.v s) n) g) z with _ | b
                  · rfl
                  · have := hlt b ho
                    by_cases c : abv (hrs (mdV σ.v z) n) g = true
                    · simp only []
                      rw [if_pos ⟨c, this⟩, if_pos c]
                    · simp only []
                      rw [if_neg (fun q => c q.1), if_neg c]
                have hh := ih (z + 1) _ (some (.int x6)) ⟨by omega, hS3, (hA1.keep hF2).keep hF3, (hF1.s hF2).s hF3⟩
                rw [hb] at hh
                first
                  | (rw [if_pos h_133] at hh; exact hh)
                  | (rw [if_neg (fun q => Bool.false_ne_true (h_133.symm.trans q))] at hh; exact hh)
                  | (rw [if_neg (fun q => Bool.false_ne_true (h_133.symm.trans q)), ho] at hh; exact hh))
  refine x_aload_n dX12_mends_0 rfl ?_
  refine x_iload_n dX12_mends_1 rfl ?_
  refine q_X12_209 (m_isGoer hS (by omega)) dX12_mends_2 rfl ?_
  rintro _ _ ⟨rfl, rfl⟩
  refine z_if_eq 27 dX12_mends_5 (fun h_5 => ?_) (fun h_5 => ?_)
  · refine x_ldc dX12_mends_27 k_X12_70 ?_
    refine x_iret dX12_mends_29 ?_
    refine ⟨congrArg (fun z => some (Value.int z)) ?_, hM, FrC.rf⟩
    simp [R_mends, *]
  · obtain ⟨g, hg, rfl⟩ := inR_nI h_5 (by omega)
    obtain ⟨hI, h999⟩ := hLv.goer hg
    have tg := tN_nI (g := g) (by omega)
    have hgo := hw.goer hg
    refine x_iload_n dX12_mends_8 rfl ?_
    refine x_i2l dX12_mends_9 ?_
    refine x_lconst (v := lN 1) dX12_mends_10 rfl ?_
    refine x_ldc2 (v := lN 30) dX12_mends_11 k_X12_212 ?_
    refine q_X12_60 (m_inB (by decide) (by decide)) dX12_mends_14 rfl ?_
    rintro _ _ ⟨rfl, rfl⟩
    refine z_if_eq 27 dX12_mends_17 (fun h_17 => ?_) (fun h_17 => ?_)
    · refine x_ldc dX12_mends_27 k_X12_70 ?_
      refine x_iret dX12_mends_29 ?_
      refine ⟨congrArg (fun z => some (Value.int z)) ?_, hM, FrC.rf⟩
      simp [R_mends, *]
    · obtain ⟨n, n1, n2, rfl⟩ := inB_nI h_17 (by decide)
      refine x_iload_n dX12_mends_20 rfl ?_
      refine q_X12_231 (m_isWhat) dX12_mends_21 rfl ?_
      rintro _ _ ⟨rfl, rfl⟩
      refine z_if_ne 30 dX12_mends_24 (fun h_24 => ?_) (fun h_24 => ?_)
      · refine x_aload_n dX12_mends_30 rfl ?_
        refine q_X12_228 (m_putAside hS) dX12_mends_31 rfl ?_
        rintro _ M0 ⟨rfl, hA0, hF0⟩
        have hS0 := hS.fc hF0 (by decide)
        refine x_ldc dX12_mends_34 k_X12_167 ?_
        refine x_istore dX12_mends_36 ?_
        refine y_iconst (a := 0) dX12_mends_38 rfl ?_
        refine x_istore dX12_mends_39 ?_
        exact key g n hg n1 n2 h_17 h_24 _ 0 _ _ ⟨Nat.zero_add _, hS0, hA0, FQ.rf.c hF0 (by omega)⟩
      · refine x_ldc dX12_mends_27 k_X12_70 ?_
        refine x_iret dX12_mends_29 ?_
        refine ⟨congrArg (fun z => some (Value.int z)) ?_, hM, FrC.rf⟩
        simp [R_mends, *]
