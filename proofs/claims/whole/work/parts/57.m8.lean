/-! THE REFERENCE: what fits, draws (laid by gen_m8.py) -/
theorem Iv.setG {v : Nat → Nat} (h : Iv v) {g : Nat} (hg : g < v 2) {j y : Nat} (hj : (j = 15 + g ∧ 1 ≤ y ∧ y ≤ 5) ∨ (j = 21 + g ∧ y ≤ 30) ∨ (j = 27 + g ∧ y ≤ 5000)) : Iv (sv v j y) := by
  have hn := h.1.nums
  have e : ∀ i, i ≠ j → sv v j y i = v i := fun i hi => sv_ne _ _ hi
  refine ⟨h.1.setG hg hj, by rw [e 0 (by omega)]; exact h.2.1, fun k hk => ?_⟩
  rw [e 2 (by omega)] at hk
  have h3 := h.1.goer hk
  obtain ⟨a, b⟩ := h.2.2 k hk
  unfold upw
  rw [e (33 + k) (by omega), e 5 (by omega), e 0 (by omega)]
  refine ⟨a, fun z1 z2 => ?_⟩
  rw [e _ (by omega)]
  exact b z1 z2
theorem drV_0 {v : Nat → Nat} (h : Iv v) (a : Nat) : drV v a 0 = v 0 ∧ drV v a 2 = v 2 := by
  have hn := h.1.nums
  unfold drV
  split
  · exact ⟨sv_ne _ _ (by omega), sv_ne _ _ (by omega)⟩
  · split
    · exact ⟨bkV_ne (by omega) (by omega) (Or.inl (by omega)) (by omega), bkV_ne (by omega) (by omega) (Or.inl (by omega)) (by omega)⟩
    · exact ⟨rfl, rfl⟩
theorem dwV_0 {v : Nat → Nat} (h : Iv v) (a : Nat) : ∀ n, v 3 + n ≤ 5000 → dwV v a n 0 = v 0
  | 0, _ => rfl
  | n + 1, hn => by
    have h1 := (dwV_Iv h a n (by omega)).1
    have h2 := drV_0 h1 (dwX a (n + 1))
    have h3 := (drV_Iv h1 (dwX a (n + 1))).1.nums
    show hrV _ 0 = _
    rw [hrV_ne (by omega) (by omega) (by omega) (by omega), h2.1]
    exact dwV_0 h a n (by omega)
theorem fitN_step (v : Nat → Nat) (g : Nat) (it : Nat → Int32) (n : Nat) : fitN v g it (n + 1) = (fitN v g it n && decide (nI (hrs v (n + 1) (33 + g)) = it n)) := rfl

set_option maxRecDepth 100000 in
set_option maxHeartbeats 4000000 in
theorem m_isSo {Ω : Om} {l : Launch} {M : Mem} {v : Nat → Nat} (hS : MsR M v) (hI : Iv v) {u : Nat → Nat} (hA : AsR M u) {g a n : Nat} {it : Nat → Int32} (hg : g < v 2) (hn12 : n ≤ 12) (ha : a + n ≤ 320) (hh : v 3 ≤ 4000) (hit : ∀ h, h < n → M.1 37 (a + h) = it h) : Ct Ω l yX12_isSo cX12_isSo 6 9 (some .boolean) [.ref (Ω.2.2 34), .int (nI g), .int (nI a), .int (nI n)] M (fun ro M' => ro = some (.int (bI (fitN v g it n))) ∧ MsR M' u ∧ FS M M') := by
  have hw := hI.1
  have hn := hw.nums
  have hgo := hw.goer hg
  refine ct_of (by decide) (Nat.le_of_ble_eq_true rfl) ?_
  intro p e R s m args below meth c
  have key : ∀ (k : Nat) (h : Nat) (M1 : Mem), h + k = n ∧ MsR M1 (hrs v h) ∧ FS M M1 → X (mkG p l e R s m args below meth c Ω (fun ro M' => ro = some (.int (bI (fitN v g it n))) ∧ MsR M' u ∧ FS M M')) Ω RX12 cX12_isSo 6 9 (some .boolean) 6 [some (.ref (Ω.2.2 34)), some (.int (nI g)), some (.int (nI a)), some (.int (nI n)), some (.int (bI (fitN v g it h))), some (.int (nI h))] [] M1 := by
    intro k
    induction k with
    | zero =>
      intro h M1 hk
      obtain ⟨hk, hS1, hF1⟩ := hk
      have hI1 := hrs_Iv hI h (by omega)
      refine x_iload dX12_isSo_6 rfl ?_
      refine x_iload_n dX12_isSo_8 rfl ?_
      refine y_icmp_ge 55 dX12_isSo_9 (by omega) (by omega) (fun h_9 => ?_) (fun h_9 => ?_)
      · refine x_aload_n dX12_isSo_55 rfl ?_
        refine q_X12_223 (m_takeBack (hA.keep hF1)) dX12_isSo_56 rfl ?_
        rintro _ M9 ⟨rfl, hS9, hF9⟩
        refine x_iload dX12_isSo_59 rfl ?_
        first | refine z_iret dX12_isSo_61 ?_ | refine z_iret0 dX12_isSo_61 ?_ | refine z_iret1 dX12_isSo_61 ?_
        obtain rfl : h = n := by omega
        exact ⟨rfl, hS9, hF1.tr hF9⟩
      · exfalso; omega
    | succ k ih =>
      intro h M1 hk
      obtain ⟨hk, hS1, hF1⟩ := hk
      have hI1 := hrs_Iv hI h (by omega)
      refine x_iload dX12_isSo_6 rfl ?_
      refine x_iload_n dX12_isSo_8 rfl ?_
      refine y_icmp_ge 55 dX12_isSo_9 (by omega) (by omega) (fun h_9 => ?_) (fun h_9 => ?_)
      · refine x_aload_n dX12_isSo_55 rfl ?_
        refine q_X12_223 (m_takeBack (hA.keep hF1)) dX12_isSo_56 rfl ?_
        rintro _ M9 ⟨rfl, hS9, hF9⟩
        refine x_iload dX12_isSo_59 rfl ?_
        first | refine z_iret dX12_isSo_61 ?_ | refine z_iret0 dX12_isSo_61 ?_ | refine z_iret1 dX12_isSo_61 ?_
        obtain rfl : h = n := by omega
        exact ⟨rfl, hS9, hF1.tr hF9⟩
      · show X _ _ _ _ _ _ _ _ _ _ _
        refine x_aload_n dX12_isSo_12 rfl ?_
        refine q_X12_203 (m_oneHour hS1 hI1) dX12_isSo_13 rfl ?_
        rintro _ M2 ⟨rfl, hS2, hF2⟩
        refine x_iload dX12_isSo_16 rfl ?_
        refine z_if_eq 46 dX12_isSo_18 (fun h_18 => ?_) (fun h_18 => ?_)
        · refine x_iconst (v := bI false) dX12_isSo_46 rfl ?_
          refine x_istore dX12_isSo_47 ?_
          refine y_iinc dX12_isSo_49 rfl ?_
          refine x_goto 6 dX12_isSo_52 ?_
          have hh := ih (h + 1) _ ⟨by omega, hS2, hF1.tr hF2⟩
          first
            | (rw [show fitN v g it (h + 1) = true by rw [fitN_step, h_18, ← h_39]; simp; done] at hh; exact hh)
            | (rw [show fitN v g it (h + 1) = false by rw [fitN_step, h_18]; rfl] at hh; exact hh)
            | (rw [show fitN v g it (h + 1) = false by rw [fitN_step, h_18]; simp; exact fun z => h_39 z.symm] at hh; exact hh)
            | (rw [show fitN v g it (h + 1) = true by rw [fitN_step, h_18]; simp; exact h_39.symm] at hh; exact hh)
        · refine x_aload_n dX12_isSo_21 rfl ?_
          refine g_X12_16 dX12_isSo_22 ?_
          refine x_iload_n dX12_isSo_25 rfl ?_
          refine x_iload dX12_isSo_26 rfl ?_
          refine y_iadd dX12_isSo_28 ?_
          refine x_ial dX12_isSo_29 (⟨by decide, rfl, rfl, by decide⟩ : Ar 37 320) (by omega) ?_
          rw [hF2.2 37 (by decide), hF1.2 37 (by decide), hit h (by omega)]
          refine x_aload_n dX12_isSo_30 rfl ?_
          refine g_X12_19 dX12_isSo_31 ?_
          refine x_bipush (v := nI 33) dX12_isSo_34 rfl ?_
          refine x_iload_n dX12_isSo_36 rfl ?_
          refine y_iadd dX12_isSo_37 ?_
          refine x_ial dX12_isSo_38 (⟨by decide, rfl, rfl, by decide⟩ : Ar 38 45) (by omega) ?_
          rw [hS2.at (by omega)]
          rw [show hrV (hrs v h) = hrs v (h + 1) from rfl]
          refine x_icmp_ne 46 dX12_isSo_39 (fun h_39 => ?_) (fun h_39 => ?_)
          · refine x_iconst (v := bI false) dX12_isSo_46 rfl ?_
            refine x_istore dX12_isSo_47 ?_
            refine y_iinc dX12_isSo_49 rfl ?_
            refine x_goto 6 dX12_isSo_52 ?_
            have hh := ih (h + 1) _ ⟨by omega, hS2, hF1.tr hF2⟩
            first
              | (rw [show fitN v g it (h + 1) = true by rw [fitN_step, h_18, ← h_39]; simp; done] at hh; exact hh)
              | (rw [show fitN v g it (h + 1) = false by rw [fitN_step, h_18]; rfl] at hh; exact hh)
              | (rw [show fitN v g it (h + 1) = false by rw [fitN_step, h_18]; simp; exact fun z => h_39 z.symm] at hh; exact hh)
              | (rw [show fitN v g it (h + 1) = true by rw [fitN_step, h_18]; simp; exact h_39.symm] at hh; exact hh)
          · refine x_iconst (v := bI true) dX12_isSo_42 rfl ?_
            refine x_goto 47 dX12_isSo_43 ?_
            refine x_istore dX12_isSo_47 ?_
            refine y_iinc dX12_isSo_49 rfl ?_
            refine x_goto 6 dX12_isSo_52 ?_
            have hh := ih (h + 1) _ ⟨by omega, hS2, hF1.tr hF2⟩
            first
              | (rw [show fitN v g it (h + 1) = true by rw [fitN_step, h_18, ← h_39]; simp; done] at hh; exact hh)
              | (rw [show fitN v g it (h + 1) = false by rw [fitN_step, h_18]; rfl] at hh; exact hh)
              | (rw [show fitN v g it (h + 1) = false by rw [fitN_step, h_18]; simp; exact fun z => h_39 z.symm] at hh; exact hh)
              | (rw [show fitN v g it (h + 1) = true by rw [fitN_step, h_18]; simp; exact h_39.symm] at hh; exact hh)
  refine x_iconst (v := bI true) dX12_isSo_0 rfl ?_
  refine x_istore dX12_isSo_1 ?_
  refine y_iconst (a := 0) dX12_isSo_3 rfl ?_
  refine x_istore dX12_isSo_4 ?_
  exact key n 0 M ⟨Nat.zero_add _, hS, FS.rf⟩
set_option maxRecDepth 100000 in
set_option maxHeartbeats 4000000 in
theorem m_lacks {Ω : Om} {l : Launch} {M : Mem} {σ : Sg} (hM : IM M σ) (hW : SgW σ) {r n : Nat} {i : Int32} (hr : r < 8) (hn12 : n ≤ 12) : Ct Ω l yX12_lacks cX12_lacks 4 2 (some .int) [.ref (Ω.2.2 34), .int (nI r), .int i, .int (nI n)] M (fun ro M' => if σ.sz r = -1 then ro = some (.int (-1000011)) ∧ up1 M 34 3 (nI 1) = M' else if spn (σ.sz r) i (nI n) = true then ro = some (.int (nI 0)) ∧ M = M' else ro = some (.int (-1000012)) ∧ up1 M 34 3 (nI 2) = M') := by
  obtain ⟨_, s2, _⟩ := hM.rows r hr
  have hz := (hW.1 r hr).2
  refine ct_of (by decide) (Nat.le_of_ble_eq_true rfl) ?_
  intro p e R s m args below meth c
  refine x_aload_n dX12_lacks_0 rfl ?_
  refine g_X12_13 dX12_lacks_1 ?_
  refine x_iload_n dX12_lacks_4 rfl ?_
  refine x_ial dX12_lacks_5 (⟨by decide, rfl, rfl, by decide⟩ : Ar 36 8) (by omega) ?_
  rw [s2]
  refine x_if_ge 15 dX12_lacks_6 (fun h_6 => ?_) (fun h_6 => ?_)
  · refine x_iload_n dX12_lacks_15 rfl ?_
    refine x_i2l dX12_lacks_16 ?_
    refine x_lconst (v := lN 0) dX12_lacks_17 rfl ?_
    refine x_aload_n dX12_lacks_18 rfl ?_
    refine g_X12_13 dX12_lacks_19 ?_
    refine x_iload_n dX12_lacks_22 rfl ?_
    refine x_ial dX12_lacks_23 (⟨by decide, rfl, rfl, by decide⟩ : Ar 36 8) (by omega) ?_
    rw [s2]
    refine x_iload_n dX12_lacks_24 rfl ?_
    refine x_isub dX12_lacks_25 ?_
    refine x_i2l dX12_lacks_26 ?_
    refine q_X12_60 (m_in) dX12_lacks_27 rfl ?_
    rintro _ _ ⟨rfl, rfl⟩
    refine z_if_eq 37 dX12_lacks_30 (fun h_30 => ?_) (fun h_30 => ?_)
    · refine x_aload_n dX12_lacks_37 rfl ?_
      refine y_iconst (a := 2) dX12_lacks_38 rfl ?_
      refine q_X12_71 (m_find) dX12_lacks_39 rfl ?_
      rintro _ _ ⟨rfl, rfl⟩
      refine x_iret dX12_lacks_42 ?_
      rcases hz with hz | ⟨z, hz40, hz⟩
      · first
          | (rw [if_pos hz]; exact ⟨rfl, rfl⟩)
          | (rw [hz] at h_6; exact absurd h_6 (by decide))
      · first
          | (rw [hz, nI_toInt (by omega)] at h_6; exfalso; omega)
          | (rw [if_neg (by rw [hz]; exact nI_m1 (by omega))]
             have e : spn (σ.sz r) i (nI n) = decide ((lN 0).toInt ≤ i.toInt64.toInt ∧ i.toInt64.toInt ≤ (σ.sz r - nI n).toInt64.toInt) := by
               unfold spn
               rw [Int32.toInt_toInt64, Int32.toInt_toInt64, lN_toInt (by decide), nI_toInt (show n < 2 ^ 31 by omega)]
               exact decide_eq_decide.mpr (by omega)
             rw [e, h_30]
             first
               | (rw [if_pos rfl]; exact ⟨rfl, rfl⟩)
               | (rw [if_neg Bool.false_ne_true]; exact ⟨rfl, rfl⟩))
    · refine y_iconst (a := 0) dX12_lacks_33 rfl ?_
      refine x_goto 42 dX12_lacks_34 ?_
      refine x_iret dX12_lacks_42 ?_
      rcases hz with hz | ⟨z, hz40, hz⟩
      · first
          | (rw [if_pos hz]; exact ⟨rfl, rfl⟩)
          | (rw [hz] at h_6; exact absurd h_6 (by decide))
      · first
          | (rw [hz, nI_toInt (by omega)] at h_6; exfalso; omega)
          | (rw [if_neg (by rw [hz]; exact nI_m1 (by omega))]
             have e : spn (σ.sz r) i (nI n) = decide ((lN 0).toInt ≤ i.toInt64.toInt ∧ i.toInt64.toInt ≤ (σ.sz r - nI n).toInt64.toInt) := by
               unfold spn
               rw [Int32.toInt_toInt64, Int32.toInt_toInt64, lN_toInt (by decide), nI_toInt (show n < 2 ^ 31 by omega)]
               exact decide_eq_decide.mpr (by omega)
             rw [e, h_30]
             first
               | (rw [if_pos rfl]; exact ⟨rfl, rfl⟩)
               | (rw [if_neg Bool.false_ne_true]; exact ⟨rfl, rfl⟩))
  · refine x_aload_n dX12_lacks_9 rfl ?_
    refine y_iconst (a := 1) dX12_lacks_10 rfl ?_
    refine q_X12_71 (m_find) dX12_lacks_11 rfl ?_
    rintro _ _ ⟨rfl, rfl⟩
    refine x_iret dX12_lacks_14 ?_
    rcases hz with hz | ⟨z, hz40, hz⟩
    · first
        | (rw [if_pos hz]; exact ⟨rfl, rfl⟩)
        | (rw [hz] at h_6; exact absurd h_6 (by decide))
    · first
        | (rw [hz, nI_toInt (by omega)] at h_6; exfalso; omega)
        | (rw [if_neg (by rw [hz]; exact nI_m1 (by omega))]
           have e : spn (σ.sz r) i (nI n) = decide ((lN 0).toInt ≤ i.toInt64.toInt ∧ i.toInt64.toInt ≤ (σ.sz r - nI n).toInt64.toInt) := by
             unfold spn
             rw [Int32.toInt_toInt64, Int32.toInt_toInt64, lN_toInt (by decide), nI_toInt (show n < 2 ^ 31 by omega)]
             exact decide_eq_decide.mpr (by omega)
           rw [e, h_30]
           first
             | (rw [if_pos rfl]; exact ⟨rfl, rfl⟩)
             | (rw [if_neg Bool.false_ne_true]; exact ⟨rfl, rfl⟩))
set_option maxRecDepth 100000 in
set_option maxHeartbeats 4000000 in
theorem m_who0 {Ω : Om} {l : Launch} {M : Mem} {σ : Sg} (hM : IM M σ) (hW : SgW σ) {g o r n j : Nat} (hg : g < σ.v 2) (ho : o < σ.v 2) (hr8 : r < 8) (n1 : 1 ≤ n) (hn12 : n ≤ 12) (hin : inB (nI n) 1 12 = true) (hsz : ¬ σ.sz r = -1) (hsp : spn (σ.sz r) (nI j) (nI n) = true) (hj : j + n ≤ 40) : Ct Ω l yX12_who cX12_who 11 10 (some .int) [.ref (Ω.2.2 34), .int (nI g), .int (nI 0), .int (nI o), .int (nI r), .int (nI j), .int (nI n)] M (fun ro M' => ro = some (.int (nI (fitK 15 1 5 σ.v g o (fun h => σ.it r (j + h)) n))) ∧ IM M' (σ.uSt (nI 0)) ∧ FrC M M') := by
  have hS := hM.ms
  have hLv : Lv σ.v := hW.2.2.1
  have hw := hLv.wv
  have hn := hw.nums
  have hth := hM.there
  obtain ⟨hI, h999⟩ := hLv.goer hg
  have hgo := hw.goer hg
  obtain ⟨_, _, s3⟩ := hM.rows r hr8
  have hitm : ∀ h, h < n → M.1 37 (40 * r + j + h) = σ.it r (j + h) := fun h hh => by
    rw [Nat.add_assoc]; exact s3 (j + h) (by omega)
  refine ct_of (by decide) (Nat.le_of_ble_eq_true rfl) ?_
  intro p e R s m args below meth c
  have key : ∀ (k y : Nat) (M1 : Mem) (x7 : Option Value), y + k = 6 ∧ 1 ≤ y ∧ MsR M1 σ.v ∧ AsR M1 σ.v ∧ FQ M M1 → X (mkG p l e R s m args below meth c Ω (fun ro M' => ro = some (.int (nI (fitK 15 1 5 σ.v g o (fun h => σ.it r (j + h)) n))) ∧ IM M' (σ.uSt (nI 0)) ∧ FrC M M')) Ω RX12 cX12_who 11 10 (some .int) 122 [some (.ref (Ω.2.2 34)), some (.int (nI g)), some (.int (nI 0)), some (.int (nI o)), some (.int (nI r)), some (.int (nI j)), some (.int (nI n)), x7, some (.int (nI (15 + g))), some (.int (nI (orN (fun y => if 1 ≤ y ∧ fitN (sv σ.v (15 + g) y) o (fun h => σ.it r (j + h)) n = true then 2 ^ y else 0) y))), some (.int (nI y))] [] M1 := by
    intro k
    induction k with
    | zero =>
      intro y M1 x7 hk
      obtain ⟨hk, hlo, hS1, hA1, hF1⟩ := hk
      refine x_iload dX12_who_122 rfl ?_
      refine x_iload_n dX12_who_124 rfl ?_
      refine y_if_ne 132 dX12_who_125 (by decide) (fun h => absurd h (by decide)) (fun _ => ?_)
      refine y_iconst (a := 5) dX12_who_128 rfl ?_
      refine x_goto 134 dX12_who_129 ?_
      refine y_icmp_gt 183 dX12_who_134 (by omega) (by omega) (fun h_134 => ?_) (fun h_134 => ?_)
      · obtain rfl : y = 6 := by omega
        obtain ⟨hM1, hC1⟩ := hM.q hF1 hS1
        obtain ⟨hM2, hC2⟩ := hM1.setSt (nI 0)
        refine x_aload_n dX12_who_183 rfl ?_
        refine x_iload dX12_who_184 rfl ?_
        refine q_X12_75 (m_well) dX12_who_186 rfl ?_
        rintro _ _ ⟨rfl, rfl⟩
        refine x_iret dX12_who_189 ?_
        exact ⟨rfl, hM2, hC1.tr hC2⟩
      · exfalso; omega
    | succ k ih =>
      intro y M1 x7 hk
      obtain ⟨hk, hlo, hS1, hA1, hF1⟩ := hk
      refine x_iload dX12_who_122 rfl ?_
      refine x_iload_n dX12_who_124 rfl ?_
      refine y_if_ne 132 dX12_who_125 (by decide) (fun h => absurd h (by decide)) (fun _ => ?_)
      refine y_iconst (a := 5) dX12_who_128 rfl ?_
      refine x_goto 134 dX12_who_129 ?_
      refine y_icmp_gt 183 dX12_who_134 (by omega) (by omega) (fun h_134 => ?_) (fun h_134 => ?_)
      · exfalso; omega
      · refine x_aload_n dX12_who_137 rfl ?_
        refine g_X12_19 dX12_who_138 ?_
        refine x_iload dX12_who_141 rfl ?_
        refine x_iload dX12_who_143 rfl ?_
        refine x_ias dX12_who_145 (⟨by decide, rfl, rfl, by decide⟩ : Ar 38 45) (by omega) ?_
        have hS2 := hS1.set (15 + g) y
        have hI2 := hI.setG hg (j := 15 + g) (y := y) (by omega)
        refine x_iload dX12_who_146 rfl ?_
        refine x_aload_n dX12_who_148 rfl ?_
        refine x_iload_n dX12_who_149 rfl ?_
        refine x_bipush (v := nI 40) dX12_who_150 rfl ?_
        refine x_iload dX12_who_152 rfl ?_
        refine y_imul dX12_who_154 ?_
        refine x_iload dX12_who_155 rfl ?_
        refine y_iadd dX12_who_157 ?_
        refine x_iload dX12_who_158 rfl ?_
        refine q_X12_256 (m_isSo (it := (fun h => σ.it r (j + h))) hS2 hI2 hA1.up38 (by rw [sv_ne _ _ (by omega)]; exact ho) hn12 (by omega) (by rw [sv_ne _ _ (by omega)]; omega) (fun h hh => by rw [up1_ne _ _ _ (by decide), hF1.2 37 (by decide) (by decide) (by decide) (by decide)]; exact hitm h hh)) dX12_who_160 rfl ?_
        rintro _ M3 ⟨rfl, hS3, hF3⟩
        refine z_if_eq 173 dX12_who_163 (fun h_163 => ?_) (fun h_163 => ?_)
        · refine y_iconst (a := 0) dX12_who_173 rfl ?_
          refine y_ior dX12_who_174 ?_
          refine x_istore dX12_who_175 ?_
          refine y_iinc dX12_who_177 rfl ?_
          refine x_goto 122 dX12_who_180 ?_
          have hh := ih (y + 1) _ x7 ⟨by omega, by omega, hS3, hA1.up38.keep hF3, (hF1.s FS.rf.up).s hF3⟩
          rw [orN_succ] at hh
          first
            | (rw [if_pos ⟨hlo, h_163⟩] at hh; exact hh)
            | (rw [if_neg (fun z => Bool.false_ne_true (h_163.symm.trans z.2))] at hh; exact hh)
        · refine y_iconst (a := 1) dX12_who_166 rfl ?_
          refine x_iload dX12_who_167 rfl ?_
          refine y_ishl dX12_who_169 (by omega) ?_
          try rw [Nat.one_mul]
          refine x_goto 174 dX12_who_170 ?_
          refine y_ior dX12_who_174 ?_
          refine x_istore dX12_who_175 ?_
          refine y_iinc dX12_who_177 rfl ?_
          refine x_goto 122 dX12_who_180 ?_
          have hh := ih (y + 1) _ x7 ⟨by omega, by omega, hS3, hA1.up38.keep hF3, (hF1.s FS.rf.up).s hF3⟩
          rw [orN_succ] at hh
          first
            | (rw [if_pos ⟨hlo, h_163⟩] at hh; exact hh)
            | (rw [if_neg (fun z => Bool.false_ne_true (h_163.symm.trans z.2))] at hh; exact hh)
  refine x_aload_n dX12_who_0 rfl ?_
  refine x_iload_n dX12_who_1 rfl ?_
  refine q_X12_209 (m_isGoer hS (by omega)) dX12_who_2 rfl ?_
  rintro _ _ ⟨rfl, rfl⟩
  rw [inR_of hg (by omega)]
  refine z_if_eq 49 dX12_who_5 (fun h_5 => ?_) (fun h_5 => ?_)
  · first
      | contradiction
      | (exfalso; simp_all)
  · refine x_iload_n dX12_who_8 rfl ?_
    refine x_i2l dX12_who_9 ?_
    refine x_lconst (v := lN 0) dX12_who_10 rfl ?_
    refine x_ldc2 (v := lN 2) dX12_who_11 k_X12_68 ?_
    refine q_X12_60 (m_inB (by decide) (by decide)) dX12_who_14 rfl ?_
    rintro _ _ ⟨rfl, rfl⟩
    rw [show inB (nI 0) 0 2 = true by decide +kernel]
    refine z_if_eq 49 dX12_who_17 (fun h_17 => ?_) (fun h_17 => ?_)
    · first
        | contradiction
        | (exfalso; simp_all)
    · refine x_aload_n dX12_who_20 rfl ?_
      refine x_iload_n dX12_who_21 rfl ?_
      refine q_X12_209 (m_isGoer hS (by omega)) dX12_who_22 rfl ?_
      rintro _ _ ⟨rfl, rfl⟩
      rw [inR_of ho (by omega)]
      refine z_if_eq 49 dX12_who_25 (fun h_25 => ?_) (fun h_25 => ?_)
      · first
          | contradiction
          | (exfalso; simp_all)
      · refine x_iload dX12_who_28 rfl ?_
        refine q_X12_64 (m_isRow) dX12_who_30 rfl ?_
        rintro _ _ ⟨rfl, rfl⟩
        rw [inR_of hr8 (by omega)]
        refine z_if_eq 49 dX12_who_33 (fun h_33 => ?_) (fun h_33 => ?_)
        · first
            | contradiction
            | (exfalso; simp_all)
        · refine x_iload dX12_who_36 rfl ?_
          refine x_i2l dX12_who_38 ?_
          refine x_lconst (v := lN 1) dX12_who_39 rfl ?_
          refine x_ldc2 (v := lN 12) dX12_who_40 k_X12_250 ?_
          refine q_X12_60 (m_inB (by decide) (by decide)) dX12_who_43 rfl ?_
          rintro _ _ ⟨rfl, rfl⟩
          rw [hin]
          refine z_if_ne 54 dX12_who_46 (fun h_46 => ?_) (fun h_46 => ?_)
          · refine x_aload_n dX12_who_54 rfl ?_
            refine x_iload dX12_who_55 rfl ?_
            refine x_iload dX12_who_57 rfl ?_
            refine x_iload dX12_who_59 rfl ?_
            refine q_X12_252 (m_lacks hM hW hr8 hn12) dX12_who_61 rfl ?_
            intro ro M5 hp5
            rw [if_neg hsz, if_pos hsp] at hp5
            obtain ⟨rfl, rfl⟩ := hp5
            refine x_istore dX12_who_64 ?_
            refine x_iload dX12_who_66 rfl ?_
            refine x_if_ge 74 dX12_who_68 (fun h_68 => ?_) (fun h_68 => ?_)
            · refine x_aload_n dX12_who_74 rfl ?_
              refine q_X12_228 (m_putAside hS) dX12_who_75 rfl ?_
              rintro _ M0 ⟨rfl, hA0, hF0⟩
              have hS0 := hS.fc hF0 (by decide)
              refine x_iload_n dX12_who_78 rfl ?_
              refine y_if_ne 89 dX12_who_79 (by decide) (fun h => absurd h (by decide)) (fun _ => ?_)
              refine x_bipush (v := nI 15) dX12_who_82 rfl ?_
              refine x_iload_n dX12_who_84 rfl ?_
              refine y_iadd dX12_who_85 ?_
              refine x_goto 105 dX12_who_86 ?_
              refine x_istore dX12_who_105 ?_
              refine y_iconst (a := 0) dX12_who_107 rfl ?_
              refine x_istore dX12_who_108 ?_
              refine x_iload_n dX12_who_110 rfl ?_
              refine y_iconst (a := 2) dX12_who_111 rfl ?_
              refine y_icmp_ne 119 dX12_who_112 (by decide) (by decide) (fun _ => ?_) (fun h => absurd h (by decide))
              refine y_iconst (a := 1) dX12_who_119 rfl ?_
              refine x_istore dX12_who_120 ?_
              have hh := key 5 1 M0 (some (.int (nI 0))) ⟨by omega, by omega, hS0, hA0, FQ.rf.c hF0 (by omega)⟩
              rw [show orN (fun y => if 1 ≤ y ∧ fitN (sv σ.v (15 + g) y) o (fun h => σ.it r (j + h)) n = true then 2 ^ y else 0) 1 = 0 by simp [orN]] at hh
              exact hh
            · exfalso
              exact absurd h_68 (by decide)
          · first
              | contradiction
              | (exfalso; simp_all)
set_option maxRecDepth 100000 in
set_option maxHeartbeats 4000000 in
theorem m_who1 {Ω : Om} {l : Launch} {M : Mem} {σ : Sg} (hM : IM M σ) (hW : SgW σ) {g o r n j : Nat} (hg : g < σ.v 2) (ho : o < σ.v 2) (hr8 : r < 8) (n1 : 1 ≤ n) (hn12 : n ≤ 12) (hin : inB (nI n) 1 12 = true) (hsz : ¬ σ.sz r = -1) (hsp : spn (σ.sz r) (nI j) (nI n) = true) (hj : j + n ≤ 40) : Ct Ω l yX12_who cX12_who 11 10 (some .int) [.ref (Ω.2.2 34), .int (nI g), .int (nI 1), .int (nI o), .int (nI r), .int (nI j), .int (nI n)] M (fun ro M' => ro = some (.int (nI (fitK 21 1 30 σ.v g o (fun h => σ.it r (j + h)) n))) ∧ IM M' (σ.uSt (nI 0)) ∧ FrC M M') := by
  have hS := hM.ms
  have hLv : Lv σ.v := hW.2.2.1
  have hw := hLv.wv
  have hn := hw.nums
  have hth := hM.there
  obtain ⟨hI, h999⟩ := hLv.goer hg
  have hgo := hw.goer hg
  obtain ⟨_, _, s3⟩ := hM.rows r hr8
  have hitm : ∀ h, h < n → M.1 37 (40 * r + j + h) = σ.it r (j + h) := fun h hh => by
    rw [Nat.add_assoc]; exact s3 (j + h) (by omega)
  refine ct_of (by decide) (Nat.le_of_ble_eq_true rfl) ?_
  intro p e R s m args below meth c
  have key : ∀ (k y : Nat) (M1 : Mem) (x7 : Option Value), y + k = 31 ∧ 1 ≤ y ∧ MsR M1 σ.v ∧ AsR M1 σ.v ∧ FQ M M1 → X (mkG p l e R s m args below meth c Ω (fun ro M' => ro = some (.int (nI (fitK 21 1 30 σ.v g o (fun h => σ.it r (j + h)) n))) ∧ IM M' (σ.uSt (nI 0)) ∧ FrC M M')) Ω RX12 cX12_who 11 10 (some .int) 122 [some (.ref (Ω.2.2 34)), some (.int (nI g)), some (.int (nI 1)), some (.int (nI o)), some (.int (nI r)), some (.int (nI j)), some (.int (nI n)), x7, some (.int (nI (21 + g))), some (.int (nI (orN (fun y => if 1 ≤ y ∧ fitN (sv σ.v (21 + g) y) o (fun h => σ.it r (j + h)) n = true then 2 ^ y else 0) y))), some (.int (nI y))] [] M1 := by
    intro k
    induction k with
    | zero =>
      intro y M1 x7 hk
      obtain ⟨hk, hlo, hS1, hA1, hF1⟩ := hk
      refine x_iload dX12_who_122 rfl ?_
      refine x_iload_n dX12_who_124 rfl ?_
      refine y_if_ne 132 dX12_who_125 (by decide) (fun _ => ?_) (fun h => absurd h (by decide))
      refine x_bipush (v := nI 30) dX12_who_132 rfl ?_
      refine y_icmp_gt 183 dX12_who_134 (by omega) (by omega) (fun h_134 => ?_) (fun h_134 => ?_)
      · obtain rfl : y = 31 := by omega
        obtain ⟨hM1, hC1⟩ := hM.q hF1 hS1
        obtain ⟨hM2, hC2⟩ := hM1.setSt (nI 0)
        refine x_aload_n dX12_who_183 rfl ?_
        refine x_iload dX12_who_184 rfl ?_
        refine q_X12_75 (m_well) dX12_who_186 rfl ?_
        rintro _ _ ⟨rfl, rfl⟩
        refine x_iret dX12_who_189 ?_
        exact ⟨rfl, hM2, hC1.tr hC2⟩
      · exfalso; omega
    | succ k ih =>
      intro y M1 x7 hk
      obtain ⟨hk, hlo, hS1, hA1, hF1⟩ := hk
      refine x_iload dX12_who_122 rfl ?_
      refine x_iload_n dX12_who_124 rfl ?_
      refine y_if_ne 132 dX12_who_125 (by decide) (fun _ => ?_) (fun h => absurd h (by decide))
      refine x_bipush (v := nI 30) dX12_who_132 rfl ?_
      refine y_icmp_gt 183 dX12_who_134 (by omega) (by omega) (fun h_134 => ?_) (fun h_134 => ?_)
      · exfalso; omega
      · refine x_aload_n dX12_who_137 rfl ?_
        refine g_X12_19 dX12_who_138 ?_
        refine x_iload dX12_who_141 rfl ?_
        refine x_iload dX12_who_143 rfl ?_
        refine x_ias dX12_who_145 (⟨by decide, rfl, rfl, by decide⟩ : Ar 38 45) (by omega) ?_
        have hS2 := hS1.set (21 + g) y
        have hI2 := hI.setG hg (j := 21 + g) (y := y) (by omega)
        refine x_iload dX12_who_146 rfl ?_
        refine x_aload_n dX12_who_148 rfl ?_
        refine x_iload_n dX12_who_149 rfl ?_
        refine x_bipush (v := nI 40) dX12_who_150 rfl ?_
        refine x_iload dX12_who_152 rfl ?_
        refine y_imul dX12_who_154 ?_
        refine x_iload dX12_who_155 rfl ?_
        refine y_iadd dX12_who_157 ?_
        refine x_iload dX12_who_158 rfl ?_
        refine q_X12_256 (m_isSo (it := (fun h => σ.it r (j + h))) hS2 hI2 hA1.up38 (by rw [sv_ne _ _ (by omega)]; exact ho) hn12 (by omega) (by rw [sv_ne _ _ (by omega)]; omega) (fun h hh => by rw [up1_ne _ _ _ (by decide), hF1.2 37 (by decide) (by decide) (by decide) (by decide)]; exact hitm h hh)) dX12_who_160 rfl ?_
        rintro _ M3 ⟨rfl, hS3, hF3⟩
        refine z_if_eq 173 dX12_who_163 (fun h_163 => ?_) (fun h_163 => ?_)
        · refine y_iconst (a := 0) dX12_who_173 rfl ?_
          refine y_ior dX12_who_174 ?_
          refine x_istore dX12_who_175 ?_
          refine y_iinc dX12_who_177 rfl ?_
          refine x_goto 122 dX12_who_180 ?_
          have hh := ih (y + 1) _ x7 ⟨by omega, by omega, hS3, hA1.up38.keep hF3, (hF1.s FS.rf.up).s hF3⟩
          rw [orN_succ] at hh
          first
            | (rw [if_pos ⟨hlo, h_163⟩] at hh; exact hh)
            | (rw [if_neg (fun z => Bool.false_ne_true (h_163.symm.trans z.2))] at hh; exact hh)
        · refine y_iconst (a := 1) dX12_who_166 rfl ?_
          refine x_iload dX12_who_167 rfl ?_
          refine y_ishl dX12_who_169 (by omega) ?_
          try rw [Nat.one_mul]
          refine x_goto 174 dX12_who_170 ?_
          refine y_ior dX12_who_174 ?_
          refine x_istore dX12_who_175 ?_
          refine y_iinc dX12_who_177 rfl ?_
          refine x_goto 122 dX12_who_180 ?_
          have hh := ih (y + 1) _ x7 ⟨by omega, by omega, hS3, hA1.up38.keep hF3, (hF1.s FS.rf.up).s hF3⟩
          rw [orN_succ] at hh
          first
            | (rw [if_pos ⟨hlo, h_163⟩] at hh; exact hh)
            | (rw [if_neg (fun z => Bool.false_ne_true (h_163.symm.trans z.2))] at hh; exact hh)
  refine x_aload_n dX12_who_0 rfl ?_
  refine x_iload_n dX12_who_1 rfl ?_
  refine q_X12_209 (m_isGoer hS (by omega)) dX12_who_2 rfl ?_
  rintro _ _ ⟨rfl, rfl⟩
  rw [inR_of hg (by omega)]
  refine z_if_eq 49 dX12_who_5 (fun h_5 => ?_) (fun h_5 => ?_)
  · first
      | contradiction
      | (exfalso; simp_all)
  · refine x_iload_n dX12_who_8 rfl ?_
    refine x_i2l dX12_who_9 ?_
    refine x_lconst (v := lN 0) dX12_who_10 rfl ?_
    refine x_ldc2 (v := lN 2) dX12_who_11 k_X12_68 ?_
    refine q_X12_60 (m_inB (by decide) (by decide)) dX12_who_14 rfl ?_
    rintro _ _ ⟨rfl, rfl⟩
    rw [show inB (nI 1) 0 2 = true by decide +kernel]
    refine z_if_eq 49 dX12_who_17 (fun h_17 => ?_) (fun h_17 => ?_)
    · first
        | contradiction
        | (exfalso; simp_all)
    · refine x_aload_n dX12_who_20 rfl ?_
      refine x_iload_n dX12_who_21 rfl ?_
      refine q_X12_209 (m_isGoer hS (by omega)) dX12_who_22 rfl ?_
      rintro _ _ ⟨rfl, rfl⟩
      rw [inR_of ho (by omega)]
      refine z_if_eq 49 dX12_who_25 (fun h_25 => ?_) (fun h_25 => ?_)
      · first
          | contradiction
          | (exfalso; simp_all)
      · refine x_iload dX12_who_28 rfl ?_
        refine q_X12_64 (m_isRow) dX12_who_30 rfl ?_
        rintro _ _ ⟨rfl, rfl⟩
        rw [inR_of hr8 (by omega)]
        refine z_if_eq 49 dX12_who_33 (fun h_33 => ?_) (fun h_33 => ?_)
        · first
            | contradiction
            | (exfalso; simp_all)
        · refine x_iload dX12_who_36 rfl ?_
          refine x_i2l dX12_who_38 ?_
          refine x_lconst (v := lN 1) dX12_who_39 rfl ?_
          refine x_ldc2 (v := lN 12) dX12_who_40 k_X12_250 ?_
          refine q_X12_60 (m_inB (by decide) (by decide)) dX12_who_43 rfl ?_
          rintro _ _ ⟨rfl, rfl⟩
          rw [hin]
          refine z_if_ne 54 dX12_who_46 (fun h_46 => ?_) (fun h_46 => ?_)
          · refine x_aload_n dX12_who_54 rfl ?_
            refine x_iload dX12_who_55 rfl ?_
            refine x_iload dX12_who_57 rfl ?_
            refine x_iload dX12_who_59 rfl ?_
            refine q_X12_252 (m_lacks hM hW hr8 hn12) dX12_who_61 rfl ?_
            intro ro M5 hp5
            rw [if_neg hsz, if_pos hsp] at hp5
            obtain ⟨rfl, rfl⟩ := hp5
            refine x_istore dX12_who_64 ?_
            refine x_iload dX12_who_66 rfl ?_
            refine x_if_ge 74 dX12_who_68 (fun h_68 => ?_) (fun h_68 => ?_)
            · refine x_aload_n dX12_who_74 rfl ?_
              refine q_X12_228 (m_putAside hS) dX12_who_75 rfl ?_
              rintro _ M0 ⟨rfl, hA0, hF0⟩
              have hS0 := hS.fc hF0 (by decide)
              refine x_iload_n dX12_who_78 rfl ?_
              refine y_if_ne 89 dX12_who_79 (by decide) (fun _ => ?_) (fun h => absurd h (by decide))
              refine x_iload_n dX12_who_89 rfl ?_
              refine y_iconst (a := 1) dX12_who_90 rfl ?_
              refine y_icmp_ne 101 dX12_who_91 (by decide) (by decide) (fun h => absurd h (by decide)) (fun _ => ?_)
              refine x_bipush (v := nI 21) dX12_who_94 rfl ?_
              refine x_iload_n dX12_who_96 rfl ?_
              refine y_iadd dX12_who_97 ?_
              refine x_goto 105 dX12_who_98 ?_
              refine x_istore dX12_who_105 ?_
              refine y_iconst (a := 0) dX12_who_107 rfl ?_
              refine x_istore dX12_who_108 ?_
              refine x_iload_n dX12_who_110 rfl ?_
              refine y_iconst (a := 2) dX12_who_111 rfl ?_
              refine y_icmp_ne 119 dX12_who_112 (by decide) (by decide) (fun _ => ?_) (fun h => absurd h (by decide))
              refine y_iconst (a := 1) dX12_who_119 rfl ?_
              refine x_istore dX12_who_120 ?_
              have hh := key 30 1 M0 (some (.int (nI 0))) ⟨by omega, by omega, hS0, hA0, FQ.rf.c hF0 (by omega)⟩
              rw [show orN (fun y => if 1 ≤ y ∧ fitN (sv σ.v (21 + g) y) o (fun h => σ.it r (j + h)) n = true then 2 ^ y else 0) 1 = 0 by simp [orN]] at hh
              exact hh
            · exfalso
              exact absurd h_68 (by decide)
          · first
              | contradiction
              | (exfalso; simp_all)
set_option maxRecDepth 100000 in
set_option maxHeartbeats 4000000 in
theorem m_who2 {Ω : Om} {l : Launch} {M : Mem} {σ : Sg} (hM : IM M σ) (hW : SgW σ) {g o r n j : Nat} (hg : g < σ.v 2) (ho : o < σ.v 2) (hr8 : r < 8) (n1 : 1 ≤ n) (hn12 : n ≤ 12) (hin : inB (nI n) 1 12 = true) (hsz : ¬ σ.sz r = -1) (hsp : spn (σ.sz r) (nI j) (nI n) = true) (hj : j + n ≤ 40) : Ct Ω l yX12_who cX12_who 11 10 (some .int) [.ref (Ω.2.2 34), .int (nI g), .int (nI 2), .int (nI o), .int (nI r), .int (nI j), .int (nI n)] M (fun ro M' => ro = some (.int (nI (fitK 27 0 30 σ.v g o (fun h => σ.it r (j + h)) n))) ∧ IM M' (σ.uSt (nI 0)) ∧ FrC M M') := by
  have hS := hM.ms
  have hLv : Lv σ.v := hW.2.2.1
  have hw := hLv.wv
  have hn := hw.nums
  have hth := hM.there
  obtain ⟨hI, h999⟩ := hLv.goer hg
  have hgo := hw.goer hg
  obtain ⟨_, _, s3⟩ := hM.rows r hr8
  have hitm : ∀ h, h < n → M.1 37 (40 * r + j + h) = σ.it r (j + h) := fun h hh => by
    rw [Nat.add_assoc]; exact s3 (j + h) (by omega)
  refine ct_of (by decide) (Nat.le_of_ble_eq_true rfl) ?_
  intro p e R s m args below meth c
  have key : ∀ (k y : Nat) (M1 : Mem) (x7 : Option Value), y + k = 31 ∧ 0 ≤ y ∧ MsR M1 σ.v ∧ AsR M1 σ.v ∧ FQ M M1 → X (mkG p l e R s m args below meth c Ω (fun ro M' => ro = some (.int (nI (fitK 27 0 30 σ.v g o (fun h => σ.it r (j + h)) n))) ∧ IM M' (σ.uSt (nI 0)) ∧ FrC M M')) Ω RX12 cX12_who 11 10 (some .int) 122 [some (.ref (Ω.2.2 34)), some (.int (nI g)), some (.int (nI 2)), some (.int (nI o)), some (.int (nI r)), some (.int (nI j)), some (.int (nI n)), x7, some (.int (nI (27 + g))), some (.int (nI (orN (fun y => if 0 ≤ y ∧ fitN (sv σ.v (27 + g) y) o (fun h => σ.it r (j + h)) n = true then 2 ^ y else 0) y))), some (.int (nI y))] [] M1 := by
    intro k
    induction k with
    | zero =>
      intro y M1 x7 hk
      obtain ⟨hk, hlo, hS1, hA1, hF1⟩ := hk
      refine x_iload dX12_who_122 rfl ?_
      refine x_iload_n dX12_who_124 rfl ?_
      refine y_if_ne 132 dX12_who_125 (by decide) (fun _ => ?_) (fun h => absurd h (by decide))
      refine x_bipush (v := nI 30) dX12_who_132 rfl ?_
      refine y_icmp_gt 183 dX12_who_134 (by omega) (by omega) (fun h_134 => ?_) (fun h_134 => ?_)
      · obtain rfl : y = 31 := by omega
        obtain ⟨hM1, hC1⟩ := hM.q hF1 hS1
        obtain ⟨hM2, hC2⟩ := hM1.setSt (nI 0)
        refine x_aload_n dX12_who_183 rfl ?_
        refine x_iload dX12_who_184 rfl ?_
        refine q_X12_75 (m_well) dX12_who_186 rfl ?_
        rintro _ _ ⟨rfl, rfl⟩
        refine x_iret dX12_who_189 ?_
        exact ⟨rfl, hM2, hC1.tr hC2⟩
      · exfalso; omega
    | succ k ih =>
      intro y M1 x7 hk
      obtain ⟨hk, hlo, hS1, hA1, hF1⟩ := hk
      refine x_iload dX12_who_122 rfl ?_
      refine x_iload_n dX12_who_124 rfl ?_
      refine y_if_ne 132 dX12_who_125 (by decide) (fun _ => ?_) (fun h => absurd h (by decide))
      refine x_bipush (v := nI 30) dX12_who_132 rfl ?_
      refine y_icmp_gt 183 dX12_who_134 (by omega) (by omega) (fun h_134 => ?_) (fun h_134 => ?_)
      · exfalso; omega
      · refine x_aload_n dX12_who_137 rfl ?_
        refine g_X12_19 dX12_who_138 ?_
        refine x_iload dX12_who_141 rfl ?_
        refine x_iload dX12_who_143 rfl ?_
        refine x_ias dX12_who_145 (⟨by decide, rfl, rfl, by decide⟩ : Ar 38 45) (by omega) ?_
        have hS2 := hS1.set (27 + g) y
        have hI2 := hI.setG hg (j := 27 + g) (y := y) (by omega)
        refine x_iload dX12_who_146 rfl ?_
        refine x_aload_n dX12_who_148 rfl ?_
        refine x_iload_n dX12_who_149 rfl ?_
        refine x_bipush (v := nI 40) dX12_who_150 rfl ?_
        refine x_iload dX12_who_152 rfl ?_
        refine y_imul dX12_who_154 ?_
        refine x_iload dX12_who_155 rfl ?_
        refine y_iadd dX12_who_157 ?_
        refine x_iload dX12_who_158 rfl ?_
        refine q_X12_256 (m_isSo (it := (fun h => σ.it r (j + h))) hS2 hI2 hA1.up38 (by rw [sv_ne _ _ (by omega)]; exact ho) hn12 (by omega) (by rw [sv_ne _ _ (by omega)]; omega) (fun h hh => by rw [up1_ne _ _ _ (by decide), hF1.2 37 (by decide) (by decide) (by decide) (by decide)]; exact hitm h hh)) dX12_who_160 rfl ?_
        rintro _ M3 ⟨rfl, hS3, hF3⟩
        refine z_if_eq 173 dX12_who_163 (fun h_163 => ?_) (fun h_163 => ?_)
        · refine y_iconst (a := 0) dX12_who_173 rfl ?_
          refine y_ior dX12_who_174 ?_
          refine x_istore dX12_who_175 ?_
          refine y_iinc dX12_who_177 rfl ?_
          refine x_goto 122 dX12_who_180 ?_
          have hh := ih (y + 1) _ x7 ⟨by omega, by omega, hS3, hA1.up38.keep hF3, (hF1.s FS.rf.up).s hF3⟩
          rw [orN_succ] at hh
          first
            | (rw [if_pos ⟨hlo, h_163⟩] at hh; exact hh)
            | (rw [if_neg (fun z => Bool.false_ne_true (h_163.symm.trans z.2))] at hh; exact hh)
        · refine y_iconst (a := 1) dX12_who_166 rfl ?_
          refine x_iload dX12_who_167 rfl ?_
          refine y_ishl dX12_who_169 (by omega) ?_
          try rw [Nat.one_mul]
          refine x_goto 174 dX12_who_170 ?_
          refine y_ior dX12_who_174 ?_
          refine x_istore dX12_who_175 ?_
          refine y_iinc dX12_who_177 rfl ?_
          refine x_goto 122 dX12_who_180 ?_
          have hh := ih (y + 1) _ x7 ⟨by omega, by omega, hS3, hA1.up38.keep hF3, (hF1.s FS.rf.up).s hF3⟩
          rw [orN_succ] at hh
          first
            | (rw [if_pos ⟨hlo, h_163⟩] at hh; exact hh)
            | (rw [if_neg (fun z => Bool.false_ne_true (h_163.symm.trans z.2))] at hh; exact hh)
  refine x_aload_n dX12_who_0 rfl ?_
  refine x_iload_n dX12_who_1 rfl ?_
  refine q_X12_209 (m_isGoer hS (by omega)) dX12_who_2 rfl ?_
  rintro _ _ ⟨rfl, rfl⟩
  rw [inR_of hg (by omega)]
  refine z_if_eq 49 dX12_who_5 (fun h_5 => ?_) (fun h_5 => ?_)
  · first
      | contradiction
      | (exfalso; simp_all)
  · refine x_iload_n dX12_who_8 rfl ?_
    refine x_i2l dX12_who_9 ?_
    refine x_lconst (v := lN 0) dX12_who_10 rfl ?_
    refine x_ldc2 (v := lN 2) dX12_who_11 k_X12_68 ?_
    refine q_X12_60 (m_inB (by decide) (by decide)) dX12_who_14 rfl ?_
    rintro _ _ ⟨rfl, rfl⟩
    rw [show inB (nI 2) 0 2 = true by decide +kernel]
    refine z_if_eq 49 dX12_who_17 (fun h_17 => ?_) (fun h_17 => ?_)
    · first
        | contradiction
        | (exfalso; simp_all)
    · refine x_aload_n dX12_who_20 rfl ?_
      refine x_iload_n dX12_who_21 rfl ?_
      refine q_X12_209 (m_isGoer hS (by omega)) dX12_who_22 rfl ?_
      rintro _ _ ⟨rfl, rfl⟩
      rw [inR_of ho (by omega)]
      refine z_if_eq 49 dX12_who_25 (fun h_25 => ?_) (fun h_25 => ?_)
      · first
          | contradiction
          | (exfalso; simp_all)
      · refine x_iload dX12_who_28 rfl ?_
        refine q_X12_64 (m_isRow) dX12_who_30 rfl ?_
        rintro _ _ ⟨rfl, rfl⟩
        rw [inR_of hr8 (by omega)]
        refine z_if_eq 49 dX12_who_33 (fun h_33 => ?_) (fun h_33 => ?_)
        · first
            | contradiction
            | (exfalso; simp_all)
        · refine x_iload dX12_who_36 rfl ?_
          refine x_i2l dX12_who_38 ?_
          refine x_lconst (v := lN 1) dX12_who_39 rfl ?_
          refine x_ldc2 (v := lN 12) dX12_who_40 k_X12_250 ?_
          refine q_X12_60 (m_inB (by decide) (by decide)) dX12_who_43 rfl ?_
          rintro _ _ ⟨rfl, rfl⟩
          rw [hin]
          refine z_if_ne 54 dX12_who_46 (fun h_46 => ?_) (fun h_46 => ?_)
          · refine x_aload_n dX12_who_54 rfl ?_
            refine x_iload dX12_who_55 rfl ?_
            refine x_iload dX12_who_57 rfl ?_
            refine x_iload dX12_who_59 rfl ?_
            refine q_X12_252 (m_lacks hM hW hr8 hn12) dX12_who_61 rfl ?_
            intro ro M5 hp5
            rw [if_neg hsz, if_pos hsp] at hp5
            obtain ⟨rfl, rfl⟩ := hp5
            refine x_istore dX12_who_64 ?_
            refine x_iload dX12_who_66 rfl ?_
            refine x_if_ge 74 dX12_who_68 (fun h_68 => ?_) (fun h_68 => ?_)
            · refine x_aload_n dX12_who_74 rfl ?_
              refine q_X12_228 (m_putAside hS) dX12_who_75 rfl ?_
              rintro _ M0 ⟨rfl, hA0, hF0⟩
              have hS0 := hS.fc hF0 (by decide)
              refine x_iload_n dX12_who_78 rfl ?_
              refine y_if_ne 89 dX12_who_79 (by decide) (fun _ => ?_) (fun h => absurd h (by decide))
              refine x_iload_n dX12_who_89 rfl ?_
              refine y_iconst (a := 1) dX12_who_90 rfl ?_
              refine y_icmp_ne 101 dX12_who_91 (by decide) (by decide) (fun _ => ?_) (fun h => absurd h (by decide))
              refine x_bipush (v := nI 27) dX12_who_101 rfl ?_
              refine x_iload_n dX12_who_103 rfl ?_
              refine y_iadd dX12_who_104 ?_
              refine x_istore dX12_who_105 ?_
              refine y_iconst (a := 0) dX12_who_107 rfl ?_
              refine x_istore dX12_who_108 ?_
              refine x_iload_n dX12_who_110 rfl ?_
              refine y_iconst (a := 2) dX12_who_111 rfl ?_
              refine y_icmp_ne 119 dX12_who_112 (by decide) (by decide) (fun h => absurd h (by decide)) (fun _ => ?_)
              refine y_iconst (a := 0) dX12_who_115 rfl ?_
              refine x_goto 120 dX12_who_116 ?_
              refine x_istore dX12_who_120 ?_
              exact key 31 0 M0 (some (.int (nI 0))) ⟨by omega, by omega, hS0, hA0, FQ.rf.c hF0 (by omega)⟩
            · exfalso
              exact absurd h_68 (by decide)
          · first
              | contradiction
              | (exfalso; simp_all)
