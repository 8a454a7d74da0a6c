/-! FORETOLD, first part (laid by gen_fore1.py) -/
theorem Lk65 : Lk 65 := ⟨by decide, by decide, by decide⟩
theorem Lk73 : Lk 73 := ⟨by decide, by decide, by decide⟩
theorem Lk49 : Lk 49 := ⟨by decide, by decide, by decide⟩
theorem Lk57 : Lk 57 := ⟨by decide, by decide, by decide⟩
set_option maxRecDepth 100000 in
set_option maxHeartbeats 4000000 in
theorem c_after {Ω : Om} {l : Launch} {M : Mem} {b : Nat} {v : Nat → Nat} (hb : Lk b) (hb5 : b ≠ 65) (hR : LkR M b v) (hI : Iv v) {n : Nat} (hn60 : n ≤ 60) (hh : v 3 ≤ 4000) : Ct Ω l yX5_after cX5_after 4 6 (some (.object "LadderSprings$Lake")) [.ref (Ω.2.2 14), .ref (Ω.2.2 b), .int (nI n)] M (fun r M' => r = some (.ref (Ω.2.2 65)) ∧ LkR M' 65 (hrs v n) ∧ Fr 65 M M') := by
  have hw := hI.1
  have hn := hw.nums
  have hL65 : Lk 65 := Lk65
  have hL73 : Lk 73 := Lk73
  refine ct_of (by decide) (Nat.le_of_ble_eq_true rfl) ?_
  intro p e R s m args below meth c
  have key : ∀ (k : Nat) (h : Nat) (M1 : Mem), h + k = n ∧ LkR M1 65 (hrs v h) ∧ Fr 65 M M1 → X (mkG p l e R s m args below meth c Ω (fun r M' => r = some (.ref (Ω.2.2 65)) ∧ LkR M' 65 (hrs v n) ∧ Fr 65 M M')) Ω RX5 cX5_after 4 6 (some (.object "LadderSprings$Lake")) 10 [some (.ref (Ω.2.2 14)), some (.ref (Ω.2.2 b)), some (.int (nI n)), some (.int (nI h))] [] M1 := by
    intro k
    induction k with
    | zero =>
      intro h M1 hk
      obtain ⟨hk, hR1, hF1⟩ := hk
      have hne := hrs_ne hw h (by omega)
      refine x_iload_n dX5_after_10 rfl ?_
      refine x_iload_n dX5_after_11 rfl ?_
      refine y_icmp_ge 28 dX5_after_12 (by omega) (by omega) (fun h_12 => ?_) (fun h_12 => ?_)
      · refine x_aload_n dX5_after_28 rfl ?_
        refine g_X5_30 dX5_after_29 ?_
        refine x_aret dX5_after_32 (Or.inr ⟨_, rfl⟩) ?_
        obtain rfl : h = n := by omega
        exact ⟨rfl, hR1, hF1⟩
      · exfalso; omega
    | succ k ih =>
      intro h M1 hk
      obtain ⟨hk, hR1, hF1⟩ := hk
      have hne := hrs_ne hw h (by omega)
      refine x_iload_n dX5_after_10 rfl ?_
      refine x_iload_n dX5_after_11 rfl ?_
      refine y_icmp_ge 28 dX5_after_12 (by omega) (by omega) (fun h_12 => ?_) (fun h_12 => ?_)
      · refine x_aload_n dX5_after_28 rfl ?_
        refine g_X5_30 dX5_after_29 ?_
        refine x_aret dX5_after_32 (Or.inr ⟨_, rfl⟩) ?_
        obtain rfl : h = n := by omega
        exact ⟨rfl, hR1, hF1⟩
      · refine x_aload_n dX5_after_15 rfl ?_
        refine g_X5_30 dX5_after_16 ?_
        refine q_X5_41 (c_runHour Lk65 hR1 hne.1) dX5_after_19 rfl ?_
        rintro _ M2 ⟨rfl, hR2, hF2⟩
        refine y_iinc dX5_after_22 rfl ?_
        refine x_goto 10 dX5_after_25 ?_
        exact ih (h + 1) _ ⟨by omega, hR2, hF1.tr hF2⟩
  refine x_aload_n dX5_after_0 rfl ?_
  refine g_X5_30 dX5_after_1 ?_
  refine x_aload_n dX5_after_4 rfl ?_
  refine q_X5_37 (c_become Lk65 hb hb5 hR hw) dX5_after_5 rfl ?_
  rintro _ M0 ⟨rfl, hR0, hF0⟩
  refine y_iconst (a := 0) dX5_after_8 rfl ?_
  refine x_istore_n dX5_after_9 ?_
  exact key _ 0 _ ⟨Nat.zero_add _, hR0, hF0⟩
set_option maxRecDepth 100000 in
set_option maxHeartbeats 4000000 in
theorem c_whenAbove {Ω : Om} {l : Launch} {M : Mem} {b : Nat} {v : Nat → Nat} (hb : Lk b) (hb5 : b ≠ 65) (hR : LkR M b v) (hI : Iv v) {g : Nat} (hg : g < v 2) (hh : v 3 ≤ 4000) : Ct Ω l yX5_whenAbove cX5_whenAbove 4 6 (some .int) [.ref (Ω.2.2 14), .ref (Ω.2.2 b), .int (nI g)] M (fun r M' => r = some (.int (nO (fnd (fun n => abv (hrs v n) g) 60 0))) ∧ Fr 65 M M') := by
  have hw := hI.1
  have hn := hw.nums
  have hL65 : Lk 65 := Lk65
  have hL73 : Lk 73 := Lk73
  refine ct_of (by decide) (Nat.le_of_ble_eq_true rfl) ?_
  intro p e R s m args below meth c
  have key : ∀ (k : Nat) (h : Nat) (M1 : Mem), h + k = 60 ∧ LkR M1 65 (hrs v h) ∧ Fr 65 M M1 ∧ (∀ i, i < h → abv (hrs v i) g = false) → X (mkG p l e R s m args below meth c Ω (fun r M' => r = some (.int (nO (fnd (fun n => abv (hrs v n) g) 60 0))) ∧ Fr 65 M M')) Ω RX5 cX5_whenAbove 4 6 (some .int) 10 [some (.ref (Ω.2.2 14)), some (.ref (Ω.2.2 b)), some (.int (nI g)), some (.int (nI h))] [] M1 := by
    intro k
    induction k with
    | zero =>
      intro h M1 hk
      obtain ⟨hk, hR1, hF1, hal⟩ := hk
      have hne := hrs_ne hw h (by omega)
      have hI1 := hrs_Iv hI h (by omega)
      have hg1 : g < hrs v h 2 := by rw [hne.2.1 2 (by omega) (by omega)]; exact hg
      have h01 : 1 ≤ hrs v h 0 := by have := hI1.2.1; omega
      refine x_iload_n dX5_whenAbove_10 rfl ?_
      refine x_bipush (v := nI 60) dX5_whenAbove_11 rfl ?_
      refine y_icmp_ge 40 dX5_whenAbove_13 (by omega) (by omega) (fun h_13 => ?_) (fun h_13 => ?_)
      · refine x_aload_n dX5_whenAbove_40 rfl ?_
        refine g_X5_30 dX5_whenAbove_41 ?_
        refine x_iload_n dX5_whenAbove_44 rfl ?_
        refine q_X5_48 (c_isAbove Lk65 hR1 hne.1 hg1) dX5_whenAbove_45 rfl ?_
        rintro _ _ ⟨rfl, rfl⟩
        refine z_if_eq 66 dX5_whenAbove_48 (fun h_48 => ?_) (fun h_48 => ?_)
        · refine x_ldc dX5_whenAbove_66 k_X5_55 ?_
          refine x_iret dX5_whenAbove_68 ?_
          first
            | (have hf : fnd (fun n => abv (hrs v n) g) 60 0 = some h := fnd_some (by omega) (by omega) h_48 (fun i _ hi => hal i hi)
               rw [hf]
               exact ⟨rfl, hF1⟩)
            | (have hf : fnd (fun n => abv (hrs v n) g) 60 0 = none := by
                 refine fnd_none (fun i _ hi => ?_)
                 rcases Nat.lt_or_ge i h with z | z
                 · exact hal i z
                 · rcases Nat.eq_or_lt_of_le z with z | z
                   · rw [← z]; exact h_48
                   · have := never hI1 hg1 (by first | exact h_24 | (exfalso; omega)) h_48 (n := i - h) (by rw [hne.2.2]; omega)
                     rw [← hrs_add, show h + (i - h) = i by omega] at this
                     exact this
               rw [hf]
               exact ⟨rfl, hF1⟩)
        · have hRb := hR.keep hF1 hb Lk65 hb5
          refine x_aload_n dX5_whenAbove_51 rfl ?_
          refine g_X5_30 dX5_whenAbove_52 ?_
          refine g_X5_51 dX5_whenAbove_55 ?_
          rw [hR1.hour, hne.2.2]
          refine x_aload_n dX5_whenAbove_58 rfl ?_
          refine g_X5_51 dX5_whenAbove_59 ?_
          rw [hRb.hour]
          refine y_isub dX5_whenAbove_62 (by omega) ?_
          rw [Nat.add_sub_cancel_left]
          refine x_goto 68 dX5_whenAbove_63 ?_
          refine x_iret dX5_whenAbove_68 ?_
          first
            | (have hf : fnd (fun n => abv (hrs v n) g) 60 0 = some h := fnd_some (by omega) (by omega) h_48 (fun i _ hi => hal i hi)
               rw [hf]
               exact ⟨rfl, hF1⟩)
            | (have hf : fnd (fun n => abv (hrs v n) g) 60 0 = none := by
                 refine fnd_none (fun i _ hi => ?_)
                 rcases Nat.lt_or_ge i h with z | z
                 · exact hal i z
                 · rcases Nat.eq_or_lt_of_le z with z | z
                   · rw [← z]; exact h_48
                   · have := never hI1 hg1 (by first | exact h_24 | (exfalso; omega)) h_48 (n := i - h) (by rw [hne.2.2]; omega)
                     rw [← hrs_add, show h + (i - h) = i by omega] at this
                     exact this
               rw [hf]
               exact ⟨rfl, hF1⟩)
      · exfalso; omega
    | succ k ih =>
      intro h M1 hk
      obtain ⟨hk, hR1, hF1, hal⟩ := hk
      have hne := hrs_ne hw h (by omega)
      have hI1 := hrs_Iv hI h (by omega)
      have hg1 : g < hrs v h 2 := by rw [hne.2.1 2 (by omega) (by omega)]; exact hg
      have h01 : 1 ≤ hrs v h 0 := by have := hI1.2.1; omega
      refine x_iload_n dX5_whenAbove_10 rfl ?_
      refine x_bipush (v := nI 60) dX5_whenAbove_11 rfl ?_
      refine y_icmp_ge 40 dX5_whenAbove_13 (by omega) (by omega) (fun h_13 => ?_) (fun h_13 => ?_)
      · refine x_aload_n dX5_whenAbove_40 rfl ?_
        refine g_X5_30 dX5_whenAbove_41 ?_
        refine x_iload_n dX5_whenAbove_44 rfl ?_
        refine q_X5_48 (c_isAbove Lk65 hR1 hne.1 hg1) dX5_whenAbove_45 rfl ?_
        rintro _ _ ⟨rfl, rfl⟩
        refine z_if_eq 66 dX5_whenAbove_48 (fun h_48 => ?_) (fun h_48 => ?_)
        · refine x_ldc dX5_whenAbove_66 k_X5_55 ?_
          refine x_iret dX5_whenAbove_68 ?_
          first
            | (have hf : fnd (fun n => abv (hrs v n) g) 60 0 = some h := fnd_some (by omega) (by omega) h_48 (fun i _ hi => hal i hi)
               rw [hf]
               exact ⟨rfl, hF1⟩)
            | (have hf : fnd (fun n => abv (hrs v n) g) 60 0 = none := by
                 refine fnd_none (fun i _ hi => ?_)
                 rcases Nat.lt_or_ge i h with z | z
                 · exact hal i z
                 · rcases Nat.eq_or_lt_of_le z with z | z
                   · rw [← z]; exact h_48
                   · have := never hI1 hg1 (by first | exact h_24 | (exfalso; omega)) h_48 (n := i - h) (by rw [hne.2.2]; omega)
                     rw [← hrs_add, show h + (i - h) = i by omega] at this
                     exact this
               rw [hf]
               exact ⟨rfl, hF1⟩)
        · have hRb := hR.keep hF1 hb Lk65 hb5
          refine x_aload_n dX5_whenAbove_51 rfl ?_
          refine g_X5_30 dX5_whenAbove_52 ?_
          refine g_X5_51 dX5_whenAbove_55 ?_
          rw [hR1.hour, hne.2.2]
          refine x_aload_n dX5_whenAbove_58 rfl ?_
          refine g_X5_51 dX5_whenAbove_59 ?_
          rw [hRb.hour]
          refine y_isub dX5_whenAbove_62 (by omega) ?_
          rw [Nat.add_sub_cancel_left]
          refine x_goto 68 dX5_whenAbove_63 ?_
          refine x_iret dX5_whenAbove_68 ?_
          first
            | (have hf : fnd (fun n => abv (hrs v n) g) 60 0 = some h := fnd_some (by omega) (by omega) h_48 (fun i _ hi => hal i hi)
               rw [hf]
               exact ⟨rfl, hF1⟩)
            | (have hf : fnd (fun n => abv (hrs v n) g) 60 0 = none := by
                 refine fnd_none (fun i _ hi => ?_)
                 rcases Nat.lt_or_ge i h with z | z
                 · exact hal i z
                 · rcases Nat.eq_or_lt_of_le z with z | z
                   · rw [← z]; exact h_48
                   · have := never hI1 hg1 (by first | exact h_24 | (exfalso; omega)) h_48 (n := i - h) (by rw [hne.2.2]; omega)
                     rw [← hrs_add, show h + (i - h) = i by omega] at this
                     exact this
               rw [hf]
               exact ⟨rfl, hF1⟩)
      · refine x_aload_n dX5_whenAbove_16 rfl ?_
        refine g_X5_30 dX5_whenAbove_17 ?_
        refine x_iload_n dX5_whenAbove_20 rfl ?_
        refine q_X5_44 (c_mayRise Lk65 hR1 hne.1 h01 hg1) dX5_whenAbove_21 rfl ?_
        rintro _ _ ⟨rfl, rfl⟩
        refine z_if_eq 40 dX5_whenAbove_24 (fun h_24 => ?_) (fun h_24 => ?_)
        · refine x_aload_n dX5_whenAbove_40 rfl ?_
          refine g_X5_30 dX5_whenAbove_41 ?_
          refine x_iload_n dX5_whenAbove_44 rfl ?_
          refine q_X5_48 (c_isAbove Lk65 hR1 hne.1 hg1) dX5_whenAbove_45 rfl ?_
          rintro _ _ ⟨rfl, rfl⟩
          refine z_if_eq 66 dX5_whenAbove_48 (fun h_48 => ?_) (fun h_48 => ?_)
          · refine x_ldc dX5_whenAbove_66 k_X5_55 ?_
            refine x_iret dX5_whenAbove_68 ?_
            first
              | (have hf : fnd (fun n => abv (hrs v n) g) 60 0 = some h := fnd_some (by omega) (by omega) h_48 (fun i _ hi => hal i hi)
                 rw [hf]
                 exact ⟨rfl, hF1⟩)
              | (have hf : fnd (fun n => abv (hrs v n) g) 60 0 = none := by
                   refine fnd_none (fun i _ hi => ?_)
                   rcases Nat.lt_or_ge i h with z | z
                   · exact hal i z
                   · rcases Nat.eq_or_lt_of_le z with z | z
                     · rw [← z]; exact h_48
                     · have := never hI1 hg1 (by first | exact h_24 | (exfalso; omega)) h_48 (n := i - h) (by rw [hne.2.2]; omega)
                       rw [← hrs_add, show h + (i - h) = i by omega] at this
                       exact this
                 rw [hf]
                 exact ⟨rfl, hF1⟩)
          · have hRb := hR.keep hF1 hb Lk65 hb5
            refine x_aload_n dX5_whenAbove_51 rfl ?_
            refine g_X5_30 dX5_whenAbove_52 ?_
            refine g_X5_51 dX5_whenAbove_55 ?_
            rw [hR1.hour, hne.2.2]
            refine x_aload_n dX5_whenAbove_58 rfl ?_
            refine g_X5_51 dX5_whenAbove_59 ?_
            rw [hRb.hour]
            refine y_isub dX5_whenAbove_62 (by omega) ?_
            rw [Nat.add_sub_cancel_left]
            refine x_goto 68 dX5_whenAbove_63 ?_
            refine x_iret dX5_whenAbove_68 ?_
            first
              | (have hf : fnd (fun n => abv (hrs v n) g) 60 0 = some h := fnd_some (by omega) (by omega) h_48 (fun i _ hi => hal i hi)
                 rw [hf]
                 exact ⟨rfl, hF1⟩)
              | (have hf : fnd (fun n => abv (hrs v n) g) 60 0 = none := by
                   refine fnd_none (fun i _ hi => ?_)
                   rcases Nat.lt_or_ge i h with z | z
                   · exact hal i z
                   · rcases Nat.eq_or_lt_of_le z with z | z
                     · rw [← z]; exact h_48
                     · have := never hI1 hg1 (by first | exact h_24 | (exfalso; omega)) h_48 (n := i - h) (by rw [hne.2.2]; omega)
                       rw [← hrs_add, show h + (i - h) = i by omega] at this
                       exact this
                 rw [hf]
                 exact ⟨rfl, hF1⟩)
        · refine x_aload_n dX5_whenAbove_27 rfl ?_
          refine g_X5_30 dX5_whenAbove_28 ?_
          refine q_X5_41 (c_runHour Lk65 hR1 hne.1) dX5_whenAbove_31 rfl ?_
          rintro _ M2 ⟨rfl, hR2, hF2⟩
          refine y_iinc dX5_whenAbove_34 rfl ?_
          refine x_goto 10 dX5_whenAbove_37 ?_
          refine ih (h + 1) _ ⟨by omega, hR2, hF1.tr hF2, fun i hi => ?_⟩
          rcases Nat.lt_or_ge i h with z | z
          · exact hal i z
          · obtain rfl : i = h := by omega
            unfold mayR at h_24
            simp only [Bool.and_eq_true, decide_eq_true_eq] at h_24
            simp only [abv, decide_eq_false_iff_not]
            omega
  refine x_aload_n dX5_whenAbove_0 rfl ?_
  refine g_X5_30 dX5_whenAbove_1 ?_
  refine x_aload_n dX5_whenAbove_4 rfl ?_
  refine q_X5_37 (c_become Lk65 hb hb5 hR hw) dX5_whenAbove_5 rfl ?_
  rintro _ M0 ⟨rfl, hR0, hF0⟩
  refine y_iconst (a := 0) dX5_whenAbove_8 rfl ?_
  refine x_istore_n dX5_whenAbove_9 ?_
  exact key _ 0 _ ⟨Nat.zero_add _, hR0, hF0, fun i hi => by omega⟩
set_option maxRecDepth 100000 in
set_option maxHeartbeats 4000000 in
theorem c_comesAbove {Ω : Om} {l : Launch} {M : Mem} {v : Nat → Nat} (hR : LkR M 65 v) (hI : Iv v) {g n : Nat} (hg : g < v 2) (hn60 : n ≤ 60) (hh : v 3 ≤ 4000) : Ct Ω l yX5_comesAbove cX5_comesAbove 4 6 (some .boolean) [.ref (Ω.2.2 14), .int (nI g), .int (nI n)] M (fun r M' => r = some (.int (bI (abv (hrs v n) g))) ∧ Fr 65 M M') := by
  have hw := hI.1
  have hn := hw.nums
  have hL65 : Lk 65 := Lk65
  have hL73 : Lk 73 := Lk73
  refine ct_of (by decide) (Nat.le_of_ble_eq_true rfl) ?_
  intro p e R s m args below meth c
  have key : ∀ (k : Nat) (h : Nat) (M1 : Mem), h + k = n ∧ LkR M1 65 (hrs v h) ∧ Fr 65 M M1 → X (mkG p l e R s m args below meth c Ω (fun r M' => r = some (.int (bI (abv (hrs v n) g))) ∧ Fr 65 M M')) Ω RX5 cX5_comesAbove 4 6 (some .boolean) 2 [some (.ref (Ω.2.2 14)), some (.int (nI g)), some (.int (nI n)), some (.int (nI h))] [] M1 := by
    intro k
    induction k with
    | zero =>
      intro h M1 hk
      obtain ⟨hk, hR1, hF1⟩ := hk
      have hne := hrs_ne hw h (by omega)
      have hI1 := hrs_Iv hI h (by omega)
      have hg1 : g < hrs v h 2 := by rw [hne.2.1 2 (by omega) (by omega)]; exact hg
      have h01 : 1 ≤ hrs v h 0 := by have := hI1.2.1; omega
      refine x_iload_n dX5_comesAbove_2 rfl ?_
      refine x_iload_n dX5_comesAbove_3 rfl ?_
      refine y_icmp_ge 31 dX5_comesAbove_4 (by omega) (by omega) (fun h_4 => ?_) (fun h_4 => ?_)
      · refine x_aload_n dX5_comesAbove_31 rfl ?_
        refine g_X5_30 dX5_comesAbove_32 ?_
        refine x_iload_n dX5_comesAbove_35 rfl ?_
        refine q_X5_48 (c_isAbove Lk65 hR1 hne.1 hg1) dX5_comesAbove_36 rfl ?_
        rintro _ _ ⟨rfl, rfl⟩
        first | refine z_iret dX5_comesAbove_39 ?_ | refine z_iret0 dX5_comesAbove_39 ?_ | refine z_iret1 dX5_comesAbove_39 ?_
        refine ⟨congrArg (fun z => some (Value.int (bI z))) ?_, hF1⟩
        rcases ha : abv (hrs v h) g with _ | _
        · first
            | (have := never hI1 hg1 h_15 ha (n := n - h) (by rw [hne.2.2]; omega)
               rw [← hrs_add, show h + (n - h) = n by omega] at this
               rw [this])
            | (obtain rfl : h = n := by omega
               rw [ha])
        · have := abv_hrs hne.1 hg1 ha (n - h) (by rw [hne.2.2]; omega)
          rw [← hrs_add, show h + (n - h) = n by omega] at this
          rw [this]
      · exfalso; omega
    | succ k ih =>
      intro h M1 hk
      obtain ⟨hk, hR1, hF1⟩ := hk
      have hne := hrs_ne hw h (by omega)
      have hI1 := hrs_Iv hI h (by omega)
      have hg1 : g < hrs v h 2 := by rw [hne.2.1 2 (by omega) (by omega)]; exact hg
      have h01 : 1 ≤ hrs v h 0 := by have := hI1.2.1; omega
      refine x_iload_n dX5_comesAbove_2 rfl ?_
      refine x_iload_n dX5_comesAbove_3 rfl ?_
      refine y_icmp_ge 31 dX5_comesAbove_4 (by omega) (by omega) (fun h_4 => ?_) (fun h_4 => ?_)
      · refine x_aload_n dX5_comesAbove_31 rfl ?_
        refine g_X5_30 dX5_comesAbove_32 ?_
        refine x_iload_n dX5_comesAbove_35 rfl ?_
        refine q_X5_48 (c_isAbove Lk65 hR1 hne.1 hg1) dX5_comesAbove_36 rfl ?_
        rintro _ _ ⟨rfl, rfl⟩
        first | refine z_iret dX5_comesAbove_39 ?_ | refine z_iret0 dX5_comesAbove_39 ?_ | refine z_iret1 dX5_comesAbove_39 ?_
        refine ⟨congrArg (fun z => some (Value.int (bI z))) ?_, hF1⟩
        rcases ha : abv (hrs v h) g with _ | _
        · first
            | (have := never hI1 hg1 h_15 ha (n := n - h) (by rw [hne.2.2]; omega)
               rw [← hrs_add, show h + (n - h) = n by omega] at this
               rw [this])
            | (obtain rfl : h = n := by omega
               rw [ha])
        · have := abv_hrs hne.1 hg1 ha (n - h) (by rw [hne.2.2]; omega)
          rw [← hrs_add, show h + (n - h) = n by omega] at this
          rw [this]
      · refine x_aload_n dX5_comesAbove_7 rfl ?_
        refine g_X5_30 dX5_comesAbove_8 ?_
        refine x_iload_n dX5_comesAbove_11 rfl ?_
        refine q_X5_44 (c_mayRise Lk65 hR1 hne.1 h01 hg1) dX5_comesAbove_12 rfl ?_
        rintro _ _ ⟨rfl, rfl⟩
        refine z_if_eq 31 dX5_comesAbove_15 (fun h_15 => ?_) (fun h_15 => ?_)
        · refine x_aload_n dX5_comesAbove_31 rfl ?_
          refine g_X5_30 dX5_comesAbove_32 ?_
          refine x_iload_n dX5_comesAbove_35 rfl ?_
          refine q_X5_48 (c_isAbove Lk65 hR1 hne.1 hg1) dX5_comesAbove_36 rfl ?_
          rintro _ _ ⟨rfl, rfl⟩
          first | refine z_iret dX5_comesAbove_39 ?_ | refine z_iret0 dX5_comesAbove_39 ?_ | refine z_iret1 dX5_comesAbove_39 ?_
          refine ⟨congrArg (fun z => some (Value.int (bI z))) ?_, hF1⟩
          rcases ha : abv (hrs v h) g with _ | _
          · first
              | (have := never hI1 hg1 h_15 ha (n := n - h) (by rw [hne.2.2]; omega)
                 rw [← hrs_add, show h + (n - h) = n by omega] at this
                 rw [this])
              | (obtain rfl : h = n := by omega
                 rw [ha])
          · have := abv_hrs hne.1 hg1 ha (n - h) (by rw [hne.2.2]; omega)
            rw [← hrs_add, show h + (n - h) = n by omega] at this
            rw [this]
        · refine x_aload_n dX5_comesAbove_18 rfl ?_
          refine g_X5_30 dX5_comesAbove_19 ?_
          refine q_X5_41 (c_runHour Lk65 hR1 hne.1) dX5_comesAbove_22 rfl ?_
          rintro _ M2 ⟨rfl, hR2, hF2⟩
          refine y_iinc dX5_comesAbove_25 rfl ?_
          refine x_goto 2 dX5_comesAbove_28 ?_
          exact ih (h + 1) _ ⟨by omega, hR2, hF1.tr hF2⟩
  refine y_iconst (a := 0) dX5_comesAbove_0 rfl ?_
  refine x_istore_n dX5_comesAbove_1 ?_
  exact key _ 0 _ ⟨Nat.zero_add _, hR, Fr.rf⟩
set_option maxRecDepth 100000 in
set_option maxHeartbeats 4000000 in
theorem c_whenBroken {Ω : Om} {l : Launch} {M : Mem} {b : Nat} {v : Nat → Nat} (hb : Lk b) (hb5 : b ≠ 65) (hR : LkR M b v) (hI : Iv v) {q : Nat} (hq : q < 512) (hh : v 3 ≤ 4000) : Ct Ω l yX5_whenBroken cX5_whenBroken 4 6 (some .int) [.ref (Ω.2.2 14), .ref (Ω.2.2 b), .int (nI q)] M (fun r M' => r = some (.int (nO (fnd (fun n => !decide (brkS (hrs v n) &&& q = 0)) 60 0))) ∧ (∀ h, fnd (fun n => !decide (brkS (hrs v n) &&& q = 0)) 60 0 = some h → LkR M' 65 (hrs v h)) ∧ Fr 65 M M') := by
  have hw := hI.1
  have hn := hw.nums
  have hL65 : Lk 65 := Lk65
  have hL73 : Lk 73 := Lk73
  refine ct_of (by decide) (Nat.le_of_ble_eq_true rfl) ?_
  intro p e R s m args below meth c
  have key : ∀ (k : Nat) (h : Nat) (M1 : Mem), h + k = 61 ∧ LkR M1 65 (hrs v h) ∧ Fr 65 M M1 ∧ (∀ i, i < h → (fun n => !decide (brkS (hrs v n) &&& q = 0)) i = false) → X (mkG p l e R s m args below meth c Ω (fun r M' => r = some (.int (nO (fnd (fun n => !decide (brkS (hrs v n) &&& q = 0)) 60 0))) ∧ (∀ h, fnd (fun n => !decide (brkS (hrs v n) &&& q = 0)) 60 0 = some h → LkR M' 65 (hrs v h)) ∧ Fr 65 M M')) Ω RX5 cX5_whenBroken 4 6 (some .int) 10 [some (.ref (Ω.2.2 14)), some (.ref (Ω.2.2 b)), some (.int (nI q)), some (.int (nI h))] [] M1 := by
    intro k
    induction k with
    | zero =>
      intro h M1 hk
      obtain ⟨hk, hR1, hF1, hal⟩ := hk
      have hne := hrs_ne hw h (by omega)
      have hbl := brkS_lt hne.1
      have hand : brkS (hrs v h) &&& q ≤ brkS (hrs v h) := Nat.and_le_left
      refine x_iload_n dX5_whenBroken_10 rfl ?_
      refine x_bipush (v := nI 60) dX5_whenBroken_11 rfl ?_
      refine y_icmp_gt 43 dX5_whenBroken_13 (by omega) (by omega) (fun h_13 => ?_) (fun h_13 => ?_)
      · have hf : fnd (fun n => !decide (brkS (hrs v n) &&& q = 0)) 60 0 = none := fnd_none (fun i _ hi => hal i (by omega))
        refine x_ldc dX5_whenBroken_43 k_X5_55 ?_
        refine x_iret dX5_whenBroken_45 ?_
        exact ⟨by rw [hf]; rfl, fun z hz => (by rw [hf] at hz; cases hz), hF1⟩
      · exfalso; omega
    | succ k ih =>
      intro h M1 hk
      obtain ⟨hk, hR1, hF1, hal⟩ := hk
      have hne := hrs_ne hw h (by omega)
      have hbl := brkS_lt hne.1
      have hand : brkS (hrs v h) &&& q ≤ brkS (hrs v h) := Nat.and_le_left
      refine x_iload_n dX5_whenBroken_10 rfl ?_
      refine x_bipush (v := nI 60) dX5_whenBroken_11 rfl ?_
      refine y_icmp_gt 43 dX5_whenBroken_13 (by omega) (by omega) (fun h_13 => ?_) (fun h_13 => ?_)
      · have hf : fnd (fun n => !decide (brkS (hrs v n) &&& q = 0)) 60 0 = none := fnd_none (fun i _ hi => hal i (by omega))
        refine x_ldc dX5_whenBroken_43 k_X5_55 ?_
        refine x_iret dX5_whenBroken_45 ?_
        exact ⟨by rw [hf]; rfl, fun z hz => (by rw [hf] at hz; cases hz), hF1⟩
      · refine x_aload_n dX5_whenBroken_16 rfl ?_
        refine g_X5_30 dX5_whenBroken_17 ?_
        refine q_X5_56 (c_brokenRungs Lk65 hR1 hne.1) dX5_whenBroken_20 rfl ?_
        rintro _ _ ⟨rfl, rfl⟩
        refine x_iload_n dX5_whenBroken_23 rfl ?_
        refine y_iand dX5_whenBroken_24 ?_
        refine y_if_eq 30 dX5_whenBroken_25 (by omega) (fun h_25 => ?_) (fun h_25 => ?_)
        · refine x_aload_n dX5_whenBroken_30 rfl ?_
          refine g_X5_30 dX5_whenBroken_31 ?_
          refine q_X5_41 (c_runHour Lk65 hR1 hne.1) dX5_whenBroken_34 rfl ?_
          rintro _ M2 ⟨rfl, hR2, hF2⟩
          refine y_iinc dX5_whenBroken_37 rfl ?_
          refine x_goto 10 dX5_whenBroken_40 ?_
          refine ih (h + 1) _ ⟨by omega, hR2, hF1.tr hF2, fun i hi => ?_⟩
          rcases Nat.lt_or_ge i h with z | z
          · exact hal i z
          · obtain rfl : i = h := by omega
            simp [h_25]
        · refine x_iload_n dX5_whenBroken_28 rfl ?_
          refine x_iret dX5_whenBroken_29 ?_
          have hf : fnd (fun n => !decide (brkS (hrs v n) &&& q = 0)) 60 0 = some h := fnd_some (by omega) (by omega) (by simp [h_25]) (fun i _ hi => hal i hi)
          exact ⟨by rw [hf]; rfl, fun z hz => (by rw [hf] at hz; cases hz; exact hR1), hF1⟩
  refine x_aload_n dX5_whenBroken_0 rfl ?_
  refine g_X5_30 dX5_whenBroken_1 ?_
  refine x_aload_n dX5_whenBroken_4 rfl ?_
  refine q_X5_37 (c_become Lk65 hb hb5 hR hw) dX5_whenBroken_5 rfl ?_
  rintro _ M0 ⟨rfl, hR0, hF0⟩
  refine y_iconst (a := 0) dX5_whenBroken_8 rfl ?_
  refine x_istore_n dX5_whenBroken_9 ?_
  exact key 61 0 _ ⟨rfl, hR0, hF0, fun i hi => by omega⟩
set_option maxRecDepth 100000 in
set_option maxHeartbeats 4000000 in
theorem c_tryMended {Ω : Om} {l : Launch} {M : Mem} {b : Nat} {v : Nat → Nat} (hb : Lk b) (hb5 : b ≠ 65) (hR : LkR M b v) (hI : Iv v) {q : Nat} (hq : q < 512) : Ct Ω l yX5_tryMended cX5_tryMended 4 3 none [.ref (Ω.2.2 14), .ref (Ω.2.2 b), .int (nI q)] M (fun r M' => r = none ∧ LkR M' 65 (mdV v q) ∧ Fr 65 M M') := by
  have hw := hI.1
  have hn := hw.nums
  have hL65 : Lk 65 := Lk65
  have hL73 : Lk 73 := Lk73
  refine ct_of (by decide) (Nat.le_of_ble_eq_true rfl) ?_
  intro p e R s m args below meth c
  have key : ∀ (k : Nat) (h : Nat) (M1 : Mem), h + k = v 0 ∧ LkR M1 65 (mdN v q h) ∧ Fr 65 M M1 → X (mkG p l e R s m args below meth c Ω (fun r M' => r = none ∧ LkR M' 65 (mdV v q) ∧ Fr 65 M M')) Ω RX5 cX5_tryMended 4 3 none 10 [some (.ref (Ω.2.2 14)), some (.ref (Ω.2.2 b)), some (.int (nI q)), some (.int (nI (h + 1)))] [] M1 := by
    intro k
    induction k with
    | zero =>
      intro h M1 hk
      obtain ⟨hk, hR1, hF1⟩ := hk
      have hRb := hR.keep hF1 hb Lk65 hb5
      have hI1 := mdN_Iv hI q h (by omega)
      have e0 : mdN v q h 0 = v 0 := mdN_ne h (by omega)
      refine x_iload_n dX5_tryMended_10 rfl ?_
      refine x_aload_n dX5_tryMended_11 rfl ?_
      refine g_X5_60 dX5_tryMended_12 ?_
      rw [hRb.rungs]
      refine y_icmp_gt 46 dX5_tryMended_15 (by omega) (by omega) (fun h_15 => ?_) (fun h_15 => ?_)
      · refine x_vret dX5_tryMended_46 ?_
        obtain rfl : h = v 0 := by omega
        exact ⟨rfl, hR1, hF1⟩
      · exfalso; omega
    | succ k ih =>
      intro h M1 hk
      obtain ⟨hk, hR1, hF1⟩ := hk
      have hRb := hR.keep hF1 hb Lk65 hb5
      have hI1 := mdN_Iv hI q h (by omega)
      have e0 : mdN v q h 0 = v 0 := mdN_ne h (by omega)
      refine x_iload_n dX5_tryMended_10 rfl ?_
      refine x_aload_n dX5_tryMended_11 rfl ?_
      refine g_X5_60 dX5_tryMended_12 ?_
      rw [hRb.rungs]
      refine y_icmp_gt 46 dX5_tryMended_15 (by omega) (by omega) (fun h_15 => ?_) (fun h_15 => ?_)
      · refine x_vret dX5_tryMended_46 ?_
        obtain rfl : h = v 0 := by omega
        exact ⟨rfl, hR1, hF1⟩
      · refine x_iload_n dX5_tryMended_18 rfl ?_
        refine x_iload_n dX5_tryMended_19 rfl ?_
        refine y_iconst (a := 1) dX5_tryMended_20 rfl ?_
        refine y_isub dX5_tryMended_21 (by omega) ?_
        rw [Nat.add_sub_cancel]
        refine y_ishr dX5_tryMended_22 (by omega) (by omega) ?_
        refine y_iconst (a := 1) dX5_tryMended_23 rfl ?_
        refine y_iand dX5_tryMended_24 ?_
        rw [and1]
        have hc : (if q.testBit h = true then 1 else 0) < 2 := by split <;> omega
        refine y_iconst (a := 1) dX5_tryMended_25 rfl ?_
        refine y_icmp_ne 40 dX5_tryMended_26 (by omega) (by omega) (fun h_26 => ?_) (fun h_26 => ?_)
        · refine y_iinc dX5_tryMended_40 rfl ?_
          refine x_goto 10 dX5_tryMended_43 ?_
          first
            | (refine ih (h + 1) _ ⟨by omega, ?_, hF1.up (by omega)⟩
               have hs := hR1.setStrength (p := h + 1) (y := 99) hI1.1 (by omega)
               simp only [mdN]
               rw [if_pos (by by_cases z : q.testBit h = true <;> simp_all)]
               rw [show 5 + (h + 1) = 6 + h by omega] at hs
               exact hs)
            | (refine ih (h + 1) _ ⟨by omega, ?_, hF1⟩
               simp only [mdN]
               rw [if_neg (by by_cases z : q.testBit h = true <;> simp_all)]
               exact hR1)
        · refine x_aload_n dX5_tryMended_29 rfl ?_
          refine g_X5_30 dX5_tryMended_30 ?_
          refine g_X5_80 dX5_tryMended_33 ?_
          refine x_iload_n dX5_tryMended_36 rfl ?_
          refine x_bipush (v := nI 99) dX5_tryMended_37 rfl ?_
          refine x_ias dX5_tryMended_39 (ArL (by assumption) (Or.inl ⟨by decide, by decide, rfl⟩)) (by omega) ?_
          refine y_iinc dX5_tryMended_40 rfl ?_
          refine x_goto 10 dX5_tryMended_43 ?_
          first
            | (refine ih (h + 1) _ ⟨by omega, ?_, hF1.up (by omega)⟩
               have hs := hR1.setStrength (p := h + 1) (y := 99) hI1.1 (by omega)
               simp only [mdN]
               rw [if_pos (by by_cases z : q.testBit h = true <;> simp_all)]
               rw [show 5 + (h + 1) = 6 + h by omega] at hs
               exact hs)
            | (refine ih (h + 1) _ ⟨by omega, ?_, hF1⟩
               simp only [mdN]
               rw [if_neg (by by_cases z : q.testBit h = true <;> simp_all)]
               exact hR1)
  refine x_aload_n dX5_tryMended_0 rfl ?_
  refine g_X5_30 dX5_tryMended_1 ?_
  refine x_aload_n dX5_tryMended_4 rfl ?_
  refine q_X5_37 (c_become Lk65 hb hb5 hR hw) dX5_tryMended_5 rfl ?_
  rintro _ M0 ⟨rfl, hR0, hF0⟩
  refine y_iconst (a := 1) dX5_tryMended_8 rfl ?_
  refine x_istore_n dX5_tryMended_9 ?_
  exact key _ 0 _ ⟨Nat.zero_add _, hR0, hF0⟩
theorem pow9 {n : Nat} (h : n ≤ 9) : 2 ^ n ≤ 512 := Nat.pow_le_pow_right (by decide) h (n := 2)
set_option maxRecDepth 100000 in
set_option maxHeartbeats 4000000 in
theorem c_fewestMended {Ω : Om} {l : Launch} {M : Mem} {b : Nat} {v : Nat → Nat} (hb : Lk b) (hb5 : b ≠ 65) (hR : LkR M b v) (hI : Iv v) {g n : Nat} (hg : g < v 2) (hn60 : n ≤ 60) (hh : v 3 ≤ 4000) : Ct Ω l yX5_fewestMended cX5_fewestMended 6 7 (some .int) [.ref (Ω.2.2 14), .ref (Ω.2.2 b), .int (nI g), .int (nI n)] M (fun r M' => r = some (.int (nO (bst (fun s => abv (hrs (mdV v s) n) g) (2 ^ v 0)))) ∧ Fr 65 M M') := by
  have hw := hI.1
  have hn := hw.nums
  have hL65 : Lk 65 := Lk65
  have hL73 : Lk 73 := Lk73
  refine ct_of (by decide) (Nat.le_of_ble_eq_true rfl) ?_
  intro p e R s m args below meth c
  have key : ∀ (k z : Nat) (M1 : Mem), z + k = v 0 + 1 ∧ Fr 65 M M1 ∧ (∀ y, y < 2 ^ v 0 → pop y < z → (fun s => abv (hrs (mdV v s) n) g) y = false) → X (mkG p l e R s m args below meth c Ω (fun r M' => r = some (.int (nO (bst (fun s => abv (hrs (mdV v s) n) g) (2 ^ v 0)))) ∧ Fr 65 M M')) Ω RX5 cX5_fewestMended 6 7 (some .int) 3 [some (.ref (Ω.2.2 14)), some (.ref (Ω.2.2 b)), some (.int (nI g)), some (.int (nI n)), some (.int (nI z)), none] [] M1 := by
    intro k
    induction k with
    | zero =>
      intro z M1 hk
      obtain ⟨hk, hF1, hal⟩ := hk
      have hRb := hR.keep hF1 hb Lk65 hb5
      refine x_iload dX5_fewestMended_3 rfl ?_
      refine x_aload_n dX5_fewestMended_5 rfl ?_
      refine g_X5_60 dX5_fewestMended_6 ?_
      rw [hRb.rungs]
      refine y_icmp_gt 68 dX5_fewestMended_9 (by omega) (by omega) (fun h_9 => ?_) (fun h_9 => ?_)
      · have hb0 : isBest (fun s => abv (hrs (mdV v s) n) g) (2 ^ v 0) none := Or.inl ⟨rfl, fun x hx => hal x hx (by have := pop_le (v 0) (by omega) x hx; omega)⟩
        refine x_ldc dX5_fewestMended_68 k_X5_55 ?_
        refine x_iret dX5_fewestMended_70 ?_
        rw [isBest_eq (bst_best _ _) hb0]
        exact ⟨rfl, hF1⟩
      · exfalso; omega
    | succ k ih =>
      intro z M1 hk
      obtain ⟨hk, hF1, hal⟩ := hk
      have hRb := hR.keep hF1 hb Lk65 hb5
      refine x_iload dX5_fewestMended_3 rfl ?_
      refine x_aload_n dX5_fewestMended_5 rfl ?_
      refine g_X5_60 dX5_fewestMended_6 ?_
      rw [hRb.rungs]
      refine y_icmp_gt 68 dX5_fewestMended_9 (by omega) (by omega) (fun h_9 => ?_) (fun h_9 => ?_)
      · have hb0 : isBest (fun s => abv (hrs (mdV v s) n) g) (2 ^ v 0) none := Or.inl ⟨rfl, fun x hx => hal x hx (by have := pop_le (v 0) (by omega) x hx; omega)⟩
        refine x_ldc dX5_fewestMended_68 k_X5_55 ?_
        refine x_iret dX5_fewestMended_70 ?_
        rw [isBest_eq (bst_best _ _) hb0]
        exact ⟨rfl, hF1⟩
      · refine y_iconst (a := 0) dX5_fewestMended_12 rfl ?_
        refine x_istore dX5_fewestMended_13 ?_
        have keyB : ∀ (k2 y : Nat) (M2 : Mem), y + k2 = 2 ^ v 0 ∧ Fr 65 M M2 ∧ (∀ x, x < y → pop x = z → (fun s => abv (hrs (mdV v s) n) g) x = false) → X (mkG p l e R s m args below meth c Ω (fun r M' => r = some (.int (nO (bst (fun s => abv (hrs (mdV v s) n) g) (2 ^ v 0)))) ∧ Fr 65 M M')) Ω RX5 cX5_fewestMended 6 7 (some .int) 15 [some (.ref (Ω.2.2 14)), some (.ref (Ω.2.2 b)), some (.int (nI g)), some (.int (nI n)), some (.int (nI z)), some (.int (nI y))] [] M2 := by
          intro k2
          induction k2 with
          | zero =>
            intro y M2 hk2
            obtain ⟨hk2, hF2, hal2⟩ := hk2
            refine x_iload dX5_fewestMended_15 rfl ?_
            refine x_aload_n dX5_fewestMended_17 rfl ?_
            have hRc := hR.keep hF2 hb Lk65 hb5
            refine q_X5_63 (c_allRungs hb hRc hw) dX5_fewestMended_18 rfl ?_
            rintro _ _ ⟨rfl, rfl⟩
            have hpw := pow9 (n := v 0) (by omega)
            have hpp := Nat.two_pow_pos (v 0)
            refine y_icmp_gt 62 dX5_fewestMended_21 (by omega) (by omega) (fun h_21 => ?_) (fun h_21 => ?_)
            · refine y_iinc dX5_fewestMended_62 rfl ?_
              refine x_goto 3 dX5_fewestMended_65 ?_
              refine x_weak (L' := [some (.ref (Ω.2.2 14)), some (.ref (Ω.2.2 b)), some (.int (nI g)), some (.int (nI n)), some (.int (nI (z + 1))), none]) ⟨Or.inr rfl, Or.inr rfl, Or.inr rfl, Or.inr rfl, Or.inr rfl, Or.inl rfl, trivial⟩ ?_
              exact ih (z + 1) _ ⟨by omega, hF2, fun x hx hp => by rcases Nat.lt_or_ge (pop x) z with z1 | z1; exact hal x hx z1; exact hal2 x (by omega) (by omega)⟩
            · exfalso; omega
          | succ k2 ihB =>
            intro y M2 hk2
            obtain ⟨hk2, hF2, hal2⟩ := hk2
            refine x_iload dX5_fewestMended_15 rfl ?_
            refine x_aload_n dX5_fewestMended_17 rfl ?_
            have hRc := hR.keep hF2 hb Lk65 hb5
            refine q_X5_63 (c_allRungs hb hRc hw) dX5_fewestMended_18 rfl ?_
            rintro _ _ ⟨rfl, rfl⟩
            have hpw := pow9 (n := v 0) (by omega)
            have hpp := Nat.two_pow_pos (v 0)
            refine y_icmp_gt 62 dX5_fewestMended_21 (by omega) (by omega) (fun h_21 => ?_) (fun h_21 => ?_)
            · refine y_iinc dX5_fewestMended_62 rfl ?_
              refine x_goto 3 dX5_fewestMended_65 ?_
              refine x_weak (L' := [some (.ref (Ω.2.2 14)), some (.ref (Ω.2.2 b)), some (.int (nI g)), some (.int (nI n)), some (.int (nI (z + 1))), none]) ⟨Or.inr rfl, Or.inr rfl, Or.inr rfl, Or.inr rfl, Or.inr rfl, Or.inl rfl, trivial⟩ ?_
              exact ih (z + 1) _ ⟨by omega, hF2, fun x hx hp => by rcases Nat.lt_or_ge (pop x) z with z1 | z1; exact hal x hx z1; exact hal2 x (by omega) (by omega)⟩
            · have hpy := pop_le9 y (by omega)
              refine x_iload dX5_fewestMended_24 rfl ?_
              refine q_X5_66 (c_bitCount (by omega)) dX5_fewestMended_26 rfl ?_
              rintro _ _ ⟨rfl, rfl⟩
              refine x_iload dX5_fewestMended_29 rfl ?_
              refine y_icmp_eq 37 dX5_fewestMended_31 (by omega) (by omega) (fun h_31 => ?_) (fun h_31 => ?_)
              · refine x_aload_n dX5_fewestMended_37 rfl ?_
                refine x_aload_n dX5_fewestMended_38 rfl ?_
                refine x_iload dX5_fewestMended_39 rfl ?_
                refine q_X5_72 (c_tryMended hb hb5 hRc hI (by omega)) dX5_fewestMended_41 rfl ?_
                rintro _ M3 ⟨rfl, hR3, hF3⟩
                refine x_aload_n dX5_fewestMended_44 rfl ?_
                refine x_iload_n dX5_fewestMended_45 rfl ?_
                refine x_iload_n dX5_fewestMended_46 rfl ?_
                refine q_X5_76 (c_comesAbove hR3 (mdV_Iv hI y) (by rw [show mdV v y 2 = v 2 from mdN_ne _ (by omega)]; exact hg) (by omega) (by rw [show mdV v y 3 = v 3 from mdN_ne _ (by omega)]; exact hh)) dX5_fewestMended_47 rfl ?_
                rintro _ M4 ⟨rfl, hF4⟩
                refine z_if_eq 56 dX5_fewestMended_50 (fun h_50 => ?_) (fun h_50 => ?_)
                · refine y_iinc dX5_fewestMended_56 rfl ?_
                  refine x_goto 15 dX5_fewestMended_59 ?_
                  first
                    | exact ihB (y + 1) _ ⟨by omega, hF2, fun x hx hp => by rcases Nat.lt_or_ge x y with z1 | z1; exact hal2 x z1 hp; obtain rfl : x = y := (by omega); exact absurd hp h_31⟩
                    | exact ihB (y + 1) _ ⟨by omega, (hF2.tr hF3).tr hF4, fun x hx hp => by rcases Nat.lt_or_ge x y with z1 | z1; exact hal2 x z1 hp; obtain rfl : x = y := (by omega); exact h_50⟩
                · refine x_iload dX5_fewestMended_53 rfl ?_
                  refine x_iret dX5_fewestMended_55 ?_
                  have hb0 : isBest (fun s => abv (hrs (mdV v s) n) g) (2 ^ v 0) (some y) := Or.inr ⟨y, by omega, rfl, h_50, fun x hx hf => by
                    rcases Nat.lt_or_ge (pop x) z with z1 | z1
                    · rw [hal x hx z1] at hf; cases hf
                    · rcases Nat.eq_or_lt_of_le z1 with z2 | z2
                      · rcases Nat.lt_or_ge x y with z3 | z3
                        · rw [hal2 x z3 z2.symm] at hf; cases hf
                        · exact Or.inr ⟨by omega, z3⟩
                      · exact Or.inl (by omega)⟩
                  rw [isBest_eq (bst_best _ _) hb0]
                  exact ⟨rfl, (hF2.tr hF3).tr hF4⟩
              · refine x_goto 56 dX5_fewestMended_34 ?_
                refine y_iinc dX5_fewestMended_56 rfl ?_
                refine x_goto 15 dX5_fewestMended_59 ?_
                first
                  | exact ihB (y + 1) _ ⟨by omega, hF2, fun x hx hp => by rcases Nat.lt_or_ge x y with z1 | z1; exact hal2 x z1 hp; obtain rfl : x = y := (by omega); exact absurd hp h_31⟩
                  | exact ihB (y + 1) _ ⟨by omega, (hF2.tr hF3).tr hF4, fun x hx hp => by rcases Nat.lt_or_ge x y with z1 | z1; exact hal2 x z1 hp; obtain rfl : x = y := (by omega); exact h_50⟩
        exact keyB _ 0 _ ⟨Nat.zero_add _, hF1, fun x hx => by omega⟩
  refine y_iconst (a := 0) dX5_fewestMended_0 rfl ?_
  refine x_istore dX5_fewestMended_1 ?_
  exact key (v 0 + 1) 0 _ ⟨Nat.zero_add _, Fr.rf, fun y hy hp => by omega⟩
