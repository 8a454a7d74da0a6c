/-! FORETOLD, third part (laid by gen_fore3.py) -/
def fitR (v : Nat → Nat) (go : Nat) (it : Nat → Int32) (n : Nat) : Nat := (if fitN v go it n = true then 1024 else 0) ||| orN (fun r => if brk v (r + 1) = false ∧ fitN (bkV v (r + 1)) go it n = true then 2 ^ r else 0) (v 0)
def gwV (v : Nat → Nat) (n : Nat) : Option Nat := if v 2 < 6 then gst (fun w => abv (hrs (agV v 1 w (v 3)) n) (v 2)) 30 else none
def hdF (v : Nat → Nat) (g n : Nat) (s : Nat) : Bool := decide (s &&& (v 4 ||| 2 ^ g) = 0) && abv (hrs (sv v 4 (v 4 ||| s)) n) g
def hdO (n h g : Nat) : Nat := ((2 ^ n - 1) &&& (63 ^^^ h)) &&& (63 ^^^ 2 ^ g)
theorem hd_iff : ∀ n, n ≤ 6 → ∀ h, h < 64 → ∀ g, g < n → ∀ s, s < 2 ^ n → decide (s &&& (63 ^^^ hdO n h g) = 0) = decide (s &&& (h ||| 2 ^ g) = 0) := by decide +kernel
theorem hd_le : ∀ n, n ≤ 6 → ∀ h, h < 64 → ∀ g, g < n → ∀ s, s < 2 ^ n → (!decide (s &&& (h ||| 2 ^ g) = 0) || (decide (s ≤ hdO n h g) && decide (pop s < n))) = true := by decide +kernel
theorem hdO_lt : ∀ n, n ≤ 6 → ∀ h, h < 64 → ∀ g, g < n → hdO n h g < 2 ^ n := by decide +kernel
theorem Iv.setHd {v : Nat → Nat} (h : Iv v) {y : Nat} (hy : y < 64) : Iv (sv v 4 y) := by
  obtain ⟨hw, h0, hi⟩ := h
  obtain ⟨q0, q1, q2, q3, q4, q5, q6, q7⟩ := hw
  have e : ∀ j, j ≠ 4 → sv v 4 y j = v j := fun j hj => sv_ne _ _ hj
  refine ⟨⟨by rw [e 0 (by omega)]; exact q0, by rw [e 1 (by omega)]; exact q1, by rw [e 2 (by omega)]; exact q2, by rw [e 3 (by omega)]; exact q3, by rw [sv_eq]; exact hy, by rw [e 5 (by omega), e 2 (by omega)]; exact q5, fun r hr => ?_, fun g hg => ?_⟩, by rw [e 0 (by omega)]; exact h0, fun k hk => ?_⟩
  · rw [e 0 (by omega)] at hr
    rw [e _ (by omega)]; exact q6 r hr
  · rw [e 2 (by omega)] at hg
    rw [e _ (by omega), e _ (by omega), e _ (by omega), e _ (by omega), e 0 (by omega)]
    exact q7 g hg
  · rw [e 2 (by omega)] at hk
    unfold upw
    rw [e _ (by omega), e 0 (by omega), e 5 (by omega), e (5 + v (33 + k)) (by omega)]
    exact hi k hk
set_option maxRecDepth 100000 in
set_option maxHeartbeats 4000000 in
theorem c_rottenFit {Ω : Om} {l : Launch} {M : Mem} {b : Nat} {v : Nat → Nat} (hb : Lk b) (hb5 : b ≠ 65) (hR : LkR M b v) (hI : Iv v) {r i n go z : Nat} (hT : Td M r i n go z) (hgo : go < v 2) (hh : v 3 ≤ 4000) : Ct Ω l yX5_rottenThatFit cX5_rottenThatFit 4 7 (some .int) [.ref (Ω.2.2 14), .ref (Ω.2.2 b)] M (fun ro M' => ro = some (.int (nI (fitR v go (fun h => M.1 (r + 1) (i + h)) n))) ∧ Fr 65 M M') := by
  have hw := hI.1
  have hn := hw.nums
  have hL65 : Lk 65 := Lk65
  have hL73 : Lk 73 := Lk73
  refine ct_of (by decide) (Nat.le_of_ble_eq_true rfl) ?_
  intro p e R s m args below meth c
  have key : ∀ (k : Nat) (y : Nat) (M1 : Mem), y + k = v 0 ∧ Fr 65 M M1 → X (mkG p l e R s m args below meth c Ω (fun ro M' => ro = some (.int (nI (fitR v go (fun h => M.1 (r + 1) (i + h)) n))) ∧ Fr 65 M M')) Ω RX5 cX5_rottenThatFit 4 7 (some .int) 25 [some (.ref (Ω.2.2 14)), some (.ref (Ω.2.2 b)), some (.int (nI ((if fitN v go (fun h => M.1 (r + 1) (i + h)) n = true then 1024 else 0) ||| orN (fun r0 => if brk v (r0 + 1) = false ∧ fitN (bkV v (r0 + 1)) go (fun h => M.1 (r + 1) (i + h)) n = true then 2 ^ r0 else 0) y))), some (.int (nI (y + 1)))] [] M1 := by
    intro k
    induction k with
    | zero =>
      intro y M1 hk
      obtain ⟨hk, hF1⟩ := hk
      have hRb := hR.keep hF1 hb Lk65 hb5
      refine x_iload_n dX5_rottenThatFit_25 rfl ?_
      refine x_aload_n dX5_rottenThatFit_26 rfl ?_
      refine g_X5_60 dX5_rottenThatFit_27 ?_
      rw [hRb.rungs]
      refine y_icmp_gt 79 dX5_rottenThatFit_30 (by omega) (by omega) (fun h_30 => ?_) (fun h_30 => ?_)
      · refine x_iload_n dX5_rottenThatFit_79 rfl ?_
        refine x_iret dX5_rottenThatFit_80 ?_
        obtain rfl : y = v 0 := by omega
        exact ⟨rfl, hF1⟩
      · exfalso; omega
    | succ k ih =>
      intro y M1 hk
      obtain ⟨hk, hF1⟩ := hk
      have hRb := hR.keep hF1 hb Lk65 hb5
      refine x_iload_n dX5_rottenThatFit_25 rfl ?_
      refine x_aload_n dX5_rottenThatFit_26 rfl ?_
      refine g_X5_60 dX5_rottenThatFit_27 ?_
      rw [hRb.rungs]
      refine y_icmp_gt 79 dX5_rottenThatFit_30 (by omega) (by omega) (fun h_30 => ?_) (fun h_30 => ?_)
      · refine x_iload_n dX5_rottenThatFit_79 rfl ?_
        refine x_iret dX5_rottenThatFit_80 ?_
        obtain rfl : y = v 0 := by omega
        exact ⟨rfl, hF1⟩
      · refine x_aload_n dX5_rottenThatFit_33 rfl ?_
        refine x_iload_n dX5_rottenThatFit_34 rfl ?_
        refine q_X5_169 (c_isBroken hb hRb hw (by omega)) dX5_rottenThatFit_35 rfl ?_
        rintro _ _ ⟨rfl, rfl⟩
        refine z_if_ne 73 dX5_rottenThatFit_38 (fun h_38 => ?_) (fun h_38 => ?_)
        · refine y_iinc dX5_rottenThatFit_73 rfl ?_
          refine x_goto 25 dX5_rottenThatFit_76 ?_
          first
            | (have e9 : (if brk v (y + 1) = false ∧ fitN (bkV v (y + 1)) go (fun h => M.1 (r + 1) (i + h)) n = true then 2 ^ y else 0) = 2 ^ y := if_pos ⟨h_38, by rw [← t9]; exact h_62⟩
               have hh2 := ih (y + 1) _ ⟨by omega, ((hF1.tr hF0).tr hF2).tr hF3⟩
               rw [orN_succ, e9, ← Nat.or_assoc] at hh2
               exact hh2)
            | (have e9 : (if brk v (y + 1) = false ∧ fitN (bkV v (y + 1)) go (fun h => M.1 (r + 1) (i + h)) n = true then 2 ^ y else 0) = 0 := if_neg (by rw [← t9, h_62]; simp)
               have hh2 := ih (y + 1) _ ⟨by omega, ((hF1.tr hF0).tr hF2).tr hF3⟩
               rw [orN_succ, e9, Nat.or_zero] at hh2
               exact hh2)
            | (have e9 : (if brk v (y + 1) = false ∧ fitN (bkV v (y + 1)) go (fun h => M.1 (r + 1) (i + h)) n = true then 2 ^ y else 0) = 0 := if_neg (by rw [h_38]; simp)
               have hh2 := ih (y + 1) _ ⟨by omega, hF1⟩
               rw [orN_succ, e9, Nat.or_zero] at hh2
               exact hh2)
        · refine x_aload_n dX5_rottenThatFit_41 rfl ?_
          refine g_X5_30 dX5_rottenThatFit_42 ?_
          refine x_aload_n dX5_rottenThatFit_45 rfl ?_
          refine q_X5_37 (c_become Lk65 hb hb5 hRb hw) dX5_rottenThatFit_46 rfl ?_
          rintro _ M0 ⟨rfl, hR0, hF0⟩
          refine x_aload_n dX5_rottenThatFit_49 rfl ?_
          refine g_X5_30 dX5_rottenThatFit_50 ?_
          refine x_iload_n dX5_rottenThatFit_53 rfl ?_
          refine q_X5_172 (c_breakAt Lk65 hR0 hw (by omega)) dX5_rottenThatFit_54 rfl ?_
          rintro _ M2 ⟨rfl, hR2, hF2, -⟩
          refine x_pop dX5_rottenThatFit_57 rfl ?_
          obtain ⟨hT1, t9⟩ := hT.keep ((hF1.tr hF0).tr hF2)
          refine x_aload_n dX5_rottenThatFit_58 rfl ?_
          refine q_X5_163 (c_fits hR2 (hw.bk (by omega) (by omega)) hT1 (by rw [bkV_ne (by omega) (by omega) (Or.inl (by omega)) (by omega)]; exact hgo) (by rw [bkV_ne (by omega) (by omega) (Or.inl (by omega)) (by omega)]; exact hh)) dX5_rottenThatFit_59 rfl ?_
          rintro _ M3 ⟨rfl, hF3⟩
          refine z_if_eq 73 dX5_rottenThatFit_62 (fun h_62 => ?_) (fun h_62 => ?_)
          · refine y_iinc dX5_rottenThatFit_73 rfl ?_
            refine x_goto 25 dX5_rottenThatFit_76 ?_
            first
              | (have e9 : (if brk v (y + 1) = false ∧ fitN (bkV v (y + 1)) go (fun h => M.1 (r + 1) (i + h)) n = true then 2 ^ y else 0) = 2 ^ y := if_pos ⟨h_38, by rw [← t9]; exact h_62⟩
                 have hh2 := ih (y + 1) _ ⟨by omega, ((hF1.tr hF0).tr hF2).tr hF3⟩
                 rw [orN_succ, e9, ← Nat.or_assoc] at hh2
                 exact hh2)
              | (have e9 : (if brk v (y + 1) = false ∧ fitN (bkV v (y + 1)) go (fun h => M.1 (r + 1) (i + h)) n = true then 2 ^ y else 0) = 0 := if_neg (by rw [← t9, h_62]; simp)
                 have hh2 := ih (y + 1) _ ⟨by omega, ((hF1.tr hF0).tr hF2).tr hF3⟩
                 rw [orN_succ, e9, Nat.or_zero] at hh2
                 exact hh2)
              | (have e9 : (if brk v (y + 1) = false ∧ fitN (bkV v (y + 1)) go (fun h => M.1 (r + 1) (i + h)) n = true then 2 ^ y else 0) = 0 := if_neg (by rw [h_38]; simp)
                 have hh2 := ih (y + 1) _ ⟨by omega, hF1⟩
                 rw [orN_succ, e9, Nat.or_zero] at hh2
                 exact hh2)
          · refine x_iload_n dX5_rottenThatFit_65 rfl ?_
            refine y_iconst (a := 1) dX5_rottenThatFit_66 rfl ?_
            refine x_iload_n dX5_rottenThatFit_67 rfl ?_
            refine y_iconst (a := 1) dX5_rottenThatFit_68 rfl ?_
            refine y_isub dX5_rottenThatFit_69 (by omega) ?_
            rw [Nat.add_sub_cancel]
            refine y_ishl dX5_rottenThatFit_70 (by omega) ?_
            try rw [Nat.one_mul]
            refine y_ior dX5_rottenThatFit_71 ?_
            refine x_istore_n dX5_rottenThatFit_72 ?_
            refine y_iinc dX5_rottenThatFit_73 rfl ?_
            refine x_goto 25 dX5_rottenThatFit_76 ?_
            first
              | (have e9 : (if brk v (y + 1) = false ∧ fitN (bkV v (y + 1)) go (fun h => M.1 (r + 1) (i + h)) n = true then 2 ^ y else 0) = 2 ^ y := if_pos ⟨h_38, by rw [← t9]; exact h_62⟩
                 have hh2 := ih (y + 1) _ ⟨by omega, ((hF1.tr hF0).tr hF2).tr hF3⟩
                 rw [orN_succ, e9, ← Nat.or_assoc] at hh2
                 exact hh2)
              | (have e9 : (if brk v (y + 1) = false ∧ fitN (bkV v (y + 1)) go (fun h => M.1 (r + 1) (i + h)) n = true then 2 ^ y else 0) = 0 := if_neg (by rw [← t9, h_62]; simp)
                 have hh2 := ih (y + 1) _ ⟨by omega, ((hF1.tr hF0).tr hF2).tr hF3⟩
                 rw [orN_succ, e9, Nat.or_zero] at hh2
                 exact hh2)
              | (have e9 : (if brk v (y + 1) = false ∧ fitN (bkV v (y + 1)) go (fun h => M.1 (r + 1) (i + h)) n = true then 2 ^ y else 0) = 0 := if_neg (by rw [h_38]; simp)
                 have hh2 := ih (y + 1) _ ⟨by omega, hF1⟩
                 rw [orN_succ, e9, Nat.or_zero] at hh2
                 exact hh2)
  refine x_aload_n dX5_rottenThatFit_0 rfl ?_
  refine g_X5_30 dX5_rottenThatFit_1 ?_
  refine x_aload_n dX5_rottenThatFit_4 rfl ?_
  refine q_X5_37 (c_become Lk65 hb hb5 hR hw) dX5_rottenThatFit_5 rfl ?_
  rintro _ M0 ⟨rfl, hR0, hF0⟩
  obtain ⟨hT1, t9⟩ := hT.keep hF0
  refine x_aload_n dX5_rottenThatFit_8 rfl ?_
  refine q_X5_163 (c_fits hR0 hw hT1 hgo hh) dX5_rottenThatFit_9 rfl ?_
  rintro _ M3 ⟨rfl, hF3⟩
  refine z_if_eq 21 dX5_rottenThatFit_12 (fun h_12 => ?_) (fun h_12 => ?_)
  · refine y_iconst (a := 0) dX5_rottenThatFit_21 rfl ?_
    refine x_istore_n dX5_rottenThatFit_22 ?_
    refine y_iconst (a := 1) dX5_rottenThatFit_23 rfl ?_
    refine x_istore_n dX5_rottenThatFit_24 ?_
    have hk0 := key _ 0 _ ⟨Nat.zero_add _, hF0.tr hF3⟩
    first
      | (rw [if_pos (by rw [← t9]; exact h_12), show orN _ 0 = 0 from rfl, Nat.or_zero] at hk0
         exact hk0)
      | (rw [if_neg (by rw [← t9, h_12]; decide), show orN _ 0 = 0 from rfl, Nat.or_zero] at hk0
         exact hk0)
  · refine x_sipush (v := nI 1024) dX5_rottenThatFit_15 rfl ?_
    refine x_goto 22 dX5_rottenThatFit_18 ?_
    refine x_istore_n dX5_rottenThatFit_22 ?_
    refine y_iconst (a := 1) dX5_rottenThatFit_23 rfl ?_
    refine x_istore_n dX5_rottenThatFit_24 ?_
    have hk0 := key _ 0 _ ⟨Nat.zero_add _, hF0.tr hF3⟩
    first
      | (rw [if_pos (by rw [← t9]; exact h_12), show orN _ 0 = 0 from rfl, Nat.or_zero] at hk0
         exact hk0)
      | (rw [if_neg (by rw [← t9, h_12]; decide), show orN _ 0 = 0 from rfl, Nat.or_zero] at hk0
         exact hk0)
set_option maxRecDepth 100000 in
set_option maxHeartbeats 4000000 in
theorem c_greatestWeight {Ω : Om} {l : Launch} {M : Mem} {b : Nat} {v : Nat → Nat} (hb : Lk b) (hb5 : b ≠ 65) (hR : LkR M b v) (hI : Iv v) {n : Nat} (hn60 : n ≤ 60) (hh : v 3 ≤ 4000) : Ct Ω l yX5_greatestWeight cX5_greatestWeight 4 7 (some .int) [.ref (Ω.2.2 14), .ref (Ω.2.2 b), .int (nI n)] M (fun ro M' => ro = some (.int (nO (gwV v n))) ∧ Fr 65 M M') := by
  have hw := hI.1
  have hn := hw.nums
  have hL65 : Lk 65 := Lk65
  have hL73 : Lk 73 := Lk73
  refine ct_of (by decide) (Nat.le_of_ble_eq_true rfl) ?_
  intro p e R s m args below meth c
  rcases Nat.lt_or_ge (v 2) 6 with h6 | h6
  · have key : ∀ (k : Nat) (M1 : Mem), k ≤ 30 ∧ Fr 65 M M1 ∧ gst (fun w => abv (hrs (agV v 1 w (v 3)) n) (v 2)) 30 = gst (fun w => abv (hrs (agV v 1 w (v 3)) n) (v 2)) k → X (mkG p l e R s m args below meth c Ω (fun ro M' => ro = some (.int (nO (gwV v n))) ∧ Fr 65 M M')) Ω RX5 cX5_greatestWeight 4 7 (some .int) 15 [some (.ref (Ω.2.2 14)), some (.ref (Ω.2.2 b)), some (.int (nI n)), some (.int (nI k))] [] M1 := by
      intro k
      induction k with
      | zero =>
        intro M1 hk
        obtain ⟨hk, hF1, hgs⟩ := hk
        have hRb := hR.keep hF1 hb Lk65 hb5
        refine x_iload_n dX5_greatestWeight_15 rfl ?_
        refine y_iconst (a := 1) dX5_greatestWeight_16 rfl ?_
        refine y_icmp_lt 61 dX5_greatestWeight_17 (by omega) (by omega) (fun h_17 => ?_) (fun h_17 => ?_)
        · refine x_ldc dX5_greatestWeight_61 k_X5_55 ?_
          refine x_iret dX5_greatestWeight_63 ?_
          first
            | (exfalso; omega)
            | (refine ⟨?_, hF1⟩
               unfold gwV
               rw [if_pos h6, hgs]
               rfl)
        · exfalso; omega
      | succ k ih =>
        intro M1 hk
        obtain ⟨hk, hF1, hgs⟩ := hk
        have hRb := hR.keep hF1 hb Lk65 hb5
        refine x_iload_n dX5_greatestWeight_15 rfl ?_
        refine y_iconst (a := 1) dX5_greatestWeight_16 rfl ?_
        refine y_icmp_lt 61 dX5_greatestWeight_17 (by omega) (by omega) (fun h_17 => ?_) (fun h_17 => ?_)
        · refine x_ldc dX5_greatestWeight_61 k_X5_55 ?_
          refine x_iret dX5_greatestWeight_63 ?_
          first
            | (exfalso; omega)
            | (refine ⟨?_, hF1⟩
               unfold gwV
               rw [if_pos h6, hgs]
               rfl)
        · refine x_aload_n dX5_greatestWeight_20 rfl ?_
          refine g_X5_30 dX5_greatestWeight_21 ?_
          refine x_aload_n dX5_greatestWeight_24 rfl ?_
          refine q_X5_37 (c_become Lk65 hb hb5 hRb hw) dX5_greatestWeight_25 rfl ?_
          rintro _ M0 ⟨rfl, hR0, hF0⟩
          refine x_aload_n dX5_greatestWeight_28 rfl ?_
          refine g_X5_30 dX5_greatestWeight_29 ?_
          refine y_iconst (a := 1) dX5_greatestWeight_32 rfl ?_
          refine x_iload_n dX5_greatestWeight_33 rfl ?_
          refine x_aload_n dX5_greatestWeight_34 rfl ?_
          refine g_X5_51 dX5_greatestWeight_35 ?_
          rw [(hRb.keep hF0 hb Lk65 hb5).hour]
          refine q_X5_135 (c_addGoer Lk65 hR0 hw h6) dX5_greatestWeight_38 rfl ?_
          rintro _ M2 ⟨rfl, hR2, hF2⟩
          refine x_aload_n dX5_greatestWeight_41 rfl ?_
          refine x_aload_n dX5_greatestWeight_42 rfl ?_
          refine g_X5_83 dX5_greatestWeight_43 ?_
          rw [((hRb.keep hF0 hb Lk65 hb5).keep hF2 hb Lk65 hb5).goers]
          refine x_iload_n dX5_greatestWeight_46 rfl ?_
          refine q_X5_76 (c_comesAbove hR2 (agV_Iv hI h6 (by omega) (by omega) (by omega)) (by show v 2 < v 2 + 1; omega) hn60 (by rw [agV_ne (by omega) (by omega) (by omega) (by omega) (by omega) (by omega) (by omega)]; exact hh)) dX5_greatestWeight_47 rfl ?_
          rintro _ M3 ⟨rfl, hF3⟩
          refine z_if_eq 55 dX5_greatestWeight_50 (fun h_50 => ?_) (fun h_50 => ?_)
          · refine y_idec dX5_greatestWeight_55 rfl ?_
            refine x_goto 15 dX5_greatestWeight_58 ?_
            exact ih _ ⟨by omega, (hF1.tr hF0).tr (hF2.tr hF3), by rw [hgs]; simp only [gst]; rw [if_neg (by rw [h_50]; decide)]⟩
          · refine x_iload_n dX5_greatestWeight_53 rfl ?_
            refine x_iret dX5_greatestWeight_54 ?_
            refine ⟨?_, (hF1.tr hF0).tr (hF2.tr hF3)⟩
            unfold gwV
            rw [if_pos h6, hgs]
            simp only [gst]
            rw [if_pos h_50]
            rfl
    refine x_aload_n dX5_greatestWeight_0 rfl ?_
    refine g_X5_83 dX5_greatestWeight_1 ?_
    rw [hR.goers]
    refine x_bipush (v := nI 6) dX5_greatestWeight_4 rfl ?_
    refine y_icmp_lt 12 dX5_greatestWeight_6 (by omega) (by omega) (fun h_6 => ?_) (fun h_6 => ?_)
    · refine x_bipush (v := nI 30) dX5_greatestWeight_12 rfl ?_
      refine x_istore_n dX5_greatestWeight_14 ?_
      exact key 30 _ ⟨Nat.le_refl _, Fr.rf, rfl⟩
    · exfalso; omega
  · refine x_aload_n dX5_greatestWeight_0 rfl ?_
    refine g_X5_83 dX5_greatestWeight_1 ?_
    rw [hR.goers]
    refine x_bipush (v := nI 6) dX5_greatestWeight_4 rfl ?_
    refine y_icmp_lt 12 dX5_greatestWeight_6 (by omega) (by omega) (fun h_6 => ?_) (fun h_6 => ?_)
    · exfalso; omega
    · refine x_ldc dX5_greatestWeight_9 k_X5_55 ?_
      refine x_iret dX5_greatestWeight_11 ?_
      refine ⟨?_, Fr.rf⟩
      unfold gwV
      rw [if_neg (by omega)]
      rfl
set_option maxRecDepth 100000 in
set_option maxHeartbeats 4000000 in
theorem c_draw {Ω : Om} {l : Launch} {M : Mem} {v : Nat → Nat} (hR : LkR M 65 v) (hI : Iv v) {a : Nat} (ha : a < 2 ^ 31) : Ct Ω l yX5_draw cX5_draw 4 2 none [.ref (Ω.2.2 14), .long (lN a)] M (fun ro M' => ro = none ∧ LkR M' 65 (drV v a) ∧ Fr 65 M M') := by
  have hw := hI.1
  have hn := hw.nums
  have hL65 : Lk 65 := Lk65
  have hL73 : Lk 73 := Lk73
  have ha4 : a % 4 < 4 := Nat.mod_lt _ (by decide)
  have ha7 : a % 7 < 7 := Nat.mod_lt _ (by decide)
  refine ct_of (by decide) (Nat.le_of_ble_eq_true rfl) ?_
  intro p e R s m args below meth c
  refine x_aload_n dX5_draw_0 rfl ?_
  refine g_X5_30 dX5_draw_1 ?_
  refine g_X5_60 dX5_draw_4 ?_
  rw [hR.rungs]
  refine y_if_gt 11 dX5_draw_7 (by omega) (fun h_7 => ?_) (fun h_7 => ?_)
  · refine x_lload_n dX5_draw_11 rfl ?_
    refine x_aload_n dX5_draw_12 rfl ?_
    refine g_X5_30 dX5_draw_13 ?_
    refine g_X5_60 dX5_draw_16 ?_
    rw [hR.rungs]
    have h0 := hI.2.1
    have hm : a % v 0 < v 0 := Nat.mod_lt _ (by omega)
    refine y_i2l dX5_draw_19 (by omega) ?_
    refine y_lrem dX5_draw_20 (by omega) (by omega) (by omega) ?_
    refine y_l2i dX5_draw_21 ?_
    refine y_iconst (a := 1) dX5_draw_22 rfl ?_
    refine y_iadd dX5_draw_23 ?_
    refine x_istore_n dX5_draw_24 ?_
    refine x_lload_n dX5_draw_25 rfl ?_
    refine x_ldc2 (v := lN 4) dX5_draw_26 k_X5_206 ?_
    refine y_lrem dX5_draw_29 (by omega) (by omega) (by omega) ?_
    refine x_lconst (v := lN 0) dX5_draw_30 rfl ?_
    refine y_lc0_ne 49 dX5_draw_31 dX5_draw_32 (by omega) (fun h_32 => ?_) (fun h_32 => ?_)
    · refine x_lload_n dX5_draw_49 rfl ?_
      refine x_ldc2 (v := lN 7) dX5_draw_50 k_X5_208 ?_
      refine y_lrem dX5_draw_53 (by omega) (by omega) (by omega) ?_
      refine x_lconst (v := lN 0) dX5_draw_54 rfl ?_
      refine y_lc0_ne 79 dX5_draw_55 dX5_draw_56 (by omega) (fun h_56 => ?_) (fun h_56 => ?_)
      · refine x_vret dX5_draw_79 ?_
        have hbe : brk v (a % v 0 + 1) = decide (v (6 + a % v 0) = 0) := by
          simp [brk, show 5 + (a % v 0 + 1) = 6 + a % v 0 by omega]; omega
        first
          | (have hs := hR.setStrength (p := a % v 0 + 1) (y := 99) hw (by omega)
             rw [show 5 + (a % v 0 + 1) = 6 + a % v 0 by omega] at hs
             rw [show drV v a = sv v (6 + a % v 0) 99 from if_pos h_32]
             exact ⟨rfl, hs, Fr.rf.up (by omega)⟩)
          | (rw [show drV v a = bkV v (a % v 0 + 1) from by
               unfold drV; rw [if_neg h_32, if_pos ⟨h_56, by rw [hbe] at h_67; simpa using h_67⟩]]
             exact ⟨rfl, hR2, hF2⟩)
          | (rw [show drV v a = v from by
               unfold drV; rw [if_neg h_32, if_neg (by rintro ⟨-, z9⟩; rw [hbe] at h_67; simp at h_67; exact z9 h_67)]]
             exact ⟨rfl, hR, Fr.rf⟩)
          | (rw [show drV v a = v from by
               unfold drV; rw [if_neg h_32, if_neg (fun z9 => h_56 z9.1)]]
             exact ⟨rfl, hR, Fr.rf⟩)
      · refine x_aload_n dX5_draw_59 rfl ?_
        refine g_X5_30 dX5_draw_60 ?_
        refine x_iload_n dX5_draw_63 rfl ?_
        refine q_X5_169 (c_isBroken Lk65 hR hw (by omega)) dX5_draw_64 rfl ?_
        rintro _ _ ⟨rfl, rfl⟩
        refine z_if_ne 79 dX5_draw_67 (fun h_67 => ?_) (fun h_67 => ?_)
        · refine x_vret dX5_draw_79 ?_
          have hbe : brk v (a % v 0 + 1) = decide (v (6 + a % v 0) = 0) := by
            simp [brk, show 5 + (a % v 0 + 1) = 6 + a % v 0 by omega]; omega
          first
            | (have hs := hR.setStrength (p := a % v 0 + 1) (y := 99) hw (by omega)
               rw [show 5 + (a % v 0 + 1) = 6 + a % v 0 by omega] at hs
               rw [show drV v a = sv v (6 + a % v 0) 99 from if_pos h_32]
               exact ⟨rfl, hs, Fr.rf.up (by omega)⟩)
            | (rw [show drV v a = bkV v (a % v 0 + 1) from by
                 unfold drV; rw [if_neg h_32, if_pos ⟨h_56, by rw [hbe] at h_67; simpa using h_67⟩]]
               exact ⟨rfl, hR2, hF2⟩)
            | (rw [show drV v a = v from by
                 unfold drV; rw [if_neg h_32, if_neg (by rintro ⟨-, z9⟩; rw [hbe] at h_67; simp at h_67; exact z9 h_67)]]
               exact ⟨rfl, hR, Fr.rf⟩)
            | (rw [show drV v a = v from by
                 unfold drV; rw [if_neg h_32, if_neg (fun z9 => h_56 z9.1)]]
               exact ⟨rfl, hR, Fr.rf⟩)
        · refine x_aload_n dX5_draw_70 rfl ?_
          refine g_X5_30 dX5_draw_71 ?_
          refine x_iload_n dX5_draw_74 rfl ?_
          refine q_X5_172 (c_breakAt Lk65 hR hw (by omega)) dX5_draw_75 rfl ?_
          rintro _ M2 ⟨rfl, hR2, hF2, -⟩
          refine x_pop dX5_draw_78 rfl ?_
          refine x_vret dX5_draw_79 ?_
          have hbe : brk v (a % v 0 + 1) = decide (v (6 + a % v 0) = 0) := by
            simp [brk, show 5 + (a % v 0 + 1) = 6 + a % v 0 by omega]; omega
          first
            | (have hs := hR.setStrength (p := a % v 0 + 1) (y := 99) hw (by omega)
               rw [show 5 + (a % v 0 + 1) = 6 + a % v 0 by omega] at hs
               rw [show drV v a = sv v (6 + a % v 0) 99 from if_pos h_32]
               exact ⟨rfl, hs, Fr.rf.up (by omega)⟩)
            | (rw [show drV v a = bkV v (a % v 0 + 1) from by
                 unfold drV; rw [if_neg h_32, if_pos ⟨h_56, by rw [hbe] at h_67; simpa using h_67⟩]]
               exact ⟨rfl, hR2, hF2⟩)
            | (rw [show drV v a = v from by
                 unfold drV; rw [if_neg h_32, if_neg (by rintro ⟨-, z9⟩; rw [hbe] at h_67; simp at h_67; exact z9 h_67)]]
               exact ⟨rfl, hR, Fr.rf⟩)
            | (rw [show drV v a = v from by
                 unfold drV; rw [if_neg h_32, if_neg (fun z9 => h_56 z9.1)]]
               exact ⟨rfl, hR, Fr.rf⟩)
    · refine x_aload_n dX5_draw_35 rfl ?_
      refine g_X5_30 dX5_draw_36 ?_
      refine g_X5_80 dX5_draw_39 ?_
      refine x_iload_n dX5_draw_42 rfl ?_
      refine x_bipush (v := nI 99) dX5_draw_43 rfl ?_
      refine x_ias dX5_draw_45 (ArL (by assumption) (Or.inl ⟨by decide, by decide, rfl⟩)) (by omega) ?_
      refine x_goto 79 dX5_draw_46 ?_
      refine x_vret dX5_draw_79 ?_
      have hbe : brk v (a % v 0 + 1) = decide (v (6 + a % v 0) = 0) := by
        simp [brk, show 5 + (a % v 0 + 1) = 6 + a % v 0 by omega]; omega
      first
        | (have hs := hR.setStrength (p := a % v 0 + 1) (y := 99) hw (by omega)
           rw [show 5 + (a % v 0 + 1) = 6 + a % v 0 by omega] at hs
           rw [show drV v a = sv v (6 + a % v 0) 99 from if_pos h_32]
           exact ⟨rfl, hs, Fr.rf.up (by omega)⟩)
        | (rw [show drV v a = bkV v (a % v 0 + 1) from by
             unfold drV; rw [if_neg h_32, if_pos ⟨h_56, by rw [hbe] at h_67; simpa using h_67⟩]]
           exact ⟨rfl, hR2, hF2⟩)
        | (rw [show drV v a = v from by
             unfold drV; rw [if_neg h_32, if_neg (by rintro ⟨-, z9⟩; rw [hbe] at h_67; simp at h_67; exact z9 h_67)]]
           exact ⟨rfl, hR, Fr.rf⟩)
        | (rw [show drV v a = v from by
             unfold drV; rw [if_neg h_32, if_neg (fun z9 => h_56 z9.1)]]
           exact ⟨rfl, hR, Fr.rf⟩)
  · exfalso; have := hI.2.1; omega
set_option maxRecDepth 100000 in
set_option maxHeartbeats 4000000 in
theorem c_afterDraws {Ω : Om} {l : Launch} {M : Mem} {b : Nat} {v : Nat → Nat} (hb : Lk b) (hb5 : b ≠ 65) (hR : LkR M b v) (hI : Iv v) {n a : Nat} (hn60 : n ≤ 60) (ha : a ≤ 999999) (hh : v 3 ≤ 4000) : Ct Ω l yX5_afterDraws cX5_afterDraws 7 6 (some (.object "LadderSprings$Lake")) [.ref (Ω.2.2 14), .ref (Ω.2.2 b), .int (nI n), .int (nI a)] M (fun ro M' => ro = some (.ref (Ω.2.2 65)) ∧ LkR M' 65 (dwV v a n) ∧ Fr 65 M M') := by
  have hw := hI.1
  have hn := hw.nums
  have hL65 : Lk 65 := Lk65
  have hL73 : Lk 73 := Lk73
  refine ct_of (by decide) (Nat.le_of_ble_eq_true rfl) ?_
  intro p e R s m args below meth c
  have key : ∀ (k : Nat) (h : Nat) (M1 : Mem), h + k = n ∧ LkR M1 65 (dwV v a h) ∧ Fr 65 M M1 → X (mkG p l e R s m args below meth c Ω (fun ro M' => ro = some (.ref (Ω.2.2 65)) ∧ LkR M' 65 (dwV v a n) ∧ Fr 65 M M')) Ω RX5 cX5_afterDraws 7 6 (some (.object "LadderSprings$Lake")) 15 [some (.ref (Ω.2.2 14)), some (.ref (Ω.2.2 b)), some (.int (nI n)), some (.int (nI a)), some (.long (lN (dwX a h))), none, some (.int (nI h))] [] M1 := by
    intro k
    induction k with
    | zero =>
      intro h M1 hk
      obtain ⟨hk, hR1, hF1⟩ := hk
      obtain ⟨hI1, h31⟩ := dwV_Iv hI a h (by omega)
      have hx := dwX_lt (a := a) (by omega) h
      have hx1 := dwX_lt (a := a) (by omega) (h + 1)
      refine x_iload dX5_afterDraws_15 rfl ?_
      refine x_iload_n dX5_afterDraws_17 rfl ?_
      refine y_icmp_ge 52 dX5_afterDraws_18 (by omega) (by omega) (fun h_18 => ?_) (fun h_18 => ?_)
      · refine x_aload_n dX5_afterDraws_52 rfl ?_
        refine g_X5_30 dX5_afterDraws_53 ?_
        refine x_aret dX5_afterDraws_56 (Or.inr ⟨_, rfl⟩) ?_
        obtain rfl : h = n := by omega
        exact ⟨rfl, hR1, hF1⟩
      · exfalso; omega
    | succ k ih =>
      intro h M1 hk
      obtain ⟨hk, hR1, hF1⟩ := hk
      obtain ⟨hI1, h31⟩ := dwV_Iv hI a h (by omega)
      have hx := dwX_lt (a := a) (by omega) h
      have hx1 := dwX_lt (a := a) (by omega) (h + 1)
      refine x_iload dX5_afterDraws_15 rfl ?_
      refine x_iload_n dX5_afterDraws_17 rfl ?_
      refine y_icmp_ge 52 dX5_afterDraws_18 (by omega) (by omega) (fun h_18 => ?_) (fun h_18 => ?_)
      · refine x_aload_n dX5_afterDraws_52 rfl ?_
        refine g_X5_30 dX5_afterDraws_53 ?_
        refine x_aret dX5_afterDraws_56 (Or.inr ⟨_, rfl⟩) ?_
        obtain rfl : h = n := by omega
        exact ⟨rfl, hR1, hF1⟩
      · refine x_lload dX5_afterDraws_21 rfl ?_
        refine x_ldc2 (v := lN 16807) dX5_afterDraws_23 k_X5_198 ?_
        refine y_lmul dX5_afterDraws_26 ?_
        refine x_ldc2 (v := lN 2147483647) dX5_afterDraws_27 k_X5_200 ?_
        refine y_lrem dX5_afterDraws_30 (by omega) (by omega) (by omega) ?_
        refine x_lstore dX5_afterDraws_31 ?_
        refine x_aload_n dX5_afterDraws_33 rfl ?_
        refine x_lload dX5_afterDraws_34 rfl ?_
        refine q_X5_202 (c_draw (a := dwX a (h + 1)) hR1 hI1 (by omega)) dX5_afterDraws_36 rfl ?_
        rintro _ M2 ⟨rfl, hR2, hF2⟩
        refine x_aload_n dX5_afterDraws_39 rfl ?_
        refine g_X5_30 dX5_afterDraws_40 ?_
        refine q_X5_41 (c_runHour Lk65 hR2 (drV_Iv hI1 _).1) dX5_afterDraws_43 rfl ?_
        rintro _ M3 ⟨rfl, hR3, hF3⟩
        refine y_iinc dX5_afterDraws_46 rfl ?_
        refine x_goto 15 dX5_afterDraws_49 ?_
        exact ih (h + 1) _ ⟨by omega, hR3, (hF1.tr hF2).tr hF3⟩
  refine x_aload_n dX5_afterDraws_0 rfl ?_
  refine g_X5_30 dX5_afterDraws_1 ?_
  refine x_aload_n dX5_afterDraws_4 rfl ?_
  refine q_X5_37 (c_become Lk65 hb hb5 hR hw) dX5_afterDraws_5 rfl ?_
  rintro _ M0 ⟨rfl, hR0, hF0⟩
  refine x_iload_n dX5_afterDraws_8 rfl ?_
  refine y_i2l dX5_afterDraws_9 (by omega) ?_
  refine x_lstore dX5_afterDraws_10 ?_
  refine y_iconst (a := 0) dX5_afterDraws_12 rfl ?_
  refine x_istore dX5_afterDraws_13 ?_
  exact key _ 0 _ ⟨Nat.zero_add _, hR0, hF0⟩
