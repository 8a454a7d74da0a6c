/-! LAKE, what changes (laid by gen_lake5.py) -/
theorem dn_and : ∀ d, d < 64 → ∀ w, w < 64 → nI d &&& (nI w ^^^ (-1)) = nI (d &&& (63 ^^^ w)) := by decide +kernel
theorem dn_or : ∀ n, n ≤ 6 → ∀ u, u < 2 ^ n → ∀ w, w < 2 ^ n → ((2 ^ n - 1) ^^^ u) &&& (63 ^^^ w) = (2 ^ n - 1) ^^^ (u ||| w) := by decide +kernel
theorem dn_clr : ∀ n, n ≤ 6 → ∀ u, u < 2 ^ n → ∀ g, g < n → ((2 ^ n - 1) ^^^ u) ||| 2 ^ g = (2 ^ n - 1) ^^^ clr u g := by decide +kernel
theorem Wv.bkN {v : Nat → Nat} (hw : Wv v) {p : Nat} (h1 : 1 ≤ p) (hp : p ≤ v 0) {k : Nat} (hk : k ≤ v 2) : Wv (bkN v p k) := by
  have hn := hw.nums
  refine hw.wear (fun j hj => bkN_ne p k (by omega) (by omega) (by omega)) (by rw [bkN_ne p k (by omega) (by omega) (by omega)]; exact hw.up) (fun r hr => ?_) (fun g hg => ?_)
  · by_cases e : 6 + r = 5 + p
    · rw [e, bkN_s p (by omega)]; omega
    · rw [bkN_ne p k e (by omega) (by omega)]; exact hw.2.2.2.2.2.2.1 r hr
  · rw [bkN_33 p (by omega) k g (by omega) (by omega)]
    have := (hw.goer hg).2.2.2.2
    split <;> omega
set_option maxRecDepth 100000 in
set_option maxHeartbeats 4000000 in
theorem c_stepUp {Ω : Om} {l : Launch} {M : Mem} {b : Nat} {v : Nat → Nat} (hb : Lk b) (hR : LkR M b v) (hw : Wv v) {g : Nat} (hg : g < v 2) : Ct Ω l yX8_stepUp cX8_stepUp 3 3 (some .boolean) [.ref (Ω.2.2 b), .int (nI g)] M (fun r M' => r = some (.int (bI (suP v g).isSome)) ∧ LkR M' b (suV v g) ∧ Fr b M M') := by
  have hn := hw.nums
  have hgo := hw.goer hg
  have hlr := loadR_le hw
  have hlo := lo_le hw hg
  refine ct_of (by decide) (Nat.le_of_ble_eq_true rfl) ?_
  intro p e R s m args below meth c
  refine x_aload_n dX8_stepUp_0 rfl ?_
  refine x_aload_n dX8_stepUp_1 rfl ?_
  refine g_X8_27 dX8_stepUp_2 ?_
  refine x_iload_n dX8_stepUp_5 rfl ?_
  refine x_ial dX8_stepUp_6 (ArL (by assumption) (Or.inr ⟨by decide, by decide, rfl⟩)) (by omega) ?_
  rw [hR.place (by omega)]
  refine q_X8_85 (c_upFrom hb hR hw (by omega)) dX8_stepUp_7 rfl ?_
  rintro _ _ ⟨rfl, rfl⟩
  rcases hu : upF v (v (33 + g)) with _ | q
  · show X _ _ _ _ _ _ _ _ _ (.int (-1) :: _) _
    refine x_istore_n dX8_stepUp_10 ?_
    refine x_iload_n dX8_stepUp_11 rfl ?_
    refine x_iconst (v := -1) dX8_stepUp_12 rfl ?_
    refine x_icmp_eq 42 dX8_stepUp_13 (fun h_13 => ?_) (fun h_13 => ?_)
    · refine y_iconst (a := 0) dX8_stepUp_42 rfl ?_
      first | refine z_iret dX8_stepUp_43 ?_ | refine z_iret0 dX8_stepUp_43 ?_ | refine z_iret1 dX8_stepUp_43 ?_
      have hs : suP v g = none := by unfold suP; rw [hu]
      exact ⟨by rw [hs]; rfl, by rw [suV_none hs]; exact hR, Fr.rf⟩
    · exact absurd rfl h_13
  · have hq := upF_le v hu
    show X _ _ _ _ _ _ _ _ _ (.int (nI q) :: _) _
    refine x_istore_n dX8_stepUp_10 ?_
    refine x_iload_n dX8_stepUp_11 rfl ?_
    refine x_iconst (v := -1) dX8_stepUp_12 rfl ?_
    refine x_icmp_eq 42 dX8_stepUp_13 (fun h_13 => ?_) (fun h_13 => ?_)
    · first
        | exact absurd h_13 (nI_m1 (by omega))
        | (refine y_iconst (a := 0) dX8_stepUp_42 rfl ?_
           refine z_iret0 dX8_stepUp_43 ?_
           have hs : suP v g = none := by
             unfold suP; simp only [hu]; exact if_pos (by omega)
           exact ⟨by rw [hs]; rfl, by rw [suV_none hs]; exact hR, Fr.rf⟩)
    · refine x_aload_n dX8_stepUp_16 rfl ?_
      refine g_X8_27 dX8_stepUp_17 ?_
      refine x_iload_n dX8_stepUp_20 rfl ?_
      refine x_ial dX8_stepUp_21 (ArL (by assumption) (Or.inr ⟨by decide, by decide, rfl⟩)) (by omega) ?_
      rw [hR.place (by omega)]
      refine y_if_ne 44 dX8_stepUp_22 (by omega) (fun h_22 => ?_) (fun h_22 => ?_)
      · refine x_aload_n dX8_stepUp_44 rfl ?_
        refine g_X8_27 dX8_stepUp_45 ?_
        refine x_iload_n dX8_stepUp_48 rfl ?_
        refine x_iload_n dX8_stepUp_49 rfl ?_
        refine x_ias dX8_stepUp_50 (ArL (by assumption) (Or.inr ⟨by decide, by decide, rfl⟩)) (by omega) ?_
        refine y_iconst (a := 1) dX8_stepUp_51 rfl ?_
        first | refine z_iret dX8_stepUp_52 ?_ | refine z_iret0 dX8_stepUp_52 ?_ | refine z_iret1 dX8_stepUp_52 ?_
        have hs : suP v g = some q := by
          unfold suP; simp only [hu]; exact if_neg (by omega)
        exact ⟨by rw [hs]; rfl, by rw [suV_some hs]; exact hR.setPlace hw hg, Fr.rf.up (by omega)⟩
      · refine x_aload_n dX8_stepUp_25 rfl ?_
        refine q_X8_88 (c_loadOnRungs hb hR hw) dX8_stepUp_26 rfl ?_
        rintro _ _ ⟨rfl, rfl⟩
        refine x_aload_n dX8_stepUp_29 rfl ?_
        refine x_iload_n dX8_stepUp_30 rfl ?_
        refine q_X8_75 (c_loadOf hb hR hw hg) dX8_stepUp_31 rfl ?_
        rintro _ _ ⟨rfl, rfl⟩
        refine y_iadd dX8_stepUp_34 ?_
        refine x_aload_n dX8_stepUp_35 rfl ?_
        refine g_X8_41 dX8_stepUp_36 ?_
        rw [hR.rope]
        refine y_icmp_le 44 dX8_stepUp_39 (by omega) (by omega) (fun h_39 => ?_) (fun h_39 => ?_)
        · refine x_aload_n dX8_stepUp_44 rfl ?_
          refine g_X8_27 dX8_stepUp_45 ?_
          refine x_iload_n dX8_stepUp_48 rfl ?_
          refine x_iload_n dX8_stepUp_49 rfl ?_
          refine x_ias dX8_stepUp_50 (ArL (by assumption) (Or.inr ⟨by decide, by decide, rfl⟩)) (by omega) ?_
          refine y_iconst (a := 1) dX8_stepUp_51 rfl ?_
          first | refine z_iret dX8_stepUp_52 ?_ | refine z_iret0 dX8_stepUp_52 ?_ | refine z_iret1 dX8_stepUp_52 ?_
          have hs : suP v g = some q := by
            unfold suP; simp only [hu]; exact if_neg (by omega)
          exact ⟨by rw [hs]; rfl, by rw [suV_some hs]; exact hR.setPlace hw hg, Fr.rf.up (by omega)⟩
        · first
            | exact absurd h_13 (nI_m1 (by omega))
            | (refine y_iconst (a := 0) dX8_stepUp_42 rfl ?_
               refine z_iret0 dX8_stepUp_43 ?_
               have hs : suP v g = none := by
                 unfold suP; simp only [hu]; exact if_pos (by omega)
               exact ⟨by rw [hs]; rfl, by rw [suV_none hs]; exact hR, Fr.rf⟩)
set_option maxRecDepth 100000 in
set_option maxHeartbeats 4000000 in
theorem c_stepDown {Ω : Om} {l : Launch} {M : Mem} {b : Nat} {v : Nat → Nat} (hb : Lk b) (hR : LkR M b v) (hw : Wv v) {g : Nat} (hg : g < v 2) : Ct Ω l yX8_stepDown cX8_stepDown 3 3 none [.ref (Ω.2.2 b), .int (nI g)] M (fun r M' => r = none ∧ LkR M' b (sdV v g) ∧ Fr b M M') := by
  have hn := hw.nums
  have hgo := hw.goer hg
  have hd := hw.dn64
  refine ct_of (by decide) (Nat.le_of_ble_eq_true rfl) ?_
  intro p e R s m args below meth c
  refine x_aload_n dX8_stepDown_0 rfl ?_
  refine x_aload_n dX8_stepDown_1 rfl ?_
  refine g_X8_27 dX8_stepDown_2 ?_
  refine x_iload_n dX8_stepDown_5 rfl ?_
  refine x_ial dX8_stepDown_6 (ArL (by assumption) (Or.inr ⟨by decide, by decide, rfl⟩)) (by omega) ?_
  rw [hR.place (by omega)]
  refine q_X8_91 (c_downFrom hb hR hw (by omega)) dX8_stepDown_7 rfl ?_
  rintro _ _ ⟨rfl, rfl⟩
  rcases hu : dnF v (v (33 + g)) with _ | q
  · show X _ _ _ _ _ _ _ _ _ (.int (-1) :: _) _
    refine x_istore_n dX8_stepDown_10 ?_
    refine x_iload_n dX8_stepDown_11 rfl ?_
    refine x_iconst (v := -1) dX8_stepDown_12 rfl ?_
    refine x_icmp_ne 17 dX8_stepDown_13 (fun h_13 => ?_) (fun h_13 => ?_)
    · exact absurd rfl h_13
    · refine x_vret dX8_stepDown_16 ?_
      exact ⟨rfl, by rw [sdV_none hu]; exact hR, Fr.rf⟩
  · have hq := dnF_le v hu
    show X _ _ _ _ _ _ _ _ _ (.int (nI q) :: _) _
    refine x_istore_n dX8_stepDown_10 ?_
    refine x_iload_n dX8_stepDown_11 rfl ?_
    refine x_iconst (v := -1) dX8_stepDown_12 rfl ?_
    refine x_icmp_ne 17 dX8_stepDown_13 (fun h_13 => ?_) (fun h_13 => ?_)
    · refine x_aload_n dX8_stepDown_17 rfl ?_
      refine g_X8_27 dX8_stepDown_18 ?_
      refine x_iload_n dX8_stepDown_21 rfl ?_
      refine x_iload_n dX8_stepDown_22 rfl ?_
      refine x_ias dX8_stepDown_23 (ArL (by assumption) (Or.inr ⟨by decide, by decide, rfl⟩)) (by omega) ?_
      refine x_iload_n dX8_stepDown_24 rfl ?_
      refine y_if_ne 42 dX8_stepDown_25 (by omega) (fun h_25 => ?_) (fun h_25 => ?_)
      · refine x_vret dX8_stepDown_42 ?_
        refine ⟨rfl, ?_, Fr.rf.up (by omega)⟩
        rw [sdV_some hu, if_neg (by omega)]
        exact hR.setPlace hw hg
      · obtain rfl : q = 0 := h_25
        have hR1 := hR.setPlace (y := 0) hw hg
        have hw1 : (sv v (33 + g) 0) 2 = v 2 := sv_ne _ _ (by omega)
        have hw5 : (sv v (33 + g) 0) 5 = v 5 := sv_ne _ _ (by omega)
        refine x_aload_n dX8_stepDown_28 rfl ?_
        refine x_dup dX8_stepDown_29 rfl ?_
        refine g_X8_53 dX8_stepDown_30 ?_
        rw [hR1.down, hw1, hw5]
        refine y_iconst (a := 1) dX8_stepDown_33 rfl ?_
        refine x_iload_n dX8_stepDown_34 rfl ?_
        refine y_ishl dX8_stepDown_35 (by omega) ?_
        rw [Nat.one_mul]
        refine x_iconst (v := -1) dX8_stepDown_36 rfl ?_
        refine x_ixor dX8_stepDown_37 ?_
        refine x_iand dX8_stepDown_38 ?_
        rw [dn_and _ hd _ (Nat.lt_of_lt_of_le (bit_lt hg) (pow6 (by omega))), dn_or _ (by omega) _ hw.up _ (bit_lt hg)]
        refine p_X8_53 dX8_stepDown_39 ?_
        refine x_vret dX8_stepDown_42 ?_
        refine ⟨rfl, ?_, (Fr.rf.up (by omega)).up (by omega)⟩
        rw [sdV_some hu, if_pos rfl]
        have hR2 := hR1.setDown (u := v 5 ||| 2 ^ g)
        rw [hw1] at hR2
        exact hR2
    · exact absurd h_13 (nI_m1 (by omega))
set_option maxRecDepth 100000 in
set_option maxHeartbeats 4000000 in
theorem c_turnIfAtEnd {Ω : Om} {l : Launch} {M : Mem} {b : Nat} {v : Nat → Nat} (hb : Lk b) (hR : LkR M b v) (hw : Wv v) {g : Nat} (hg : g < v 2) : Ct Ω l yX8_turnIfAtEnd cX8_turnIfAtEnd 3 3 none [.ref (Ω.2.2 b), .int (nI g)] M (fun r M' => r = none ∧ LkR M' b (tiV v g) ∧ Fr b M M') := by
  have hn := hw.nums
  have hgo := hw.goer hg
  have hd := hw.dn64
  have hh : hiS v ≤ v 0 := hiN_le v _
  refine ct_of (by decide) (Nat.le_of_ble_eq_true rfl) ?_
  intro p e R s m args below meth c
  refine x_aload_n dX8_turnIfAtEnd_0 rfl ?_
  refine g_X8_27 dX8_turnIfAtEnd_1 ?_
  refine x_iload_n dX8_turnIfAtEnd_4 rfl ?_
  refine x_ial dX8_turnIfAtEnd_5 (ArL (by assumption) (Or.inr ⟨by decide, by decide, rfl⟩)) (by omega) ?_
  rw [hR.place (by omega)]
  refine x_istore_n dX8_turnIfAtEnd_6 ?_
  refine x_iload_n dX8_turnIfAtEnd_7 rfl ?_
  refine y_if_eq 40 dX8_turnIfAtEnd_8 (by omega) (fun h_8 => ?_) (fun h_8 => ?_)
  · refine x_vret dX8_turnIfAtEnd_40 ?_
    refine ⟨rfl, ?_, Fr.rf⟩
    rw [show tiV v g = v from if_neg (by simp_all)]
    exact hR
  · refine x_iload_n dX8_turnIfAtEnd_11 rfl ?_
    refine x_aload_n dX8_turnIfAtEnd_12 rfl ?_
    refine q_X8_94 (c_highestSound hb hR hw) dX8_turnIfAtEnd_13 rfl ?_
    rintro _ _ ⟨rfl, rfl⟩
    refine y_icmp_eq 28 dX8_turnIfAtEnd_16 (by omega) (by omega) (fun h_16 => ?_) (fun h_16 => ?_)
    · refine x_aload_n dX8_turnIfAtEnd_28 rfl ?_
      refine x_dup dX8_turnIfAtEnd_29 rfl ?_
      refine g_X8_53 dX8_turnIfAtEnd_30 ?_
      rw [hR.down]
      refine y_iconst (a := 1) dX8_turnIfAtEnd_33 rfl ?_
      refine x_iload_n dX8_turnIfAtEnd_34 rfl ?_
      refine y_ishl dX8_turnIfAtEnd_35 (by omega) ?_
      rw [Nat.one_mul]
      refine y_ior dX8_turnIfAtEnd_36 ?_
      rw [dn_clr _ (by omega) _ hw.up _ hg]
      refine p_X8_53 dX8_turnIfAtEnd_37 ?_
      refine x_vret dX8_turnIfAtEnd_40 ?_
      refine ⟨rfl, ?_, Fr.rf.up (by omega)⟩
      rw [show tiV v g = sv v 5 (clr (v 5) g) from if_pos (by simp_all)]
      exact hR.setDown
    · refine x_aload_n dX8_turnIfAtEnd_19 rfl ?_
      refine x_iload_n dX8_turnIfAtEnd_20 rfl ?_
      refine q_X8_85 (c_upFrom hb hR hw (by omega)) dX8_turnIfAtEnd_21 rfl ?_
      rintro _ _ ⟨rfl, rfl⟩
      rcases hu : upF v (v (33 + g)) with _ | q
      · show X _ _ _ _ _ _ _ _ _ (.int (-1) :: _) _
        refine x_iconst (v := -1) dX8_turnIfAtEnd_24 rfl ?_
        refine x_icmp_ne 40 dX8_turnIfAtEnd_25 (fun h_25 => ?_) (fun h_25 => ?_)
        · exact absurd rfl h_25
        · refine x_aload_n dX8_turnIfAtEnd_28 rfl ?_
          refine x_dup dX8_turnIfAtEnd_29 rfl ?_
          refine g_X8_53 dX8_turnIfAtEnd_30 ?_
          rw [hR.down]
          refine y_iconst (a := 1) dX8_turnIfAtEnd_33 rfl ?_
          refine x_iload_n dX8_turnIfAtEnd_34 rfl ?_
          refine y_ishl dX8_turnIfAtEnd_35 (by omega) ?_
          rw [Nat.one_mul]
          refine y_ior dX8_turnIfAtEnd_36 ?_
          rw [dn_clr _ (by omega) _ hw.up _ hg]
          refine p_X8_53 dX8_turnIfAtEnd_37 ?_
          refine x_vret dX8_turnIfAtEnd_40 ?_
          refine ⟨rfl, ?_, Fr.rf.up (by omega)⟩
          rw [show tiV v g = sv v 5 (clr (v 5) g) from if_pos (by simp_all)]
          exact hR.setDown
      · have hq := upF_le v hu
        show X _ _ _ _ _ _ _ _ _ (.int (nI q) :: _) _
        refine x_iconst (v := -1) dX8_turnIfAtEnd_24 rfl ?_
        refine x_icmp_ne 40 dX8_turnIfAtEnd_25 (fun h_25 => ?_) (fun h_25 => ?_)
        · refine x_vret dX8_turnIfAtEnd_40 ?_
          refine ⟨rfl, ?_, Fr.rf⟩
          rw [show tiV v g = v from if_neg (by simp_all)]
          exact hR
        · exact absurd h_25 (nI_m1 (by omega))
set_option maxRecDepth 100000 in
set_option maxHeartbeats 4000000 in
theorem c_climb1 {Ω : Om} {l : Launch} {M : Mem} {b : Nat} {v : Nat → Nat} (hb : Lk b) (hR : LkR M b v) (hw : Wv v) {q : Nat} {g : Nat} (hg : g < v 2) : Ct Ω l yX1_climb cX1_climb 3 4 none [.ref (Ω.2.2 q), .ref (Ω.2.2 b), .int (nI g)] M (fun r M' => r = none ∧ LkR M' b (suV v g) ∧ Fr b M M') := by
  have hn := hw.nums
  refine ct_of (by decide) (Nat.le_of_ble_eq_true rfl) ?_
  intro p e R s m args below meth c
  refine x_aload_n dX1_climb_0 rfl ?_
  refine x_iload_n dX1_climb_1 rfl ?_
  refine q_X1_7 (c_stepUp hb hR hw hg) dX1_climb_2 rfl ?_
  rintro _ M1 ⟨rfl, hR1, hF1⟩
  refine x_pop dX1_climb_5 rfl ?_
  refine x_vret dX1_climb_6 ?_
  exact ⟨rfl, hR1, hF1⟩
set_option maxRecDepth 100000 in
set_option maxHeartbeats 4000000 in
theorem c_climb3 {Ω : Om} {l : Launch} {M : Mem} {b : Nat} {v : Nat → Nat} (hb : Lk b) (hR : LkR M b v) (hw : Wv v) {q : Nat} {g : Nat} (hg : g < v 2) : Ct Ω l yX2_climb cX2_climb 3 4 none [.ref (Ω.2.2 q), .ref (Ω.2.2 b), .int (nI g)] M (fun r M' => r = none ∧ LkR M' b (if v 3 % 2 = 0 then suV v g else v) ∧ Fr b M M') := by
  have hn := hw.nums
  refine ct_of (by decide) (Nat.le_of_ble_eq_true rfl) ?_
  intro p e R s m args below meth c
  refine x_aload_n dX2_climb_0 rfl ?_
  refine g_X2_7 dX2_climb_1 ?_
  rw [hR.hour]
  refine y_iconst (a := 2) dX2_climb_4 rfl ?_
  refine y_irem dX2_climb_5 (by omega) (by omega) (by omega) ?_
  have h2 : v 3 % 2 < 2 := Nat.mod_lt _ (by decide)
  refine y_if_ne 15 dX2_climb_6 (by omega) (fun h_6 => ?_) (fun h_6 => ?_)
  · refine x_vret dX2_climb_15 ?_
    first | (rw [if_pos h_6]; exact ⟨rfl, hR1, hF1⟩) | (rw [if_neg h_6]; exact ⟨rfl, hR, Fr.rf⟩)
  · refine x_aload_n dX2_climb_9 rfl ?_
    refine x_iload_n dX2_climb_10 rfl ?_
    refine q_X2_13 (c_stepUp hb hR hw hg) dX2_climb_11 rfl ?_
    rintro _ M1 ⟨rfl, hR1, hF1⟩
    refine x_pop dX2_climb_14 rfl ?_
    refine x_vret dX2_climb_15 ?_
    first | (rw [if_pos h_6]; exact ⟨rfl, hR1, hF1⟩) | (rw [if_neg h_6]; exact ⟨rfl, hR, Fr.rf⟩)
set_option maxRecDepth 100000 in
set_option maxHeartbeats 4000000 in
theorem c_climb2 {Ω : Om} {l : Launch} {M : Mem} {b : Nat} {v : Nat → Nat} (hb : Lk b) (hR : LkR M b v) (hw : Wv v) {q : Nat} {g : Nat} (hg : g < v 2) : Ct Ω l yX3_climb cX3_climb 3 4 none [.ref (Ω.2.2 q), .ref (Ω.2.2 b), .int (nI g)] M (fun r M' => r = none ∧ LkR M' b (if (suP v g).isSome = true then suV (suV v g) g else v) ∧ Fr b M M') := by
  have hn := hw.nums
  refine ct_of (by decide) (Nat.le_of_ble_eq_true rfl) ?_
  intro p e R s m args below meth c
  refine x_aload_n dX3_climb_0 rfl ?_
  refine x_iload_n dX3_climb_1 rfl ?_
  refine q_X3_7 (c_stepUp hb hR hw hg) dX3_climb_2 rfl ?_
  rintro _ M1 ⟨rfl, hR1, hF1⟩
  refine z_if_eq 14 dX3_climb_5 (fun h_5 => ?_) (fun h_5 => ?_)
  · refine x_vret dX3_climb_14 ?_
    first
      | (rw [if_pos h_5]; exact ⟨rfl, hR2, hF1.tr hF2⟩)
      | (have hs : suP v g = none := by simpa using h_5
         rw [if_neg (by rw [hs]; decide)]
         rw [suV_none hs] at hR1
         exact ⟨rfl, hR1, hF1⟩)
  · refine x_aload_n dX3_climb_8 rfl ?_
    refine x_iload_n dX3_climb_9 rfl ?_
    refine q_X3_7 (c_stepUp hb hR1 (hw.su hg) (by rw [suV_2]; exact hg)) dX3_climb_10 rfl ?_
    rintro _ M2 ⟨rfl, hR2, hF2⟩
    refine x_pop dX3_climb_13 rfl ?_
    refine x_vret dX3_climb_14 ?_
    first
      | (rw [if_pos h_5]; exact ⟨rfl, hR2, hF1.tr hF2⟩)
      | (have hs : suP v g = none := by simpa using h_5
         rw [if_neg (by rw [hs]; decide)]
         rw [suV_none hs] at hR1
         exact ⟨rfl, hR1, hF1⟩)
set_option maxRecDepth 100000 in
set_option maxHeartbeats 4000000 in
theorem c_climb4 {Ω : Om} {l : Launch} {M : Mem} {b : Nat} {v : Nat → Nat} (hb : Lk b) (hR : LkR M b v) (hw : Wv v) {q : Nat} {g : Nat} (hg : g < v 2) : Ct Ω l yX4_climb cX4_climb 3 4 none [.ref (Ω.2.2 q), .ref (Ω.2.2 b), .int (nI g)] M (fun r M' => r = none ∧ LkR M' b (if upw (tiV v g) g = true then suV (tiV v g) g else sdV (tiV v g) g) ∧ Fr b M M') := by
  have hn := hw.nums
  have hw1 := hw.ti g
  have hg1 : g < tiV v g 2 := by rw [tiV_2]; exact hg
  refine ct_of (by decide) (Nat.le_of_ble_eq_true rfl) ?_
  intro p e R s m args below meth c
  refine x_aload_n dX4_climb_0 rfl ?_
  refine x_iload_n dX4_climb_1 rfl ?_
  refine q_X4_7 (c_turnIfAtEnd hb hR hw hg) dX4_climb_2 rfl ?_
  rintro _ M1 ⟨rfl, hR1, hF1⟩
  refine x_aload_n dX4_climb_5 rfl ?_
  refine x_iload_n dX4_climb_6 rfl ?_
  refine q_X4_13 (c_isOnWayUp hb hR1 hw1 hg1) dX4_climb_7 rfl ?_
  rintro _ _ ⟨rfl, rfl⟩
  refine z_if_eq 22 dX4_climb_10 (fun h_10 => ?_) (fun h_10 => ?_)
  · refine x_aload_n dX4_climb_22 rfl ?_
    refine x_iload_n dX4_climb_23 rfl ?_
    refine q_X4_20 (c_stepDown hb hR1 hw1 hg1) dX4_climb_24 rfl ?_
    rintro _ M2 ⟨rfl, hR2, hF2⟩
    refine x_vret dX4_climb_27 ?_
    first | (rw [if_pos h_10]; exact ⟨rfl, hR2, hF1.tr hF2⟩) | (rw [if_neg (by rw [h_10]; decide)]; exact ⟨rfl, hR2, hF1.tr hF2⟩)
  · refine x_aload_n dX4_climb_13 rfl ?_
    refine x_iload_n dX4_climb_14 rfl ?_
    refine q_X4_17 (c_stepUp hb hR1 hw1 hg1) dX4_climb_15 rfl ?_
    rintro _ M2 ⟨rfl, hR2, hF2⟩
    refine x_pop dX4_climb_18 rfl ?_
    refine x_goto 27 dX4_climb_19 ?_
    refine x_vret dX4_climb_27 ?_
    first | (rw [if_pos h_10]; exact ⟨rfl, hR2, hF1.tr hF2⟩) | (rw [if_neg (by rw [h_10]; decide)]; exact ⟨rfl, hR2, hF1.tr hF2⟩)
set_option maxRecDepth 100000 in
set_option maxHeartbeats 4000000 in
theorem c_breakAt {Ω : Om} {l : Launch} {M : Mem} {b : Nat} {v : Nat → Nat} (hb : Lk b) (hR : LkR M b v) (hw : Wv v) {q : Nat} (hq : 1 ≤ q ∧ q ≤ v 0) : Ct Ω l yX8_breakAt cX8_breakAt 4 1 (some .int) [.ref (Ω.2.2 b), .int (nI q)] M (fun r M' => r = some (.int (nI (whoA v q))) ∧ LkR M' b (bkV v q) ∧ Fr b M M' ∧ M'.1 (b + 1) = M.1 (b + 1)) := by
  have hn := hw.nums
  have hd := hw.dn64
  have hwl := whoA_lt hw q
  have hw2 := whoA_lt2 v q
  refine ct_of (by decide) (Nat.le_of_ble_eq_true rfl) ?_
  intro p e R s m args below meth c
  have key : ∀ (k : Nat) (g : Nat) (M1 : Mem), g + k = v 2 ∧ LkR M1 b (bkN v q g) ∧ Fr b M M1 ∧ M1.1 (b + 1) = M.1 (b + 1) → X (mkG p l e R s m args below meth c Ω (fun r M' => r = some (.int (nI (whoA v q))) ∧ LkR M' b (bkV v q) ∧ Fr b M M' ∧ M'.1 (b + 1) = M.1 (b + 1))) Ω RX8 cX8_breakAt 4 1 (some .int) 11 [some (.ref (Ω.2.2 b)), some (.int (nI q)), some (.int (nI (orN (fun g => if v (33 + g) = q then 2 ^ g else 0) g))), some (.int (nI g))] [] M1 := by
    intro k
    induction k with
    | zero =>
      intro g M1 hk
      obtain ⟨hk, hR1, hF1, hl1⟩ := hk
      have hw1 := hw.bkN hq.1 hq.2 (k := g) (by omega)
      have e2 : bkN v q g 2 = v 2 := bkN_ne q g (by omega) (by omega) (by omega)
      have e5 : bkN v q g 5 = v 5 := bkN_ne q g (by omega) (by omega) (by omega)
      have e33 : g < 6 → bkN v q g (33 + g) = v (33 + g) := fun h => by rw [bkN_33 q (by omega) g g (by omega) h, if_neg (by omega)]
      refine x_iload_n dX8_breakAt_11 rfl ?_
      refine x_aload_n dX8_breakAt_12 rfl ?_
      refine g_X8_44 dX8_breakAt_13 ?_
      rw [hR1.goers]
      rw [e2]
      refine y_icmp_ge 58 dX8_breakAt_16 (by omega) (by omega) (fun h_16 => ?_) (fun h_16 => ?_)
      · obtain rfl : g = v 2 := by omega
        refine x_aload_n dX8_breakAt_58 rfl ?_
        refine x_dup dX8_breakAt_59 rfl ?_
        refine g_X8_53 dX8_breakAt_60 ?_
        rw [hR1.down]
        rw [e2, e5]
        refine x_iload_n dX8_breakAt_63 rfl ?_
        refine x_iconst (v := -1) dX8_breakAt_64 rfl ?_
        refine x_ixor dX8_breakAt_65 ?_
        refine x_iand dX8_breakAt_66 ?_
        rw [show orN (fun g => if v (33 + g) = q then 2 ^ g else 0) (v 2) = whoA v q from rfl, dn_and _ hd _ hwl, dn_or _ (by omega) _ hw.up _ hw2]
        refine p_X8_53 dX8_breakAt_67 ?_
        refine x_iload_n dX8_breakAt_70 rfl ?_
        refine x_iret dX8_breakAt_71 ?_
        refine ⟨rfl, ?_, hF1.up (by omega), by rw [up1_ne _ _ _ (by omega)]; exact hl1⟩
        have hR4 := hR1.setDown (u := v 5 ||| whoA v q)
        rw [e2] at hR4
        exact hR4
      · exfalso; omega
    | succ k ih =>
      intro g M1 hk
      obtain ⟨hk, hR1, hF1, hl1⟩ := hk
      have hw1 := hw.bkN hq.1 hq.2 (k := g) (by omega)
      have e2 : bkN v q g 2 = v 2 := bkN_ne q g (by omega) (by omega) (by omega)
      have e5 : bkN v q g 5 = v 5 := bkN_ne q g (by omega) (by omega) (by omega)
      have e33 : g < 6 → bkN v q g (33 + g) = v (33 + g) := fun h => by rw [bkN_33 q (by omega) g g (by omega) h, if_neg (by omega)]
      refine x_iload_n dX8_breakAt_11 rfl ?_
      refine x_aload_n dX8_breakAt_12 rfl ?_
      refine g_X8_44 dX8_breakAt_13 ?_
      rw [hR1.goers]
      rw [e2]
      refine y_icmp_ge 58 dX8_breakAt_16 (by omega) (by omega) (fun h_16 => ?_) (fun h_16 => ?_)
      · obtain rfl : g = v 2 := by omega
        refine x_aload_n dX8_breakAt_58 rfl ?_
        refine x_dup dX8_breakAt_59 rfl ?_
        refine g_X8_53 dX8_breakAt_60 ?_
        rw [hR1.down]
        rw [e2, e5]
        refine x_iload_n dX8_breakAt_63 rfl ?_
        refine x_iconst (v := -1) dX8_breakAt_64 rfl ?_
        refine x_ixor dX8_breakAt_65 ?_
        refine x_iand dX8_breakAt_66 ?_
        rw [show orN (fun g => if v (33 + g) = q then 2 ^ g else 0) (v 2) = whoA v q from rfl, dn_and _ hd _ hwl, dn_or _ (by omega) _ hw.up _ hw2]
        refine p_X8_53 dX8_breakAt_67 ?_
        refine x_iload_n dX8_breakAt_70 rfl ?_
        refine x_iret dX8_breakAt_71 ?_
        refine ⟨rfl, ?_, hF1.up (by omega), by rw [up1_ne _ _ _ (by omega)]; exact hl1⟩
        have hR4 := hR1.setDown (u := v 5 ||| whoA v q)
        rw [e2] at hR4
        exact hR4
      · have hgo := hw.goer (g := g) (by omega)
        have e33 := e33 (by omega)
        refine x_aload_n dX8_breakAt_19 rfl ?_
        refine g_X8_27 dX8_breakAt_20 ?_
        refine x_iload_n dX8_breakAt_23 rfl ?_
        refine x_ial dX8_breakAt_24 (ArL (by assumption) (Or.inr ⟨by decide, by decide, rfl⟩)) (by omega) ?_
        rw [hR1.place (by omega)]
        refine x_iload_n dX8_breakAt_25 rfl ?_
        refine y_icmp_ne 52 dX8_breakAt_26 (by omega) (by omega) (fun h_26 => ?_) (fun h_26 => ?_)
        · skip
          refine y_iinc dX8_breakAt_52 rfl ?_
          refine x_goto 11 dX8_breakAt_55 ?_
          first
            | (have hh := ih (g + 1) _ ⟨by omega, by simp only [bkN]; rw [if_pos h_26]; exact hR3, (hF1.up (by omega)).up (by omega), by rw [up1_ne _ _ _ (by omega), up1_ne _ _ _ (by omega)]; exact hl1⟩
               simp only [orN] at hh
               rw [if_pos (by omega)] at hh
               exact hh)
            | (have hh := ih (g + 1) _ ⟨by omega, by simp only [bkN]; rw [if_neg h_26]; exact hR1, hF1, hl1⟩
               simp only [orN] at hh
               rw [if_neg (by omega), Nat.or_zero] at hh
               exact hh)
        · refine x_iload_n dX8_breakAt_29 rfl ?_
          refine y_iconst (a := 1) dX8_breakAt_30 rfl ?_
          refine x_iload_n dX8_breakAt_31 rfl ?_
          refine y_ishl dX8_breakAt_32 (by omega) ?_
          try rw [Nat.one_mul]
          refine y_ior dX8_breakAt_33 ?_
          refine x_istore_n dX8_breakAt_34 ?_
          refine x_aload_n dX8_breakAt_35 rfl ?_
          refine g_X8_27 dX8_breakAt_36 ?_
          refine x_iload_n dX8_breakAt_39 rfl ?_
          refine y_iconst (a := 0) dX8_breakAt_40 rfl ?_
          refine x_ias dX8_breakAt_41 (ArL (by assumption) (Or.inr ⟨by decide, by decide, rfl⟩)) (by omega) ?_
          have hR2 := hR1.setPlace (y := 0) hw1 (g := g) (by omega)
          have s2 : sv (bkN v q g) (33 + g) 0 2 = v 2 := (sv_ne _ _ (by omega)).trans e2
          have hw2b : Wv (sv (bkN v q g) (33 + g) 0) := hw1.wear (fun j hj => sv_ne _ _ (by omega)) (by rw [sv_ne _ _ (by omega)]; exact hw1.up) (fun r hr => by rw [sv_ne _ _ (by have := hw1.nums; omega)]; exact hw1.2.2.2.2.2.2.1 r hr) (fun k hk => by
            by_cases e : k = g
            · subst e; rw [sv_eq]; omega
            · rw [sv_ne _ _ (by omega)]; exact (hw1.goer hk).2.2.2.2)
          refine x_aload_n dX8_breakAt_42 rfl ?_
          refine g_X8_30 dX8_breakAt_43 ?_
          refine x_iload_n dX8_breakAt_46 rfl ?_
          refine x_dup2 dX8_breakAt_47 rfl rfl ?_
          refine x_ial dX8_breakAt_48 (ArL (by assumption) (Or.inr ⟨by decide, by decide, rfl⟩)) (by omega) ?_
          rw [hR2.fell (by omega), sv_ne _ _ (by omega)]
          refine y_iconst (a := 1) dX8_breakAt_49 rfl ?_
          refine y_iadd dX8_breakAt_50 ?_
          refine x_ias dX8_breakAt_51 (ArL (by assumption) (Or.inr ⟨by decide, by decide, rfl⟩)) (by omega) ?_
          have hR3 := hR2.setFell (y := bkN v q g (39 + g) + 1) hw2b (g := g) (by omega)
          skip
          refine y_iinc dX8_breakAt_52 rfl ?_
          refine x_goto 11 dX8_breakAt_55 ?_
          first
            | (have hh := ih (g + 1) _ ⟨by omega, by simp only [bkN]; rw [if_pos h_26]; exact hR3, (hF1.up (by omega)).up (by omega), by rw [up1_ne _ _ _ (by omega), up1_ne _ _ _ (by omega)]; exact hl1⟩
               simp only [orN] at hh
               rw [if_pos (by omega)] at hh
               exact hh)
            | (have hh := ih (g + 1) _ ⟨by omega, by simp only [bkN]; rw [if_neg h_26]; exact hR1, hF1, hl1⟩
               simp only [orN] at hh
               rw [if_neg (by omega), Nat.or_zero] at hh
               exact hh)
  refine y_iconst (a := 0) dX8_breakAt_0 rfl ?_
  refine x_istore_n dX8_breakAt_1 ?_
  refine x_aload_n dX8_breakAt_2 rfl ?_
  refine g_X8_15 dX8_breakAt_3 ?_
  refine x_iload_n dX8_breakAt_6 rfl ?_
  refine y_iconst (a := 0) dX8_breakAt_7 rfl ?_
  refine x_ias dX8_breakAt_8 (ArL (by assumption) (Or.inl ⟨by decide, by decide, rfl⟩)) (by omega) ?_
  refine y_iconst (a := 0) dX8_breakAt_9 rfl ?_
  refine x_istore_n dX8_breakAt_10 ?_
  exact key _ 0 _ ⟨Nat.zero_add _, hR.setStrength hw hq, Fr.rf.up (by omega), up1_ne _ _ _ (by omega)⟩
