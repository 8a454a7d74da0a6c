/-! FORETOLD, fourth part: fewestHeld (laid by gen_fore4.py) -/
set_option maxRecDepth 100000 in
set_option maxHeartbeats 4000000 in
theorem c_fewestHeld {Ω : Om} {l : Launch} {M : Mem} {b : Nat} {v : Nat → Nat} (hb : Lk b) (hb5 : b ≠ 65) (hR : LkR M b v) (hI : Iv v) {g n : Nat} (hg : g < v 2) (hn60 : n ≤ 60) (hh : v 3 ≤ 4000) : Ct Ω l yX5_fewestHeld cX5_fewestHeld 7 7 (some .int) [.ref (Ω.2.2 14), .ref (Ω.2.2 b), .int (nI g), .int (nI n)] M (fun r M' => r = some (.int (nO (bst (hdF v g n) (2 ^ v 2)))) ∧ Fr 65 M M') := by
  have hw := hI.1
  have hn := hw.nums
  have hL65 : Lk 65 := Lk65
  have hL73 : Lk 73 := Lk73
  have hp2 := pow6 (n := v 2) (by omega)
  have hp0 := Nat.two_pow_pos (v 2)
  have hgb := bit_lt hg
  have hol := hdO_lt (v 2) (by omega) (v 4) (by omega) g hg
  refine ct_of (by decide) (Nat.le_of_ble_eq_true rfl) ?_
  intro p e R s m args below meth c
  have key : ∀ (k z : Nat) (M1 : Mem), z + k = v 2 ∧ Fr 65 M M1 ∧ (∀ y, y < 2 ^ v 2 → pop y < z → (hdF v g n) y = false) → X (mkG p l e R s m args below meth c Ω (fun r M' => r = some (.int (nO (bst (hdF v g n) (2 ^ v 2)))) ∧ Fr 65 M M')) Ω RX5 cX5_fewestHeld 7 7 (some .int) 26 [some (.ref (Ω.2.2 14)), some (.ref (Ω.2.2 b)), some (.int (nI g)), some (.int (nI n)), some (.int (nI (hdO (v 2) (v 4) g))), some (.int (nI z)), none] [] M1 := by
    intro k
    induction k with
    | zero =>
      intro z M1 hk
      obtain ⟨hk, hF1, hal⟩ := hk
      have hRb := hR.keep hF1 hb Lk65 hb5
      refine x_iload dX5_fewestHeld_26 rfl ?_
      refine x_aload_n dX5_fewestHeld_28 rfl ?_
      refine g_X5_83 dX5_fewestHeld_29 ?_
      rw [hRb.goers]
      refine y_icmp_ge 114 dX5_fewestHeld_32 (by omega) (by omega) (fun h_32 => ?_) (fun h_32 => ?_)
      · have hb0 : isBest (hdF v g n) (2 ^ v 2) none := Or.inl ⟨rfl, fun x hx => by
          rcases Nat.lt_or_ge (pop x) z with z1 | z1
          · exact hal x hx z1
          · have h9 := hd_le (v 2) (by omega) (v 4) (by omega) g hg x hx
            simp only [Bool.or_eq_true, Bool.not_eq_true', decide_eq_false_iff_not, Bool.and_eq_true, decide_eq_true_eq] at h9
            unfold hdF
            rcases h9 with h9 | h9
            · simp [h9]
            · omega⟩
        refine x_ldc dX5_fewestHeld_114 k_X5_55 ?_
        refine x_iret dX5_fewestHeld_116 ?_
        rw [isBest_eq (bst_best _ _) hb0]
        exact ⟨rfl, hF1⟩
      · exfalso; omega
    | succ k ih =>
      intro z M1 hk
      obtain ⟨hk, hF1, hal⟩ := hk
      have hRb := hR.keep hF1 hb Lk65 hb5
      refine x_iload dX5_fewestHeld_26 rfl ?_
      refine x_aload_n dX5_fewestHeld_28 rfl ?_
      refine g_X5_83 dX5_fewestHeld_29 ?_
      rw [hRb.goers]
      refine y_icmp_ge 114 dX5_fewestHeld_32 (by omega) (by omega) (fun h_32 => ?_) (fun h_32 => ?_)
      · have hb0 : isBest (hdF v g n) (2 ^ v 2) none := Or.inl ⟨rfl, fun x hx => by
          rcases Nat.lt_or_ge (pop x) z with z1 | z1
          · exact hal x hx z1
          · have h9 := hd_le (v 2) (by omega) (v 4) (by omega) g hg x hx
            simp only [Bool.or_eq_true, Bool.not_eq_true', decide_eq_false_iff_not, Bool.and_eq_true, decide_eq_true_eq] at h9
            unfold hdF
            rcases h9 with h9 | h9
            · simp [h9]
            · omega⟩
        refine x_ldc dX5_fewestHeld_114 k_X5_55 ?_
        refine x_iret dX5_fewestHeld_116 ?_
        rw [isBest_eq (bst_best _ _) hb0]
        exact ⟨rfl, hF1⟩
      · refine y_iconst (a := 0) dX5_fewestHeld_35 rfl ?_
        refine x_istore dX5_fewestHeld_36 ?_
        have keyB : ∀ (k2 y : Nat) (M2 : Mem), y + k2 = hdO (v 2) (v 4) g + 1 ∧ Fr 65 M M2 ∧ (∀ x, x < y → pop x = z → (hdF v g n) x = false) → X (mkG p l e R s m args below meth c Ω (fun r M' => r = some (.int (nO (bst (hdF v g n) (2 ^ v 2)))) ∧ Fr 65 M M')) Ω RX5 cX5_fewestHeld 7 7 (some .int) 38 [some (.ref (Ω.2.2 14)), some (.ref (Ω.2.2 b)), some (.int (nI g)), some (.int (nI n)), some (.int (nI (hdO (v 2) (v 4) g))), some (.int (nI z)), some (.int (nI y))] [] M2 := by
          intro k2
          induction k2 with
          | zero =>
            intro y M2 hk2
            obtain ⟨hk2, hF2, hal2⟩ := hk2
            refine x_iload dX5_fewestHeld_38 rfl ?_
            refine x_iload dX5_fewestHeld_40 rfl ?_
            refine y_icmp_gt 108 dX5_fewestHeld_42 (by omega) (by omega) (fun h_42 => ?_) (fun h_42 => ?_)
            · refine y_iinc dX5_fewestHeld_108 rfl ?_
              refine x_goto 26 dX5_fewestHeld_111 ?_
              refine x_weak (L' := [some (.ref (Ω.2.2 14)), some (.ref (Ω.2.2 b)), some (.int (nI g)), some (.int (nI n)), some (.int (nI (hdO (v 2) (v 4) g))), some (.int (nI (z + 1))), none]) ⟨Or.inr rfl, Or.inr rfl, Or.inr rfl, Or.inr rfl, Or.inr rfl, Or.inr rfl, Or.inl rfl, trivial⟩ ?_
              exact ih (z + 1) _ ⟨by omega, hF2, fun x hx hp => by
                rcases Nat.lt_or_ge (pop x) z with z1 | z1
                · exact hal x hx z1
                · rcases Nat.lt_or_ge x y with z2 | z2
                  · exact hal2 x z2 (by omega)
                  · have h9 := hd_le (v 2) (by omega) (v 4) (by omega) g hg x hx
                    simp only [Bool.or_eq_true, Bool.not_eq_true', decide_eq_false_iff_not, Bool.and_eq_true, decide_eq_true_eq] at h9
                    unfold hdF
                    rcases h9 with h9 | h9
                    · simp [h9]
                    · omega⟩
            · exfalso; omega
          | succ k2 ihB =>
            intro y M2 hk2
            obtain ⟨hk2, hF2, hal2⟩ := hk2
            refine x_iload dX5_fewestHeld_38 rfl ?_
            refine x_iload dX5_fewestHeld_40 rfl ?_
            refine y_icmp_gt 108 dX5_fewestHeld_42 (by omega) (by omega) (fun h_42 => ?_) (fun h_42 => ?_)
            · refine y_iinc dX5_fewestHeld_108 rfl ?_
              refine x_goto 26 dX5_fewestHeld_111 ?_
              refine x_weak (L' := [some (.ref (Ω.2.2 14)), some (.ref (Ω.2.2 b)), some (.int (nI g)), some (.int (nI n)), some (.int (nI (hdO (v 2) (v 4) g))), some (.int (nI (z + 1))), none]) ⟨Or.inr rfl, Or.inr rfl, Or.inr rfl, Or.inr rfl, Or.inr rfl, Or.inr rfl, Or.inl rfl, trivial⟩ ?_
              exact ih (z + 1) _ ⟨by omega, hF2, fun x hx hp => by
                rcases Nat.lt_or_ge (pop x) z with z1 | z1
                · exact hal x hx z1
                · rcases Nat.lt_or_ge x y with z2 | z2
                  · exact hal2 x z2 (by omega)
                  · have h9 := hd_le (v 2) (by omega) (v 4) (by omega) g hg x hx
                    simp only [Bool.or_eq_true, Bool.not_eq_true', decide_eq_false_iff_not, Bool.and_eq_true, decide_eq_true_eq] at h9
                    unfold hdF
                    rcases h9 with h9 | h9
                    · simp [h9]
                    · omega⟩
            · have hpy := pop_small y (by omega)
              have hdi := hd_iff (v 2) (by omega) (v 4) (by omega) g hg y (by omega)
              have h63 : y &&& (63 ^^^ hdO (v 2) (v 4) g) ≤ y := Nat.and_le_left
              refine x_iload dX5_fewestHeld_45 rfl ?_
              refine x_iload dX5_fewestHeld_47 rfl ?_
              refine x_iconst (v := -1) dX5_fewestHeld_49 rfl ?_
              refine x_ixor dX5_fewestHeld_50 ?_
              refine x_iand dX5_fewestHeld_51 ?_
              rw [dn_and _ (by omega) _ (by omega)]
              refine y_if_ne 102 dX5_fewestHeld_52 (by omega) (fun h_52 => ?_) (fun h_52 => ?_)
              · refine y_iinc dX5_fewestHeld_102 rfl ?_
                refine x_goto 38 dX5_fewestHeld_105 ?_
                first
                  | exact ihB (y + 1) _ ⟨by omega, (((hF2.tr hF0).up (by omega)).tr hF4), fun x hx hp => by rcases Nat.lt_or_ge x y with z1 | z1; exact hal2 x z1 hp; obtain rfl : x = y := (by omega); unfold hdF; rw [h_96, Bool.and_false]⟩
                  | exact ihB (y + 1) _ ⟨by omega, hF2, fun x hx hp => by rcases Nat.lt_or_ge x y with z1 | z1; exact hal2 x z1 hp; obtain rfl : x = y := (by omega); exact absurd hp h_62⟩
                  | exact ihB (y + 1) _ ⟨by omega, hF2, fun x hx hp => by rcases Nat.lt_or_ge x y with z1 | z1; exact hal2 x z1 hp; obtain rfl : x = y := (by omega); unfold hdF; rw [← hdi]; simp [h_52]⟩
              · refine x_iload dX5_fewestHeld_55 rfl ?_
                refine q_X5_66 (c_bitCount (by omega)) dX5_fewestHeld_57 rfl ?_
                rintro _ _ ⟨rfl, rfl⟩
                refine x_iload dX5_fewestHeld_60 rfl ?_
                refine y_icmp_eq 68 dX5_fewestHeld_62 (by omega) (by omega) (fun h_62 => ?_) (fun h_62 => ?_)
                · have hRc := hR.keep hF2 hb Lk65 hb5
                  refine x_aload_n dX5_fewestHeld_68 rfl ?_
                  refine g_X5_30 dX5_fewestHeld_69 ?_
                  refine x_aload_n dX5_fewestHeld_72 rfl ?_
                  refine q_X5_37 (c_become Lk65 hb hb5 hRc hw) dX5_fewestHeld_73 rfl ?_
                  rintro _ M0 ⟨rfl, hR0, hF0⟩
                  refine x_aload_n dX5_fewestHeld_76 rfl ?_
                  refine g_X5_30 dX5_fewestHeld_77 ?_
                  refine x_dup dX5_fewestHeld_80 rfl ?_
                  refine g_X5_86 dX5_fewestHeld_81 ?_
                  rw [hR0.held]
                  refine x_iload dX5_fewestHeld_84 rfl ?_
                  refine y_ior dX5_fewestHeld_86 ?_
                  refine p_X5_86 dX5_fewestHeld_87 ?_
                  have hR3 := hR0.setHeld (y := v 4 ||| y)
                  have hor : v 4 ||| y < 64 := Nat.or_lt_two_pow (n := 6) (by omega) (by omega)
                  refine x_aload_n dX5_fewestHeld_90 rfl ?_
                  refine x_iload_n dX5_fewestHeld_91 rfl ?_
                  refine x_iload_n dX5_fewestHeld_92 rfl ?_
                  refine q_X5_76 (c_comesAbove hR3 (hI.setHd hor) (by rw [sv_ne _ _ (by omega)]; exact hg) (by omega) (by rw [sv_ne _ _ (by omega)]; exact hh)) dX5_fewestHeld_93 rfl ?_
                  rintro _ M4 ⟨rfl, hF4⟩
                  refine z_if_eq 102 dX5_fewestHeld_96 (fun h_96 => ?_) (fun h_96 => ?_)
                  · refine y_iinc dX5_fewestHeld_102 rfl ?_
                    refine x_goto 38 dX5_fewestHeld_105 ?_
                    first
                      | exact ihB (y + 1) _ ⟨by omega, (((hF2.tr hF0).up (by omega)).tr hF4), fun x hx hp => by rcases Nat.lt_or_ge x y with z1 | z1; exact hal2 x z1 hp; obtain rfl : x = y := (by omega); unfold hdF; rw [h_96, Bool.and_false]⟩
                      | exact ihB (y + 1) _ ⟨by omega, hF2, fun x hx hp => by rcases Nat.lt_or_ge x y with z1 | z1; exact hal2 x z1 hp; obtain rfl : x = y := (by omega); exact absurd hp h_62⟩
                      | exact ihB (y + 1) _ ⟨by omega, hF2, fun x hx hp => by rcases Nat.lt_or_ge x y with z1 | z1; exact hal2 x z1 hp; obtain rfl : x = y := (by omega); unfold hdF; rw [← hdi]; simp [h_52]⟩
                  · refine x_iload dX5_fewestHeld_99 rfl ?_
                    refine x_iret dX5_fewestHeld_101 ?_
                    have hfy : (hdF v g n) y = true := by
                      unfold hdF
                      rw [h_96, Bool.and_true, ← hdi]; simp [h_52]
                    have hb0 : isBest (hdF v g n) (2 ^ v 2) (some y) := Or.inr ⟨y, by omega, rfl, hfy, fun x hx hf => by
                      rcases Nat.lt_or_ge (pop x) z with z1 | z1
                      · rw [hal x hx z1] at hf; cases hf
                      · rcases Nat.eq_or_lt_of_le z1 with z2 | z2
                        · rcases Nat.lt_or_ge x y with z3 | z3
                          · rw [hal2 x z3 z2.symm] at hf; cases hf
                          · exact Or.inr ⟨by omega, z3⟩
                        · exact Or.inl (by omega)⟩
                    rw [isBest_eq (bst_best _ _) hb0]
                    exact ⟨rfl, (((hF2.tr hF0).up (by omega)).tr hF4)⟩
                · refine x_goto 102 dX5_fewestHeld_65 ?_
                  refine y_iinc dX5_fewestHeld_102 rfl ?_
                  refine x_goto 38 dX5_fewestHeld_105 ?_
                  first
                    | exact ihB (y + 1) _ ⟨by omega, (((hF2.tr hF0).up (by omega)).tr hF4), fun x hx hp => by rcases Nat.lt_or_ge x y with z1 | z1; exact hal2 x z1 hp; obtain rfl : x = y := (by omega); unfold hdF; rw [h_96, Bool.and_false]⟩
                    | exact ihB (y + 1) _ ⟨by omega, hF2, fun x hx hp => by rcases Nat.lt_or_ge x y with z1 | z1; exact hal2 x z1 hp; obtain rfl : x = y := (by omega); exact absurd hp h_62⟩
                    | exact ihB (y + 1) _ ⟨by omega, hF2, fun x hx hp => by rcases Nat.lt_or_ge x y with z1 | z1; exact hal2 x z1 hp; obtain rfl : x = y := (by omega); unfold hdF; rw [← hdi]; simp [h_52]⟩
        exact keyB _ 0 _ ⟨Nat.zero_add _, hF1, fun x hx => by omega⟩
  refine y_iconst (a := 1) dX5_fewestHeld_0 rfl ?_
  refine x_aload_n dX5_fewestHeld_1 rfl ?_
  refine g_X5_83 dX5_fewestHeld_2 ?_
  rw [hR.goers]
  refine y_ishl dX5_fewestHeld_5 (by omega) ?_
  try rw [Nat.one_mul]
  refine y_iconst (a := 1) dX5_fewestHeld_6 rfl ?_
  refine y_isub dX5_fewestHeld_7 (by omega) ?_
  refine x_aload_n dX5_fewestHeld_8 rfl ?_
  refine g_X5_86 dX5_fewestHeld_9 ?_
  rw [hR.held]
  refine x_iconst (v := -1) dX5_fewestHeld_12 rfl ?_
  refine x_ixor dX5_fewestHeld_13 ?_
  refine x_iand dX5_fewestHeld_14 ?_
  rw [dn_and _ (by omega) _ (by omega)]
  refine y_iconst (a := 1) dX5_fewestHeld_15 rfl ?_
  refine x_iload_n dX5_fewestHeld_16 rfl ?_
  refine y_ishl dX5_fewestHeld_17 (by omega) ?_
  try rw [Nat.one_mul]
  refine x_iconst (v := -1) dX5_fewestHeld_18 rfl ?_
  refine x_ixor dX5_fewestHeld_19 ?_
  refine x_iand dX5_fewestHeld_20 ?_
  rw [dn_and _ (Nat.lt_of_le_of_lt Nat.and_le_left (by omega)) _ (by omega)]
  refine x_istore dX5_fewestHeld_21 ?_
  refine y_iconst (a := 0) dX5_fewestHeld_23 rfl ?_
  refine x_istore dX5_fewestHeld_24 ?_
  exact key (v 2) 0 _ ⟨Nat.zero_add _, Fr.rf, fun y hy hp => by omega⟩
