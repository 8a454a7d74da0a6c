/-! LAKE: an hour (laid by gen_lake6.py) -/
theorem wr1_ne {v : Nat → Nat} {p j : Nat} (hn : v 2 ≤ 6) (h5 : j ≠ 5) (hp : j ≠ 5 + p) (hj : j < 33) : wr1 v p j = v j := by
  have e2 : sv v (5 + p) 0 2 = 0 ∨ sv v (5 + p) 0 2 = v 2 := by
    by_cases e : 2 = 5 + p
    · omega
    · exact Or.inr (sv_ne _ _ e)
  unfold wr1
  repeat' split
  · exact bkV_ne hp h5 (Or.inl hj) hn
  · rfl
  · rw [bkV_ne hp h5 (Or.inl hj) (by omega), sv_ne _ _ hp]
  · exact sv_ne _ _ hp
theorem wr1_33 {v : Nat → Nat} {p g : Nat} (hn : v 2 ≤ 6) (hp : p ≤ 9) (hg : g < v 2) : wr1 v p (33 + g) = v (33 + g) ∨ (wr1 v p (33 + g) = 0 ∧ v (33 + g) = p) := by
  have e2 : sv v (5 + p) 0 2 = v 2 := sv_ne _ _ (by omega)
  have e33 : sv v (5 + p) 0 (33 + g) = v (33 + g) := sv_ne _ _ (by omega)
  unfold wr1
  repeat' split
  · rw [bkV_33 hp hn hg]; split
    · next h => exact Or.inr ⟨rfl, h⟩
    · exact Or.inl rfl
  · exact Or.inl rfl
  · rw [bkV_33 hp (by omega) (by omega), e33]; split
    · next h => exact Or.inr ⟨rfl, h⟩
    · exact Or.inl rfl
  · exact Or.inl (sv_ne _ _ (by omega))
theorem wrN_ne {v : Nat → Nat} (hn : v 2 ≤ 6) : ∀ (n : Nat) {j : Nat}, j ≠ 5 → (j < 6 ∨ 6 + n ≤ j) → j < 33 → n ≤ 9 → wrN v n j = v j
  | 0, _, _, _, _, _ => rfl
  | n + 1, j, h5, h, hj, hn9 => by
    have h2 : wrN v n 2 = v 2 := wrN_ne hn n (by omega) (by omega) (by omega) (by omega)
    show wr1 (wrN v n) (n + 1) j = v j
    rw [wr1_ne (by omega) h5 (by omega) hj]
    exact wrN_ne hn n h5 (by omega) hj (by omega)
theorem wrN_33 {v : Nat → Nat} (hn : v 2 ≤ 6) {g : Nat} (hg : g < v 2) : ∀ (n : Nat), n ≤ 9 → wrN v n (33 + g) = v (33 + g) ∨ (wrN v n (33 + g) = 0 ∧ 1 ≤ v (33 + g) ∧ v (33 + g) ≤ n)
  | 0, _ => Or.inl rfl
  | n + 1, h9 => by
    have h2 : wrN v n 2 = v 2 := wrN_ne hn n (by omega) (by omega) (by omega) (by omega)
    have ih := wrN_33 hn hg n (by omega)
    have h1 := wr1_33 (v := wrN v n) (p := n + 1) (g := g) (by omega) (by omega) (by omega)
    show wr1 (wrN v n) (n + 1) (33 + g) = _ ∨ _
    rcases h1 with z | ⟨z1, z2⟩
    · rcases ih with y | ⟨y1, y2, y3⟩
      · exact Or.inl (by rw [z, y])
      · exact Or.inr ⟨by show wr1 _ _ _ = 0; rw [z, y1], y2, by omega⟩
    · rcases ih with y | ⟨y1, y2, y3⟩
      · exact Or.inr ⟨z1, by omega, by omega⟩
      · omega
theorem Wv.wrs {v : Nat → Nat} (hw : Wv v) : ∀ (n : Nat), n ≤ v 0 → Wv (wrN v n)
  | 0, _ => hw
  | n + 1, h => by
    have hn := hw.nums
    have h0 : wrN v n 0 = v 0 := wrN_ne (by omega) n (by omega) (by omega) (by omega) (by omega)
    exact (Wv.wrs hw n (by omega)).wr (by omega) (by omega)
theorem loadA_wr {v : Nat → Nat} (hw : Wv v) {n q : Nat} (h : n < q) (hn9 : n ≤ v 0) : loadA (wrN v n) q = loadA v q := by
  have hn := hw.nums
  unfold loadA
  rw [wrN_ne (by omega) n (j := 2) (by omega) (by omega) (by omega) (by omega)]
  refine sumN_congr (fun g hg => ?_)
  have hl : lo (wrN v n) g = lo v g := by
    unfold lo
    rw [wrN_ne (by omega) n (j := 15 + g) (by omega) (by omega) (by omega) (by omega), wrN_ne (by omega) n (j := 21 + g) (by omega) (by omega) (by omega) (by omega)]
  rcases wrN_33 (by omega) hg n (by omega) with z | ⟨z1, z2, z3⟩
  · rw [z, hl]
  · rw [if_neg (by omega), if_neg (by omega)]
set_option maxRecDepth 100000 in
set_option maxHeartbeats 4000000 in
theorem c_wear {Ω : Om} {l : Launch} {M : Mem} {b : Nat} {v : Nat → Nat} (hb : Lk b) (hR : LkR M b v) (hw : Wv v)  : Ct Ω l yX8_wear cX8_wear 2 2 none [.ref (Ω.2.2 b)] M (fun r M' => r = none ∧ LkR M' b (wrN v (v 0)) ∧ Fr b M M') := by
  have hn := hw.nums
  refine ct_of (by decide) (Nat.le_of_ble_eq_true rfl) ?_
  intro p e R s m args below meth c
  have keyC : ∀ (k n : Nat) (M1 : Mem), n + k = v 0 ∧ LkR M1 b (wrN v n) ∧ Fr b M M1 ∧ (∀ q, 1 ≤ q → q ≤ v 0 → M1.1 (b + 1) q = nI (loadA v q)) → X (mkG p l e R s m args below meth c Ω (fun r M' => r = none ∧ LkR M' b (wrN v (v 0)) ∧ Fr b M M')) Ω RX8 cX8_wear 2 2 none 68 [some (.ref (Ω.2.2 b)), some (.int (nI (n + 1)))] [] M1 := by
    intro k
    induction k with
    | zero =>
      intro n M1 hk
      obtain ⟨hk, hR1, hF1, hl1⟩ := hk
      have e0 : wrN v n 0 = v 0 := wrN_ne (by omega) n (by omega) (by omega) (by omega) (by omega)
      refine x_iload_n dX8_wear_68 rfl ?_
      refine x_aload_n dX8_wear_69 rfl ?_
      refine g_X8_37 dX8_wear_70 ?_
      rw [hR1.rungs]
      rw [e0]
      refine y_icmp_gt 140 dX8_wear_73 (by omega) (by omega) (fun h_73 => ?_) (fun h_73 => ?_)
      · refine x_vret dX8_wear_140 ?_
        obtain rfl : n = v 0 := by omega
        exact ⟨rfl, hR1, hF1⟩
      · exfalso; omega
    | succ k ih =>
      intro n M1 hk
      obtain ⟨hk, hR1, hF1, hl1⟩ := hk
      have e0 : wrN v n 0 = v 0 := wrN_ne (by omega) n (by omega) (by omega) (by omega) (by omega)
      have hw1 := hw.wrs n (by omega)
      have hla := loadA_wr hw (n := n) (q := n + 1) (by omega) (by omega)
      have hle := loadA_le hw (n + 1)
      have hst := hw1.str (p := n + 1) (by omega)
      have hl := hl1 (n + 1) (by omega) (by omega)
      refine x_iload_n dX8_wear_68 rfl ?_
      refine x_aload_n dX8_wear_69 rfl ?_
      refine g_X8_37 dX8_wear_70 ?_
      rw [hR1.rungs]
      rw [e0]
      refine y_icmp_gt 140 dX8_wear_73 (by omega) (by omega) (fun h_73 => ?_) (fun h_73 => ?_)
      · exfalso; omega
      · refine x_aload_n dX8_wear_76 rfl ?_
        refine g_X8_9 dX8_wear_77 ?_
        refine x_iload_n dX8_wear_80 rfl ?_
        refine x_ial dX8_wear_81 (ArL (by assumption) (Or.inl ⟨by decide, by decide, rfl⟩)) (by omega) ?_
        rw [hl]
        refine x_aload_n dX8_wear_82 rfl ?_
        refine g_X8_15 dX8_wear_83 ?_
        refine x_iload_n dX8_wear_86 rfl ?_
        refine x_ial dX8_wear_87 (ArL (by assumption) (Or.inl ⟨by decide, by decide, rfl⟩)) (by omega) ?_
        rw [hR1.strength (by omega)]
        refine y_icmp_le 100 dX8_wear_88 (by omega) (by omega) (fun h_88 => ?_) (fun h_88 => ?_)
        · refine x_aload_n dX8_wear_100 rfl ?_
          refine g_X8_9 dX8_wear_101 ?_
          refine x_iload_n dX8_wear_104 rfl ?_
          refine x_ial dX8_wear_105 (ArL (by assumption) (Or.inl ⟨by decide, by decide, rfl⟩)) (by omega) ?_
          rw [hl]
          refine y_if_le 134 dX8_wear_106 (by omega) (fun h_106 => ?_) (fun h_106 => ?_)
          · refine y_iinc dX8_wear_134 rfl ?_
            refine x_goto 68 dX8_wear_137 ?_
            first
              | (exact ih (n + 1) _ ⟨by omega, by show LkR _ b (wr1 (wrN v n) (n + 1)); rw [show wr1 (wrN v n) (n + 1) = bkV (wrN v n) (n + 1) from by unfold wr1; rw [hla]; exact if_pos (by omega)]; exact hR2, hF1.tr hF2, by rw [hl2]; exact hl1⟩)
              | (exact ih (n + 1) _ ⟨by omega, by show LkR _ b (wr1 (wrN v n) (n + 1)); rw [show wr1 (wrN v n) (n + 1) = wrN v n from by unfold wr1; rw [hla, if_neg (by omega)]; exact if_pos (by omega)]; exact hR1, hF1, hl1⟩)
              | (exact ih (n + 1) _ ⟨by omega, by show LkR _ b (wr1 (wrN v n) (n + 1)); rw [show wr1 (wrN v n) (n + 1) = sv (wrN v n) (5 + (n + 1)) (wrN v n (5 + (n + 1)) - 1) from by unfold wr1; rw [hla, if_neg (by omega), if_neg (by omega)]; exact if_neg (by omega)]; exact hR2, hF1.up (by omega), by rw [up1_ne _ _ _ (by omega)]; exact hl1⟩)
              | (exact ih (n + 1) _ ⟨by omega, by show LkR _ b (wr1 (wrN v n) (n + 1)); rw [show wr1 (wrN v n) (n + 1) = bkV (sv (wrN v n) (5 + (n + 1)) 0) (n + 1) from by unfold wr1; rw [hla, if_neg (by omega), if_neg (by omega)]; exact if_pos (by omega)]; exact hR3, (hF1.up (by omega)).tr hF3, by rw [hl3, up1_ne _ _ _ (by omega)]; exact hl1⟩)
          · refine x_aload_n dX8_wear_109 rfl ?_
            refine g_X8_15 dX8_wear_110 ?_
            refine x_iload_n dX8_wear_113 rfl ?_
            refine x_dup2 dX8_wear_114 rfl rfl ?_
            refine x_ial dX8_wear_115 (ArL (by assumption) (Or.inl ⟨by decide, by decide, rfl⟩)) (by omega) ?_
            rw [hR1.strength (by omega)]
            refine y_iconst (a := 1) dX8_wear_116 rfl ?_
            refine y_isub dX8_wear_117 (by omega) ?_
            refine x_ias dX8_wear_118 (ArL (by assumption) (Or.inl ⟨by decide, by decide, rfl⟩)) (by omega) ?_
            have hR2 := hR1.setStrength (p := n + 1) (y := wrN v n (5 + (n + 1)) - 1) hw1 (by omega)
            refine x_aload_n dX8_wear_119 rfl ?_
            refine g_X8_15 dX8_wear_120 ?_
            refine x_iload_n dX8_wear_123 rfl ?_
            refine x_ial dX8_wear_124 (ArL (by assumption) (Or.inl ⟨by decide, by decide, rfl⟩)) (by omega) ?_
            rw [hR2.strength (by rw [sv_ne _ _ (by omega)]; omega), sv_eq]
            refine y_if_ne 134 dX8_wear_125 (by omega) (fun h_125 => ?_) (fun h_125 => ?_)
            · refine y_iinc dX8_wear_134 rfl ?_
              refine x_goto 68 dX8_wear_137 ?_
              first
                | (exact ih (n + 1) _ ⟨by omega, by show LkR _ b (wr1 (wrN v n) (n + 1)); rw [show wr1 (wrN v n) (n + 1) = bkV (wrN v n) (n + 1) from by unfold wr1; rw [hla]; exact if_pos (by omega)]; exact hR2, hF1.tr hF2, by rw [hl2]; exact hl1⟩)
                | (exact ih (n + 1) _ ⟨by omega, by show LkR _ b (wr1 (wrN v n) (n + 1)); rw [show wr1 (wrN v n) (n + 1) = wrN v n from by unfold wr1; rw [hla, if_neg (by omega)]; exact if_pos (by omega)]; exact hR1, hF1, hl1⟩)
                | (exact ih (n + 1) _ ⟨by omega, by show LkR _ b (wr1 (wrN v n) (n + 1)); rw [show wr1 (wrN v n) (n + 1) = sv (wrN v n) (5 + (n + 1)) (wrN v n (5 + (n + 1)) - 1) from by unfold wr1; rw [hla, if_neg (by omega), if_neg (by omega)]; exact if_neg (by omega)]; exact hR2, hF1.up (by omega), by rw [up1_ne _ _ _ (by omega)]; exact hl1⟩)
                | (exact ih (n + 1) _ ⟨by omega, by show LkR _ b (wr1 (wrN v n) (n + 1)); rw [show wr1 (wrN v n) (n + 1) = bkV (sv (wrN v n) (5 + (n + 1)) 0) (n + 1) from by unfold wr1; rw [hla, if_neg (by omega), if_neg (by omega)]; exact if_pos (by omega)]; exact hR3, (hF1.up (by omega)).tr hF3, by rw [hl3, up1_ne _ _ _ (by omega)]; exact hl1⟩)
            · rw [h_125] at hR2 ⊢
              have hw3 : Wv (sv (wrN v n) (5 + (n + 1)) 0) := hw1.setS (by omega) (by omega) (by omega)
              refine x_aload_n dX8_wear_128 rfl ?_
              refine x_iload_n dX8_wear_129 rfl ?_
              refine q_X8_116 (c_breakAt hb hR2 hw3 (by rw [show sv (wrN v n) (5 + (n + 1)) 0 0 = v 0 from (sv_ne _ _ (by omega)).trans e0]; omega)) dX8_wear_130 rfl ?_
              rintro _ M3 ⟨rfl, hR3, hF3, hl3⟩
              refine x_pop dX8_wear_133 rfl ?_
              refine y_iinc dX8_wear_134 rfl ?_
              refine x_goto 68 dX8_wear_137 ?_
              first
                | (exact ih (n + 1) _ ⟨by omega, by show LkR _ b (wr1 (wrN v n) (n + 1)); rw [show wr1 (wrN v n) (n + 1) = bkV (wrN v n) (n + 1) from by unfold wr1; rw [hla]; exact if_pos (by omega)]; exact hR2, hF1.tr hF2, by rw [hl2]; exact hl1⟩)
                | (exact ih (n + 1) _ ⟨by omega, by show LkR _ b (wr1 (wrN v n) (n + 1)); rw [show wr1 (wrN v n) (n + 1) = wrN v n from by unfold wr1; rw [hla, if_neg (by omega)]; exact if_pos (by omega)]; exact hR1, hF1, hl1⟩)
                | (exact ih (n + 1) _ ⟨by omega, by show LkR _ b (wr1 (wrN v n) (n + 1)); rw [show wr1 (wrN v n) (n + 1) = sv (wrN v n) (5 + (n + 1)) (wrN v n (5 + (n + 1)) - 1) from by unfold wr1; rw [hla, if_neg (by omega), if_neg (by omega)]; exact if_neg (by omega)]; exact hR2, hF1.up (by omega), by rw [up1_ne _ _ _ (by omega)]; exact hl1⟩)
                | (exact ih (n + 1) _ ⟨by omega, by show LkR _ b (wr1 (wrN v n) (n + 1)); rw [show wr1 (wrN v n) (n + 1) = bkV (sv (wrN v n) (5 + (n + 1)) 0) (n + 1) from by unfold wr1; rw [hla, if_neg (by omega), if_neg (by omega)]; exact if_pos (by omega)]; exact hR3, (hF1.up (by omega)).tr hF3, by rw [hl3, up1_ne _ _ _ (by omega)]; exact hl1⟩)
        · refine x_aload_n dX8_wear_91 rfl ?_
          refine x_iload_n dX8_wear_92 rfl ?_
          refine q_X8_116 (c_breakAt hb hR1 hw1 (by rw [e0]; omega)) dX8_wear_93 rfl ?_
          rintro _ M2 ⟨rfl, hR2, hF2, hl2⟩
          refine x_pop dX8_wear_96 rfl ?_
          refine x_goto 134 dX8_wear_97 ?_
          refine y_iinc dX8_wear_134 rfl ?_
          refine x_goto 68 dX8_wear_137 ?_
          first
            | (exact ih (n + 1) _ ⟨by omega, by show LkR _ b (wr1 (wrN v n) (n + 1)); rw [show wr1 (wrN v n) (n + 1) = bkV (wrN v n) (n + 1) from by unfold wr1; rw [hla]; exact if_pos (by omega)]; exact hR2, hF1.tr hF2, by rw [hl2]; exact hl1⟩)
            | (exact ih (n + 1) _ ⟨by omega, by show LkR _ b (wr1 (wrN v n) (n + 1)); rw [show wr1 (wrN v n) (n + 1) = wrN v n from by unfold wr1; rw [hla, if_neg (by omega)]; exact if_pos (by omega)]; exact hR1, hF1, hl1⟩)
            | (exact ih (n + 1) _ ⟨by omega, by show LkR _ b (wr1 (wrN v n) (n + 1)); rw [show wr1 (wrN v n) (n + 1) = sv (wrN v n) (5 + (n + 1)) (wrN v n (5 + (n + 1)) - 1) from by unfold wr1; rw [hla, if_neg (by omega), if_neg (by omega)]; exact if_neg (by omega)]; exact hR2, hF1.up (by omega), by rw [up1_ne _ _ _ (by omega)]; exact hl1⟩)
            | (exact ih (n + 1) _ ⟨by omega, by show LkR _ b (wr1 (wrN v n) (n + 1)); rw [show wr1 (wrN v n) (n + 1) = bkV (sv (wrN v n) (5 + (n + 1)) 0) (n + 1) from by unfold wr1; rw [hla, if_neg (by omega), if_neg (by omega)]; exact if_pos (by omega)]; exact hR3, (hF1.up (by omega)).tr hF3, by rw [hl3, up1_ne _ _ _ (by omega)]; exact hl1⟩)
  have keyB : ∀ (k g : Nat) (M1 : Mem), g + k = v 2 ∧ LkR M1 b v ∧ Fr b M M1 ∧ (∀ q, 1 ≤ q → q ≤ v 0 → M1.1 (b + 1) q = nI (sumN (fun h => if v (33 + h) = q then lo v h else 0) g)) → X (mkG p l e R s m args below meth c Ω (fun r M' => r = none ∧ LkR M' b (wrN v (v 0)) ∧ Fr b M M')) Ω RX8 cX8_wear 2 2 none 25 [some (.ref (Ω.2.2 b)), some (.int (nI g))] [] M1 := by
    intro k
    induction k with
    | zero =>
      intro g M1 hk
      obtain ⟨hk, hR1, hF1, hl1⟩ := hk
      refine x_iload_n dX8_wear_25 rfl ?_
      refine x_aload_n dX8_wear_26 rfl ?_
      refine g_X8_44 dX8_wear_27 ?_
      rw [hR1.goers]
      refine y_icmp_ge 66 dX8_wear_30 (by omega) (by omega) (fun h_30 => ?_) (fun h_30 => ?_)
      · obtain rfl : g = v 2 := by omega
        refine y_iconst (a := 1) dX8_wear_66 rfl ?_
        refine x_istore_n dX8_wear_67 ?_
        exact keyC _ 0 _ ⟨Nat.zero_add _, hR1, hF1, hl1⟩
      · exfalso; omega
    | succ k ih =>
      intro g M1 hk
      obtain ⟨hk, hR1, hF1, hl1⟩ := hk
      have hgo := hw.goer (g := g) (by omega)
      refine x_iload_n dX8_wear_25 rfl ?_
      refine x_aload_n dX8_wear_26 rfl ?_
      refine g_X8_44 dX8_wear_27 ?_
      rw [hR1.goers]
      refine y_icmp_ge 66 dX8_wear_30 (by omega) (by omega) (fun h_30 => ?_) (fun h_30 => ?_)
      · obtain rfl : g = v 2 := by omega
        refine y_iconst (a := 1) dX8_wear_66 rfl ?_
        refine x_istore_n dX8_wear_67 ?_
        exact keyC _ 0 _ ⟨Nat.zero_add _, hR1, hF1, hl1⟩
      · refine x_aload_n dX8_wear_33 rfl ?_
        refine x_iload_n dX8_wear_34 rfl ?_
        refine q_X8_78 (c_isOnRung hb hR1 hw (by omega)) dX8_wear_35 rfl ?_
        rintro _ _ ⟨rfl, rfl⟩
        refine z_if_eq 60 dX8_wear_38 (fun h_38 => ?_) (fun h_38 => ?_)
        · refine y_iinc dX8_wear_60 rfl ?_
          refine x_goto 25 dX8_wear_63 ?_
          first
            | (refine ih (g + 1) _ ⟨by omega, hR1.setLoads _ _, hF1.up (by omega), fun q h1 h2 => ?_⟩
               by_cases e : q = v (33 + g)
               · subst e
                 rw [up1_at, if_pos ⟨rfl, rfl⟩]
                 simp [sumN]
               · rw [up1_at, if_neg (by omega)]
                 simp only [sumN]
                 rw [if_neg (by omega), Nat.add_zero]
                 exact hl1 q h1 h2)
            | (refine ih (g + 1) _ ⟨by omega, hR1, hF1, fun q h1 h2 => ?_⟩
               have hne : ¬ v (33 + g) = q := by
                 intro z
                 simp [onr] at h_38
                 omega
               simp only [sumN]
               rw [if_neg hne, Nat.add_zero]
               exact hl1 q h1 h2)
        · have hon := h_38
          simp only [onr, Bool.and_eq_true, Bool.not_eq_true', decide_eq_false_iff_not, decide_eq_true_eq] at hon
          refine x_aload_n dX8_wear_41 rfl ?_
          refine g_X8_9 dX8_wear_42 ?_
          refine x_aload_n dX8_wear_45 rfl ?_
          refine g_X8_27 dX8_wear_46 ?_
          refine x_iload_n dX8_wear_49 rfl ?_
          refine x_ial dX8_wear_50 (ArL (by assumption) (Or.inr ⟨by decide, by decide, rfl⟩)) (by omega) ?_
          rw [hR1.place (by omega)]
          refine x_dup2 dX8_wear_51 rfl rfl ?_
          refine x_ial dX8_wear_52 (ArL (by assumption) (Or.inl ⟨by decide, by decide, rfl⟩)) (by omega) ?_
          rw [hl1 _ (by omega) hon.2]
          refine x_aload_n dX8_wear_53 rfl ?_
          refine x_iload_n dX8_wear_54 rfl ?_
          refine q_X8_75 (c_loadOf hb hR1 hw (by omega)) dX8_wear_55 rfl ?_
          rintro _ _ ⟨rfl, rfl⟩
          refine y_iadd dX8_wear_58 ?_
          refine x_ias dX8_wear_59 (ArL (by assumption) (Or.inl ⟨by decide, by decide, rfl⟩)) (by omega) ?_
          refine y_iinc dX8_wear_60 rfl ?_
          refine x_goto 25 dX8_wear_63 ?_
          first
            | (refine ih (g + 1) _ ⟨by omega, hR1.setLoads _ _, hF1.up (by omega), fun q h1 h2 => ?_⟩
               by_cases e : q = v (33 + g)
               · subst e
                 rw [up1_at, if_pos ⟨rfl, rfl⟩]
                 simp [sumN]
               · rw [up1_at, if_neg (by omega)]
                 simp only [sumN]
                 rw [if_neg (by omega), Nat.add_zero]
                 exact hl1 q h1 h2)
            | (refine ih (g + 1) _ ⟨by omega, hR1, hF1, fun q h1 h2 => ?_⟩
               have hne : ¬ v (33 + g) = q := by
                 intro z
                 simp [onr] at h_38
                 omega
               simp only [sumN]
               rw [if_neg hne, Nat.add_zero]
               exact hl1 q h1 h2)
  have keyA : ∀ (k n : Nat) (M1 : Mem), n + k = v 0 ∧ LkR M1 b v ∧ Fr b M M1 ∧ (∀ q, 1 ≤ q → q ≤ n → M1.1 (b + 1) q = nI 0) → X (mkG p l e R s m args below meth c Ω (fun r M' => r = none ∧ LkR M' b (wrN v (v 0)) ∧ Fr b M M')) Ω RX8 cX8_wear 2 2 none 2 [some (.ref (Ω.2.2 b)), some (.int (nI (n + 1)))] [] M1 := by
    intro k
    induction k with
    | zero =>
      intro n M1 hk
      obtain ⟨hk, hR1, hF1, hl1⟩ := hk
      refine x_iload_n dX8_wear_2 rfl ?_
      refine x_aload_n dX8_wear_3 rfl ?_
      refine g_X8_37 dX8_wear_4 ?_
      rw [hR1.rungs]
      refine y_icmp_gt 23 dX8_wear_7 (by omega) (by omega) (fun h_7 => ?_) (fun h_7 => ?_)
      · obtain rfl : n = v 0 := by omega
        refine y_iconst (a := 0) dX8_wear_23 rfl ?_
        refine x_istore_n dX8_wear_24 ?_
        exact keyB _ 0 _ ⟨Nat.zero_add _, hR1, hF1, hl1⟩
      · exfalso; omega
    | succ k ih =>
      intro n M1 hk
      obtain ⟨hk, hR1, hF1, hl1⟩ := hk
      refine x_iload_n dX8_wear_2 rfl ?_
      refine x_aload_n dX8_wear_3 rfl ?_
      refine g_X8_37 dX8_wear_4 ?_
      rw [hR1.rungs]
      refine y_icmp_gt 23 dX8_wear_7 (by omega) (by omega) (fun h_7 => ?_) (fun h_7 => ?_)
      · obtain rfl : n = v 0 := by omega
        refine y_iconst (a := 0) dX8_wear_23 rfl ?_
        refine x_istore_n dX8_wear_24 ?_
        exact keyB _ 0 _ ⟨Nat.zero_add _, hR1, hF1, hl1⟩
      · refine x_aload_n dX8_wear_10 rfl ?_
        refine g_X8_9 dX8_wear_11 ?_
        refine x_iload_n dX8_wear_14 rfl ?_
        refine y_iconst (a := 0) dX8_wear_15 rfl ?_
        refine x_ias dX8_wear_16 (ArL (by assumption) (Or.inl ⟨by decide, by decide, rfl⟩)) (by omega) ?_
        refine y_iinc dX8_wear_17 rfl ?_
        refine x_goto 2 dX8_wear_20 ?_
        refine ih (n + 1) _ ⟨by omega, hR1.setLoads _ _, hF1.up (by omega), fun q h1 h2 => ?_⟩
        rw [up1_at]
        by_cases e : q = n + 1
        · rw [if_pos ⟨rfl, e⟩]
        · rw [if_neg (by omega)]; exact hl1 q h1 (by omega)
  refine y_iconst (a := 1) dX8_wear_0 rfl ?_
  refine x_istore_n dX8_wear_1 ?_
  exact keyA _ 0 M ⟨Nat.zero_add _, hR, Fr.rf, fun q h1 h2 => by omega⟩
set_option maxRecDepth 100000 in
set_option maxHeartbeats 4000000 in
theorem c_runHour {Ω : Om} {l : Launch} {M : Mem} {b : Nat} {v : Nat → Nat} (hb : Lk b) (hR : LkR M b v) (hw : Wv v)  : Ct Ω l yX8_runHour cX8_runHour 3 5 none [.ref (Ω.2.2 b)] M (fun r M' => r = none ∧ LkR M' b (hrV v) ∧ Fr b M M') := by
  have hn := hw.nums
  refine ct_of (by decide) (Nat.le_of_ble_eq_true rfl) ?_
  intro p e R s m args below meth c
  have key : ∀ (k g : Nat) (M1 : Mem), g + k = v 2 ∧ LkR M1 b (mvN v g) ∧ Fr b M M1 → X (mkG p l e R s m args below meth c Ω (fun r M' => r = none ∧ LkR M' b (hrV v) ∧ Fr b M M')) Ω RX8 cX8_runHour 3 5 none 2 [some (.ref (Ω.2.2 b)), some (.int (nI g)), none] [] M1 := by
    intro k
    induction k with
    | zero =>
      intro g M1 hk
      obtain ⟨hk, hR1, hF1⟩ := hk
      have hw1 := hw.mvN g (by omega)
      have hn1 := hw1.nums
      have e2 : mvN v g 2 = v 2 := mvN_2 g
      have e0 : mvN v g 0 = v 0 := mvN_ne g (by omega) (by omega)
      have e3 : mvN v g 3 = v 3 := mvN_ne g (by omega) (by omega)
      refine x_iload_n dX8_runHour_2 rfl ?_
      refine x_aload_n dX8_runHour_3 rfl ?_
      refine g_X8_44 dX8_runHour_4 ?_
      rw [hR1.goers]
      rw [e2]
      refine y_icmp_ge 61 dX8_runHour_7 (by omega) (by omega) (fun h_7 => ?_) (fun h_7 => ?_)
      · obtain rfl : g = v 2 := by omega
        refine x_aload_n dX8_runHour_61 rfl ?_
        refine q_X8_113 (c_wear hb hR1 hw1) dX8_runHour_62 rfl ?_
        rintro _ M2 ⟨rfl, hR2, hF2⟩
        refine x_aload_n dX8_runHour_65 rfl ?_
        have hw2 := hw1.wrs (v 0) (by omega)
        refine x_dup dX8_runHour_66 rfl ?_
        refine g_X8_47 dX8_runHour_67 ?_
        rw [hR2.hour, wrN_ne (by omega) _ (by omega) (by omega) (by omega) (by omega), e3]
        refine y_iconst (a := 1) dX8_runHour_70 rfl ?_
        refine y_iadd dX8_runHour_71 ?_
        refine p_X8_47 dX8_runHour_72 ?_
        refine x_vret dX8_runHour_75 ?_
        refine ⟨rfl, ?_, (hF1.tr hF2).up (by omega)⟩
        have hR3 := hR2.setHour (y := v 3 + 1)
        rw [e0] at hR3
        exact hR3
      · exfalso; omega
    | succ k ih =>
      intro g M1 hk
      obtain ⟨hk, hR1, hF1⟩ := hk
      have hw1 := hw.mvN g (by omega)
      have hn1 := hw1.nums
      have e2 : mvN v g 2 = v 2 := mvN_2 g
      have e0 : mvN v g 0 = v 0 := mvN_ne g (by omega) (by omega)
      have e3 : mvN v g 3 = v 3 := mvN_ne g (by omega) (by omega)
      have hg1 : g < mvN v g 2 := by omega
      have hgo := hw1.goer hg1
      refine x_iload_n dX8_runHour_2 rfl ?_
      refine x_aload_n dX8_runHour_3 rfl ?_
      refine g_X8_44 dX8_runHour_4 ?_
      rw [hR1.goers]
      rw [e2]
      refine y_icmp_ge 61 dX8_runHour_7 (by omega) (by omega) (fun h_7 => ?_) (fun h_7 => ?_)
      · exfalso; omega
      · refine x_aload_n dX8_runHour_10 rfl ?_
        refine x_iload_n dX8_runHour_11 rfl ?_
        refine q_X8_97 (c_isAbove hb hR1 hw1 hg1) dX8_runHour_12 rfl ?_
        rintro _ _ ⟨rfl, rfl⟩
        refine z_if_ne 55 dX8_runHour_15 (fun h_15 => ?_) (fun h_15 => ?_)
        · refine y_iinc dX8_runHour_55 rfl ?_
          refine x_goto 2 dX8_runHour_58 ?_
          refine x_weak (L' := [some (.ref (Ω.2.2 b)), some (.int (nI (g + 1))), none]) ⟨Or.inr rfl, Or.inr rfl, Or.inl rfl, trivial⟩ ?_
          refine ih (g + 1) _ ⟨by omega, ?_, hF1⟩
          show LkR _ b (if _ then _ else _)
          rw [if_pos (by first | exact Or.inl h_15 | exact Or.inr (Or.inl h_23) | exact Or.inr (Or.inr (by omega)))]
          exact hR1
        · refine x_aload_n dX8_runHour_18 rfl ?_
          refine x_iload_n dX8_runHour_19 rfl ?_
          refine q_X8_100 (c_isHeld hb hR1 hw1 hg1) dX8_runHour_20 rfl ?_
          rintro _ _ ⟨rfl, rfl⟩
          refine z_if_ne 55 dX8_runHour_23 (fun h_23 => ?_) (fun h_23 => ?_)
          · refine y_iinc dX8_runHour_55 rfl ?_
            refine x_goto 2 dX8_runHour_58 ?_
            refine x_weak (L' := [some (.ref (Ω.2.2 b)), some (.int (nI (g + 1))), none]) ⟨Or.inr rfl, Or.inr rfl, Or.inl rfl, trivial⟩ ?_
            refine ih (g + 1) _ ⟨by omega, ?_, hF1⟩
            show LkR _ b (if _ then _ else _)
            rw [if_pos (by first | exact Or.inl h_15 | exact Or.inr (Or.inl h_23) | exact Or.inr (Or.inr (by omega)))]
            exact hR1
          · refine x_aload_n dX8_runHour_26 rfl ?_
            refine g_X8_24 dX8_runHour_27 ?_
            refine x_iload_n dX8_runHour_30 rfl ?_
            refine x_ial dX8_runHour_31 (ArL (by assumption) (Or.inr ⟨by decide, by decide, rfl⟩)) (by omega) ?_
            rw [hR1.start (by omega)]
            refine x_aload_n dX8_runHour_32 rfl ?_
            refine g_X8_47 dX8_runHour_33 ?_
            rw [hR1.hour]
            refine y_icmp_gt 55 dX8_runHour_36 (by omega) (by omega) (fun h_36 => ?_) (fun h_36 => ?_)
            · refine y_iinc dX8_runHour_55 rfl ?_
              refine x_goto 2 dX8_runHour_58 ?_
              refine x_weak (L' := [some (.ref (Ω.2.2 b)), some (.int (nI (g + 1))), none]) ⟨Or.inr rfl, Or.inr rfl, Or.inl rfl, trivial⟩ ?_
              refine ih (g + 1) _ ⟨by omega, ?_, hF1⟩
              show LkR _ b (if _ then _ else _)
              rw [if_pos (by first | exact Or.inl h_15 | exact Or.inr (Or.inl h_23) | exact Or.inr (Or.inr (by omega)))]
              exact hR1
            · refine x_aload_n dX8_runHour_39 rfl ?_
              refine x_iload_n dX8_runHour_40 rfl ?_
              refine q_X8_103 (c_sortOf hb hR1 hw1 hg1) dX8_runHour_41 rfl ?_
              rintro _ _ ⟨rfl, rfl⟩
              rcases kind_all ⟨hgo.1, hgo.2.1⟩ with hk1 | hk1 | hk1 | hk1 | hk1
              · rw [hk1]
                refine x_astore_n dX8_runHour_44 ?_
                refine x_aload_n dX8_runHour_45 rfl ?_
                refine x_ifnull dX8_runHour_46 ?_
                refine x_aload_n dX8_runHour_49 rfl ?_
                refine x_aload_n dX8_runHour_50 rfl ?_
                refine x_iload_n dX8_runHour_51 rfl ?_
                refine q_X8_107_X1 (c_climb1 (q := 9) hb hR1 hw1 hg1) dX8_runHour_52 rfl (by decide) rfl ?_
                rintro _ M2 ⟨rfl, hR2, hF2⟩
                refine y_iinc dX8_runHour_55 rfl ?_
                refine x_goto 2 dX8_runHour_58 ?_
                refine x_weak (L' := [some (.ref (Ω.2.2 b)), some (.int (nI (g + 1))), none]) ⟨Or.inr rfl, Or.inr rfl, Or.inl rfl, trivial⟩ ?_
                refine ih (g + 1) _ ⟨by omega, ?_, hF1.tr hF2⟩
                show LkR _ b (if _ then _ else _)
                rw [if_neg (by rintro (z | z | z); rw [h_15] at z; cases z; rw [h_23] at z; cases z; omega)]
                simp only [mvV]; rw [if_pos hk1]; exact hR2
              · rw [hk1]
                refine x_astore_n dX8_runHour_44 ?_
                refine x_aload_n dX8_runHour_45 rfl ?_
                refine x_ifnull dX8_runHour_46 ?_
                refine x_aload_n dX8_runHour_49 rfl ?_
                refine x_aload_n dX8_runHour_50 rfl ?_
                refine x_iload_n dX8_runHour_51 rfl ?_
                refine q_X8_107_X3 (c_climb2 (q := 10) hb hR1 hw1 hg1) dX8_runHour_52 rfl (by decide) rfl ?_
                rintro _ M2 ⟨rfl, hR2, hF2⟩
                refine y_iinc dX8_runHour_55 rfl ?_
                refine x_goto 2 dX8_runHour_58 ?_
                refine x_weak (L' := [some (.ref (Ω.2.2 b)), some (.int (nI (g + 1))), none]) ⟨Or.inr rfl, Or.inr rfl, Or.inl rfl, trivial⟩ ?_
                refine ih (g + 1) _ ⟨by omega, ?_, hF1.tr hF2⟩
                show LkR _ b (if _ then _ else _)
                rw [if_neg (by rintro (z | z | z); rw [h_15] at z; cases z; rw [h_23] at z; cases z; omega)]
                simp only [mvV]; rw [if_neg (by omega), if_pos hk1]; exact hR2
              · rw [hk1]
                refine x_astore_n dX8_runHour_44 ?_
                refine x_aload_n dX8_runHour_45 rfl ?_
                refine x_ifnull dX8_runHour_46 ?_
                refine x_aload_n dX8_runHour_49 rfl ?_
                refine x_aload_n dX8_runHour_50 rfl ?_
                refine x_iload_n dX8_runHour_51 rfl ?_
                refine q_X8_107_X2 (c_climb3 (q := 11) hb hR1 hw1 hg1) dX8_runHour_52 rfl (by decide) rfl ?_
                rintro _ M2 ⟨rfl, hR2, hF2⟩
                refine y_iinc dX8_runHour_55 rfl ?_
                refine x_goto 2 dX8_runHour_58 ?_
                refine x_weak (L' := [some (.ref (Ω.2.2 b)), some (.int (nI (g + 1))), none]) ⟨Or.inr rfl, Or.inr rfl, Or.inl rfl, trivial⟩ ?_
                refine ih (g + 1) _ ⟨by omega, ?_, hF1.tr hF2⟩
                show LkR _ b (if _ then _ else _)
                rw [if_neg (by rintro (z | z | z); rw [h_15] at z; cases z; rw [h_23] at z; cases z; omega)]
                simp only [mvV]; rw [if_neg (by omega), if_neg (by omega), if_pos hk1]; exact hR2
              · rw [hk1]
                refine x_astore_n dX8_runHour_44 ?_
                refine x_aload_n dX8_runHour_45 rfl ?_
                refine x_ifnull dX8_runHour_46 ?_
                refine x_aload_n dX8_runHour_49 rfl ?_
                refine x_aload_n dX8_runHour_50 rfl ?_
                refine x_iload_n dX8_runHour_51 rfl ?_
                refine q_X8_107_X4 (c_climb4 (q := 12) hb hR1 hw1 hg1) dX8_runHour_52 rfl (by decide) rfl ?_
                rintro _ M2 ⟨rfl, hR2, hF2⟩
                refine y_iinc dX8_runHour_55 rfl ?_
                refine x_goto 2 dX8_runHour_58 ?_
                refine x_weak (L' := [some (.ref (Ω.2.2 b)), some (.int (nI (g + 1))), none]) ⟨Or.inr rfl, Or.inr rfl, Or.inl rfl, trivial⟩ ?_
                refine ih (g + 1) _ ⟨by omega, ?_, hF1.tr hF2⟩
                show LkR _ b (if _ then _ else _)
                rw [if_neg (by rintro (z | z | z); rw [h_15] at z; cases z; rw [h_23] at z; cases z; omega)]
                simp only [mvV]; rw [if_neg (by omega), if_neg (by omega), if_neg (by omega)]; exact hR2
              · rw [hk1]
                refine x_astore_n dX8_runHour_44 ?_
                refine x_aload_n dX8_runHour_45 rfl ?_
                refine x_ifnull dX8_runHour_46 ?_
                refine x_aload_n dX8_runHour_49 rfl ?_
                refine x_aload_n dX8_runHour_50 rfl ?_
                refine x_iload_n dX8_runHour_51 rfl ?_
                refine q_X8_107_X6 (c_climb4 (q := 13) hb hR1 hw1 hg1) dX8_runHour_52 rfl (by decide) rfl ?_
                rintro _ M2 ⟨rfl, hR2, hF2⟩
                refine y_iinc dX8_runHour_55 rfl ?_
                refine x_goto 2 dX8_runHour_58 ?_
                refine x_weak (L' := [some (.ref (Ω.2.2 b)), some (.int (nI (g + 1))), none]) ⟨Or.inr rfl, Or.inr rfl, Or.inl rfl, trivial⟩ ?_
                refine ih (g + 1) _ ⟨by omega, ?_, hF1.tr hF2⟩
                show LkR _ b (if _ then _ else _)
                rw [if_neg (by rintro (z | z | z); rw [h_15] at z; cases z; rw [h_23] at z; cases z; omega)]
                simp only [mvV]; rw [if_neg (by omega), if_neg (by omega), if_neg (by omega)]; exact hR2
  refine y_iconst (a := 0) dX8_runHour_0 rfl ?_
  refine x_istore_n dX8_runHour_1 ?_
  exact key _ 0 M ⟨Nat.zero_add _, hR, Fr.rf⟩
