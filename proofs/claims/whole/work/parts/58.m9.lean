/-! THE REFERENCE: who, rotten, drawn (laid by gen_m9.py) -/
set_option maxRecDepth 100000 in
set_option maxHeartbeats 4000000 in
theorem m_who {Ω : Om} {l : Launch} {M : Mem} {σ : Sg} (hM : IM M σ) (hW : SgW σ) {x w o r i n : Int32} : Ct Ω l yX12_who cX12_who 11 10 (some .int) [.ref (Ω.2.2 34), .int x, .int w, .int o, .int r, .int i, .int n] M (fun ro M' => ro = some (.int (R_who σ x w o r i n).1) ∧ IM M' (R_who σ x w o r i n).2 ∧ FrC M M') := by
  have hS := hM.ms
  have hLv : Lv σ.v := hW.2.2.1
  have hw := hLv.wv
  have hn := hw.nums
  have hth := hM.there
  by_cases hall : inR x (σ.v 2) = true ∧ inB w 0 2 = true ∧ inR o (σ.v 2) = true ∧ inR r 8 = true ∧ inB n 1 12 = true ∧ ¬ σ.sz (tN r) = -1 ∧ spn (σ.sz (tN r)) i n = true
  · obtain ⟨q1, q2, q3, q4, q5, q6, q7⟩ := hall
    have hR0 : R_who σ x w o r i n = ((if w = nI 0 then nI (fitK 15 1 5 σ.v (tN x) (tN o) (fun h => σ.it (tN r) (tN i + h)) (tN n)) else if w = nI 1 then nI (fitK 21 1 30 σ.v (tN x) (tN o) (fun h => σ.it (tN r) (tN i + h)) (tN n)) else nI (fitK 27 0 30 σ.v (tN x) (tN o) (fun h => σ.it (tN r) (tN i + h)) (tN n))), σ.uSt (nI 0)) := by
      unfold R_who
      rw [if_pos ⟨q1, q2, q3, q4, q5⟩, if_neg q6, if_pos q7]
    rw [hR0]
    obtain ⟨g, hg, rfl⟩ := inR_nI q1 (by omega)
    obtain ⟨o, ho, rfl⟩ := inR_nI q3 (by omega)
    obtain ⟨r, hr8, rfl⟩ := inR_nI q4 (by decide)
    have q5' := q5
    obtain ⟨n, n1, hn12, rfl⟩ := inB_nI q5 (by decide)
    rw [tN_nI (g := r) (by omega)] at q6 q7 ⊢
    rw [tN_nI (g := g) (by omega), tN_nI (g := o) (by omega), tN_nI (g := n) (by omega)]
    obtain ⟨z, hz40, hz⟩ := (hW.1 r hr8).2.resolve_left q6
    obtain ⟨j, hj, rfl⟩ := spn_nat hz40 (show n ≤ 40 by omega) (by rw [← hz]; exact q7)
    rw [tN_nI (g := j) (by omega)]
    obtain ⟨w, w1, w2, rfl⟩ := inB_nI q2 (by decide)
    rcases (show w = 0 ∨ w = 1 ∨ w = 2 by omega) with rfl | rfl | rfl
    · rw [if_pos rfl]
      exact m_who0 hM hW hg ho hr8 n1 hn12 q5' q6 q7 (by omega)
    · rw [if_neg (by decide +kernel), if_pos rfl]
      exact m_who1 hM hW hg ho hr8 n1 hn12 q5' q6 q7 (by omega)
    · rw [if_neg (by decide +kernel), if_neg (by decide +kernel)]
      exact m_who2 hM hW hg ho hr8 n1 hn12 q5' q6 q7 (by omega)
  refine ct_of (by decide) (Nat.le_of_ble_eq_true rfl) ?_
  intro p e R s m args below meth c
  refine x_aload_n dX12_who_0 rfl ?_
  refine x_iload_n dX12_who_1 rfl ?_
  refine q_X12_209 (m_isGoer hS (by omega)) dX12_who_2 rfl ?_
  rintro _ _ ⟨rfl, rfl⟩
  refine z_if_eq 49 dX12_who_5 (fun h_5 => ?_) (fun h_5 => ?_)
  · refine x_ldc dX12_who_49 k_X12_70 ?_
    refine x_goto 64 dX12_who_51 ?_
    refine x_istore dX12_who_64 ?_
    refine x_iload dX12_who_66 rfl ?_
    refine x_if_ge 74 dX12_who_68 (fun h_68 => ?_) (fun h_68 => ?_)
    · exfalso
      exact absurd h_68 (by decide)
    · refine x_iload dX12_who_71 rfl ?_
      refine x_iret dX12_who_73 ?_
      unfold R_who
      rw [if_neg (by simp [*])]
      exact ⟨rfl, hM, FrC.rf⟩
  · obtain ⟨g, hg, rfl⟩ := inR_nI h_5 (by omega)
    refine x_iload_n dX12_who_8 rfl ?_
    refine x_i2l dX12_who_9 ?_
    refine x_lconst (v := lN 0) dX12_who_10 rfl ?_
    refine x_ldc2 (v := lN 2) dX12_who_11 k_X12_68 ?_
    refine q_X12_60 (m_inB (by decide) (by decide)) dX12_who_14 rfl ?_
    rintro _ _ ⟨rfl, rfl⟩
    refine z_if_eq 49 dX12_who_17 (fun h_17 => ?_) (fun h_17 => ?_)
    · refine x_ldc dX12_who_49 k_X12_70 ?_
      refine x_goto 64 dX12_who_51 ?_
      refine x_istore dX12_who_64 ?_
      refine x_iload dX12_who_66 rfl ?_
      refine x_if_ge 74 dX12_who_68 (fun h_68 => ?_) (fun h_68 => ?_)
      · exfalso
        exact absurd h_68 (by decide)
      · refine x_iload dX12_who_71 rfl ?_
        refine x_iret dX12_who_73 ?_
        unfold R_who
        rw [if_neg (by simp [*])]
        exact ⟨rfl, hM, FrC.rf⟩
    · refine x_aload_n dX12_who_20 rfl ?_
      refine x_iload_n dX12_who_21 rfl ?_
      refine q_X12_209 (m_isGoer hS (by omega)) dX12_who_22 rfl ?_
      rintro _ _ ⟨rfl, rfl⟩
      refine z_if_eq 49 dX12_who_25 (fun h_25 => ?_) (fun h_25 => ?_)
      · refine x_ldc dX12_who_49 k_X12_70 ?_
        refine x_goto 64 dX12_who_51 ?_
        refine x_istore dX12_who_64 ?_
        refine x_iload dX12_who_66 rfl ?_
        refine x_if_ge 74 dX12_who_68 (fun h_68 => ?_) (fun h_68 => ?_)
        · exfalso
          exact absurd h_68 (by decide)
        · refine x_iload dX12_who_71 rfl ?_
          refine x_iret dX12_who_73 ?_
          unfold R_who
          rw [if_neg (by simp [*])]
          exact ⟨rfl, hM, FrC.rf⟩
      · obtain ⟨o, ho, rfl⟩ := inR_nI h_25 (by omega)
        refine x_iload dX12_who_28 rfl ?_
        refine q_X12_64 (m_isRow) dX12_who_30 rfl ?_
        rintro _ _ ⟨rfl, rfl⟩
        refine z_if_eq 49 dX12_who_33 (fun h_33 => ?_) (fun h_33 => ?_)
        · refine x_ldc dX12_who_49 k_X12_70 ?_
          refine x_goto 64 dX12_who_51 ?_
          refine x_istore dX12_who_64 ?_
          refine x_iload dX12_who_66 rfl ?_
          refine x_if_ge 74 dX12_who_68 (fun h_68 => ?_) (fun h_68 => ?_)
          · exfalso
            exact absurd h_68 (by decide)
          · refine x_iload dX12_who_71 rfl ?_
            refine x_iret dX12_who_73 ?_
            unfold R_who
            rw [if_neg (by simp [*])]
            exact ⟨rfl, hM, FrC.rf⟩
        · obtain ⟨r, hr8, rfl⟩ := inR_nI h_33 (by decide)
          refine x_iload dX12_who_36 rfl ?_
          refine x_i2l dX12_who_38 ?_
          refine x_lconst (v := lN 1) dX12_who_39 rfl ?_
          refine x_ldc2 (v := lN 12) dX12_who_40 k_X12_250 ?_
          refine q_X12_60 (m_inB (by decide) (by decide)) dX12_who_43 rfl ?_
          rintro _ _ ⟨rfl, rfl⟩
          refine z_if_ne 54 dX12_who_46 (fun h_46 => ?_) (fun h_46 => ?_)
          · obtain ⟨n, n1, hn12, rfl⟩ := inB_nI h_46 (by decide)
            have tr := tN_nI (g := r) (by omega)
            refine x_aload_n dX12_who_54 rfl ?_
            refine x_iload dX12_who_55 rfl ?_
            refine x_iload dX12_who_57 rfl ?_
            refine x_iload dX12_who_59 rfl ?_
            by_cases hsz : σ.sz r = -1
            · refine q_X12_252 (m_lacks hM hW hr8 hn12) dX12_who_61 rfl ?_
              intro ro M5 hp5
              rw [if_pos hsz] at hp5
              obtain ⟨rfl, rfl⟩ := hp5
              refine x_istore dX12_who_64 ?_
              refine x_iload dX12_who_66 rfl ?_
              refine x_if_ge 74 dX12_who_68 (fun h_68 => ?_) (fun h_68 => ?_)
              · exfalso
                exact absurd h_68 (by decide)
              · refine x_iload dX12_who_71 rfl ?_
                refine x_iret dX12_who_73 ?_
                unfold R_who
                rw [if_pos ⟨h_5, h_17, h_25, h_33, h_46⟩, tr]
                rw [if_pos hsz]
                exact ⟨rfl, hM.setSt _⟩
            · rcases hsp : spn (σ.sz r) i (nI n) with _ | _
              · refine q_X12_252 (m_lacks hM hW hr8 hn12) dX12_who_61 rfl ?_
                intro ro M5 hp5
                rw [if_neg hsz, if_neg (by rw [hsp]; exact Bool.false_ne_true)] at hp5
                obtain ⟨rfl, rfl⟩ := hp5
                refine x_istore dX12_who_64 ?_
                refine x_iload dX12_who_66 rfl ?_
                refine x_if_ge 74 dX12_who_68 (fun h_68 => ?_) (fun h_68 => ?_)
                · exfalso
                  exact absurd h_68 (by decide)
                · refine x_iload dX12_who_71 rfl ?_
                  refine x_iret dX12_who_73 ?_
                  unfold R_who
                  rw [if_pos ⟨h_5, h_17, h_25, h_33, h_46⟩, tr]
                  rw [if_neg hsz, if_neg (by rw [hsp]; exact Bool.false_ne_true)]
                  exact ⟨rfl, hM.setSt _⟩
              · exact absurd ⟨h_5, h_17, h_25, h_33, h_46, by rw [tr]; exact hsz, by rw [tr]; exact hsp⟩ hall
          · refine x_ldc dX12_who_49 k_X12_70 ?_
            refine x_goto 64 dX12_who_51 ?_
            refine x_istore dX12_who_64 ?_
            refine x_iload dX12_who_66 rfl ?_
            refine x_if_ge 74 dX12_who_68 (fun h_68 => ?_) (fun h_68 => ?_)
            · exfalso
              exact absurd h_68 (by decide)
            · refine x_iload dX12_who_71 rfl ?_
              refine x_iret dX12_who_73 ?_
              unfold R_who
              rw [if_neg (by simp [*])]
              exact ⟨rfl, hM, FrC.rf⟩
set_option maxRecDepth 100000 in
set_option maxHeartbeats 4000000 in
theorem m_rot {Ω : Om} {l : Launch} {M : Mem} {σ : Sg} (hM : IM M σ) (hW : SgW σ) {g r n j : Nat} (hg : g < σ.v 2) (hr8 : r < 8) (n1 : 1 ≤ n) (hn12 : n ≤ 12) (hin : inB (nI n) 1 12 = true) (hsz : ¬ σ.sz r = -1) (hsp : spn (σ.sz r) (nI j) (nI n) = true) (hj : j + n ≤ 40) : Ct Ω l yX12_rotten cX12_rotten 8 10 (some .int) [.ref (Ω.2.2 34), .int (nI g), .int (nI r), .int (nI j), .int (nI n)] M (fun ro M' => ro = some (.int (nI (fitR σ.v g (fun h => σ.it r (j + h)) n))) ∧ IM M' (σ.uSt (nI 0)) ∧ FrC M M') := by
  have hS := hM.ms
  have hLv : Lv σ.v := hW.2.2.1
  have hw := hLv.wv
  have hn := hw.nums
  have hth := hM.there
  obtain ⟨hI, h999⟩ := hLv.goer hg
  have hgo := hw.goer hg
  obtain ⟨_, _, s3⟩ := hM.rows r hr8
  have hitm : ∀ h, h < n → M.1 37 (40 * r + j + h) = σ.it r (j + h) := fun h hh => by
    rw [Nat.add_assoc]; exact s3 (j + h) (by omega)
  refine ct_of (by decide) (Nat.le_of_ble_eq_true rfl) ?_
  intro p e R s m args below meth c
  have key : ∀ (k y : Nat) (M1 : Mem) (x5 : Int32), y + k = σ.v 0 ∧ MsR M1 σ.v ∧ AsR M1 σ.v ∧ FQ M M1 → X (mkG p l e R s m args below meth c Ω (fun ro M' => ro = some (.int (nI (fitR σ.v g (fun h => σ.it r (j + h)) n))) ∧ IM M' (σ.uSt (nI 0)) ∧ FrC M M')) Ω RX12 cX12_rotten 8 10 (some .int) 83 [some (.ref (Ω.2.2 34)), some (.int (nI g)), some (.int (nI r)), some (.int (nI j)), some (.int (nI n)), some (.int x5), some (.int (nI ((if fitN σ.v g (fun h => σ.it r (j + h)) n = true then 1024 else 0) ||| orN (fun r2 => if brk σ.v (r2 + 1) = false ∧ fitN (bkV σ.v (r2 + 1)) g (fun h => σ.it r (j + h)) n = true then 2 ^ r2 else 0) y))), some (.int (nI y))] [] M1 := by
    intro k
    induction k with
    | zero =>
      intro y M1 x5 hk
      obtain ⟨hk, hS1, hA1, hF1⟩ := hk
      refine x_iload dX12_rotten_83 rfl ?_
      refine x_aload_n dX12_rotten_85 rfl ?_
      refine g_X12_19 dX12_rotten_86 ?_
      refine y_iconst (a := 0) dX12_rotten_89 rfl ?_
      refine x_ial dX12_rotten_90 (⟨by decide, rfl, rfl, by decide⟩ : Ar 38 45) (by omega) ?_
      rw [hS1.at (by omega)]
      refine y_icmp_ge 150 dX12_rotten_91 (by omega) (by omega) (fun h_91 => ?_) (fun h_91 => ?_)
      · obtain rfl : y = σ.v 0 := by omega
        obtain ⟨hM1, hC1⟩ := hM.q hF1 hS1
        obtain ⟨hM2, hC2⟩ := hM1.setSt (nI 0)
        refine x_aload_n dX12_rotten_150 rfl ?_
        refine x_iload dX12_rotten_151 rfl ?_
        refine q_X12_75 (m_well) dX12_rotten_153 rfl ?_
        rintro _ _ ⟨rfl, rfl⟩
        refine x_iret dX12_rotten_156 ?_
        exact ⟨rfl, hM2, hC1.tr hC2⟩
      · exfalso; omega
    | succ k ih =>
      intro y M1 x5 hk
      obtain ⟨hk, hS1, hA1, hF1⟩ := hk
      refine x_iload dX12_rotten_83 rfl ?_
      refine x_aload_n dX12_rotten_85 rfl ?_
      refine g_X12_19 dX12_rotten_86 ?_
      refine y_iconst (a := 0) dX12_rotten_89 rfl ?_
      refine x_ial dX12_rotten_90 (⟨by decide, rfl, rfl, by decide⟩ : Ar 38 45) (by omega) ?_
      rw [hS1.at (by omega)]
      refine y_icmp_ge 150 dX12_rotten_91 (by omega) (by omega) (fun h_91 => ?_) (fun h_91 => ?_)
      · exfalso; omega
      · have hst := hw.2.2.2.2.2.2.1 y (by omega)
        have hbk : brk σ.v (y + 1) = decide (σ.v (6 + y) = 0) := by
          unfold brk
          rw [show 5 + (y + 1) = 6 + y by omega]
          simp; omega
        refine x_aload_n dX12_rotten_94 rfl ?_
        refine g_X12_19 dX12_rotten_95 ?_
        refine x_bipush (v := nI 6) dX12_rotten_98 rfl ?_
        refine x_iload dX12_rotten_100 rfl ?_
        refine y_iadd dX12_rotten_102 ?_
        refine x_ial dX12_rotten_103 (⟨by decide, rfl, rfl, by decide⟩ : Ar 38 45) (by omega) ?_
        rw [hS1.at (by omega)]
        refine y_if_le 144 dX12_rotten_104 (by omega) (fun h_104 => ?_) (fun h_104 => ?_)
        · refine y_iinc dX12_rotten_144 rfl ?_
          refine x_goto 83 dX12_rotten_147 ?_
          first
            | (have hh := ih (y + 1) _ x5 ⟨by omega, hS1, hA1, hF1⟩
               rw [orN_succ, if_neg (c := brk σ.v (y + 1) = false ∧ _) (fun z => by have q := z.1; rw [hbk] at q; simp [h_104] at q), Nat.or_zero] at hh
               exact hh)
            | (have hh := ih (y + 1) _ x5 ⟨by omega, hS3, (hA1.keep hF2).keep hF3, (hF1.s hF2).s hF3⟩
               rw [orN_succ, ← Nat.or_assoc] at hh
               first
                 | (rw [if_pos (c := brk σ.v (y + 1) = false ∧ _) ⟨by rw [hbk]; simp; omega, h_130⟩] at hh; exact hh)
                 | (rw [if_neg (c := brk σ.v (y + 1) = false ∧ _) (fun z => Bool.false_ne_true (h_130.symm.trans z.2))] at hh; exact hh))
        · refine x_aload_n dX12_rotten_107 rfl ?_
          refine x_iload dX12_rotten_108 rfl ?_
          refine y_iconst (a := 1) dX12_rotten_110 rfl ?_
          refine y_iadd dX12_rotten_111 ?_
          refine q_X12_194 (m_breaks (q := y + 1) hS1 hw (by omega) (by omega)) dX12_rotten_112 rfl ?_
          rintro _ M2 ⟨rfl, hS2, hF2⟩
          have hI2 := hI.bk (p := y + 1) (by omega) (by omega)
          have hb2 : bkV σ.v (y + 1) 2 = σ.v 2 := bkV_ne (by omega) (by omega) (Or.inl (by omega)) (by omega)
          have hb3 : bkV σ.v (y + 1) 3 = σ.v 3 := bkV_ne (by omega) (by omega) (Or.inl (by omega)) (by omega)
          refine x_iload dX12_rotten_115 rfl ?_
          refine x_aload_n dX12_rotten_117 rfl ?_
          refine x_iload_n dX12_rotten_118 rfl ?_
          refine x_bipush (v := nI 40) dX12_rotten_119 rfl ?_
          refine x_iload_n dX12_rotten_121 rfl ?_
          refine y_imul dX12_rotten_122 ?_
          refine x_iload_n dX12_rotten_123 rfl ?_
          refine y_iadd dX12_rotten_124 ?_
          refine x_iload dX12_rotten_125 rfl ?_
          refine q_X12_256 (m_isSo (it := (fun h => σ.it r (j + h))) hS2 hI2 (hA1.keep hF2) (by rw [hb2]; exact hg) hn12 (by omega) (by omega) (fun h hh => by rw [hF2.2 37 (by decide), hF1.2 37 (by decide) (by decide) (by decide) (by decide)]; exact hitm h hh)) dX12_rotten_127 rfl ?_
          rintro _ M3 ⟨rfl, hS3, hF3⟩
          refine z_if_eq 140 dX12_rotten_130 (fun h_130 => ?_) (fun h_130 => ?_)
          · refine y_iconst (a := 0) dX12_rotten_140 rfl ?_
            refine y_ior dX12_rotten_141 ?_
            refine x_istore dX12_rotten_142 ?_
            refine y_iinc dX12_rotten_144 rfl ?_
            refine x_goto 83 dX12_rotten_147 ?_
            first
              | (have hh := ih (y + 1) _ x5 ⟨by omega, hS1, hA1, hF1⟩
                 rw [orN_succ, if_neg (c := brk σ.v (y + 1) = false ∧ _) (fun z => by have q := z.1; rw [hbk] at q; simp [h_104] at q), Nat.or_zero] at hh
                 exact hh)
              | (have hh := ih (y + 1) _ x5 ⟨by omega, hS3, (hA1.keep hF2).keep hF3, (hF1.s hF2).s hF3⟩
                 rw [orN_succ, ← Nat.or_assoc] at hh
                 first
                   | (rw [if_pos (c := brk σ.v (y + 1) = false ∧ _) ⟨by rw [hbk]; simp; omega, h_130⟩] at hh; exact hh)
                   | (rw [if_neg (c := brk σ.v (y + 1) = false ∧ _) (fun z => Bool.false_ne_true (h_130.symm.trans z.2))] at hh; exact hh))
          · refine y_iconst (a := 1) dX12_rotten_133 rfl ?_
            refine x_iload dX12_rotten_134 rfl ?_
            refine y_ishl dX12_rotten_136 (by omega) ?_
            try rw [Nat.one_mul]
            refine x_goto 141 dX12_rotten_137 ?_
            refine y_ior dX12_rotten_141 ?_
            refine x_istore dX12_rotten_142 ?_
            refine y_iinc dX12_rotten_144 rfl ?_
            refine x_goto 83 dX12_rotten_147 ?_
            first
              | (have hh := ih (y + 1) _ x5 ⟨by omega, hS1, hA1, hF1⟩
                 rw [orN_succ, if_neg (c := brk σ.v (y + 1) = false ∧ _) (fun z => by have q := z.1; rw [hbk] at q; simp [h_104] at q), Nat.or_zero] at hh
                 exact hh)
              | (have hh := ih (y + 1) _ x5 ⟨by omega, hS3, (hA1.keep hF2).keep hF3, (hF1.s hF2).s hF3⟩
                 rw [orN_succ, ← Nat.or_assoc] at hh
                 first
                   | (rw [if_pos (c := brk σ.v (y + 1) = false ∧ _) ⟨by rw [hbk]; simp; omega, h_130⟩] at hh; exact hh)
                   | (rw [if_neg (c := brk σ.v (y + 1) = false ∧ _) (fun z => Bool.false_ne_true (h_130.symm.trans z.2))] at hh; exact hh))
  refine x_aload_n dX12_rotten_0 rfl ?_
  refine x_iload_n dX12_rotten_1 rfl ?_
  refine q_X12_209 (m_isGoer hS (by omega)) dX12_rotten_2 rfl ?_
  rintro _ _ ⟨rfl, rfl⟩
  rw [inR_of hg (by omega)]
  refine z_if_eq 28 dX12_rotten_5 (fun h_5 => ?_) (fun h_5 => ?_)
  · first
      | contradiction
      | (exfalso; simp_all)
  · refine x_iload_n dX12_rotten_8 rfl ?_
    refine q_X12_64 (m_isRow) dX12_rotten_9 rfl ?_
    rintro _ _ ⟨rfl, rfl⟩
    rw [inR_of hr8 (by omega)]
    refine z_if_eq 28 dX12_rotten_12 (fun h_12 => ?_) (fun h_12 => ?_)
    · first
        | contradiction
        | (exfalso; simp_all)
    · refine x_iload dX12_rotten_15 rfl ?_
      refine x_i2l dX12_rotten_17 ?_
      refine x_lconst (v := lN 1) dX12_rotten_18 rfl ?_
      refine x_ldc2 (v := lN 12) dX12_rotten_19 k_X12_250 ?_
      refine q_X12_60 (m_inB (by decide) (by decide)) dX12_rotten_22 rfl ?_
      rintro _ _ ⟨rfl, rfl⟩
      rw [hin]
      refine z_if_ne 33 dX12_rotten_25 (fun h_25 => ?_) (fun h_25 => ?_)
      · refine x_aload_n dX12_rotten_33 rfl ?_
        refine x_iload_n dX12_rotten_34 rfl ?_
        refine x_iload_n dX12_rotten_35 rfl ?_
        refine x_iload dX12_rotten_36 rfl ?_
        refine q_X12_252 (m_lacks hM hW hr8 hn12) dX12_rotten_38 rfl ?_
        intro ro M5 hp5
        rw [if_neg hsz, if_pos hsp] at hp5
        obtain ⟨rfl, rfl⟩ := hp5
        refine x_istore dX12_rotten_41 ?_
        refine x_iload dX12_rotten_43 rfl ?_
        refine x_if_ge 51 dX12_rotten_45 (fun h_45 => ?_) (fun h_45 => ?_)
        · refine x_aload_n dX12_rotten_51 rfl ?_
          refine q_X12_228 (m_putAside hS) dX12_rotten_52 rfl ?_
          rintro _ M0 ⟨rfl, hA0, hF0⟩
          have hS0 := hS.fc hF0 (by decide)
          refine x_aload_n dX12_rotten_55 rfl ?_
          refine x_iload_n dX12_rotten_56 rfl ?_
          refine x_bipush (v := nI 40) dX12_rotten_57 rfl ?_
          refine x_iload_n dX12_rotten_59 rfl ?_
          refine y_imul dX12_rotten_60 ?_
          refine x_iload_n dX12_rotten_61 rfl ?_
          refine y_iadd dX12_rotten_62 ?_
          refine x_iload dX12_rotten_63 rfl ?_
          refine q_X12_256 (m_isSo (it := (fun h => σ.it r (j + h))) hS0 hI hA0 hg hn12 (by omega) (by omega) (fun h hh => by rw [hF0.2 37 (by decide)]; exact hitm h hh)) dX12_rotten_65 rfl ?_
          rintro _ M3 ⟨rfl, hS3, hF3⟩
          refine z_if_eq 77 dX12_rotten_68 (fun h_68 => ?_) (fun h_68 => ?_)
          · refine y_iconst (a := 0) dX12_rotten_77 rfl ?_
            refine x_istore dX12_rotten_78 ?_
            refine y_iconst (a := 0) dX12_rotten_80 rfl ?_
            refine x_istore dX12_rotten_81 ?_
            have hh := key (σ.v 0) 0 M3 (nI 0) ⟨by omega, hS3, hA0.keep hF3, (FQ.rf.c hF0 (by omega)).s hF3⟩
            rw [show orN (fun r2 => if brk σ.v (r2 + 1) = false ∧ fitN (bkV σ.v (r2 + 1)) g (fun h => σ.it r (j + h)) n = true then 2 ^ r2 else 0) 0 = 0 from rfl, Nat.or_zero] at hh
            first
              | (rw [if_pos h_68] at hh; exact hh)
              | (rw [if_neg (fun z => Bool.false_ne_true (h_68.symm.trans z))] at hh; exact hh)
          · refine x_sipush (v := nI 1024) dX12_rotten_71 rfl ?_
            refine x_goto 78 dX12_rotten_74 ?_
            refine x_istore dX12_rotten_78 ?_
            refine y_iconst (a := 0) dX12_rotten_80 rfl ?_
            refine x_istore dX12_rotten_81 ?_
            have hh := key (σ.v 0) 0 M3 (nI 0) ⟨by omega, hS3, hA0.keep hF3, (FQ.rf.c hF0 (by omega)).s hF3⟩
            rw [show orN (fun r2 => if brk σ.v (r2 + 1) = false ∧ fitN (bkV σ.v (r2 + 1)) g (fun h => σ.it r (j + h)) n = true then 2 ^ r2 else 0) 0 = 0 from rfl, Nat.or_zero] at hh
            first
              | (rw [if_pos h_68] at hh; exact hh)
              | (rw [if_neg (fun z => Bool.false_ne_true (h_68.symm.trans z))] at hh; exact hh)
        · exfalso
          exact absurd h_45 (by decide)
      · first
          | contradiction
          | (exfalso; simp_all)
set_option maxRecDepth 100000 in
set_option maxHeartbeats 4000000 in
theorem m_rotten {Ω : Om} {l : Launch} {M : Mem} {σ : Sg} (hM : IM M σ) (hW : SgW σ) {x r i n : Int32} : Ct Ω l yX12_rotten cX12_rotten 8 10 (some .int) [.ref (Ω.2.2 34), .int x, .int r, .int i, .int n] M (fun ro M' => ro = some (.int (R_rotten σ x r i n).1) ∧ IM M' (R_rotten σ x r i n).2 ∧ FrC M M') := by
  have hS := hM.ms
  have hLv : Lv σ.v := hW.2.2.1
  have hw := hLv.wv
  have hn := hw.nums
  have hth := hM.there
  by_cases hall : inR x (σ.v 2) = true ∧ inR r 8 = true ∧ inB n 1 12 = true ∧ ¬ σ.sz (tN r) = -1 ∧ spn (σ.sz (tN r)) i n = true
  · obtain ⟨q1, q4, q5, q6, q7⟩ := hall
    have hR0 : R_rotten σ x r i n = (nI (fitR σ.v (tN x) (fun h => σ.it (tN r) (tN i + h)) (tN n)), σ.uSt (nI 0)) := by
      unfold R_rotten
      rw [if_pos ⟨q1, q4, q5⟩, if_neg q6, if_pos q7]
    rw [hR0]
    obtain ⟨g, hg, rfl⟩ := inR_nI q1 (by omega)
    obtain ⟨r, hr8, rfl⟩ := inR_nI q4 (by decide)
    have q5' := q5
    obtain ⟨n, n1, hn12, rfl⟩ := inB_nI q5 (by decide)
    rw [tN_nI (g := r) (by omega)] at q6 q7 ⊢
    rw [tN_nI (g := g) (by omega), tN_nI (g := n) (by omega)]
    obtain ⟨z, hz40, hz⟩ := (hW.1 r hr8).2.resolve_left q6
    obtain ⟨j, hj, rfl⟩ := spn_nat hz40 (show n ≤ 40 by omega) (by rw [← hz]; exact q7)
    rw [tN_nI (g := j) (by omega)]
    exact m_rot hM hW hg hr8 n1 hn12 q5' q6 q7 (by omega)
  refine ct_of (by decide) (Nat.le_of_ble_eq_true rfl) ?_
  intro p e R s m args below meth c
  refine x_aload_n dX12_rotten_0 rfl ?_
  refine x_iload_n dX12_rotten_1 rfl ?_
  refine q_X12_209 (m_isGoer hS (by omega)) dX12_rotten_2 rfl ?_
  rintro _ _ ⟨rfl, rfl⟩
  refine z_if_eq 28 dX12_rotten_5 (fun h_5 => ?_) (fun h_5 => ?_)
  · refine x_ldc dX12_rotten_28 k_X12_70 ?_
    refine x_goto 41 dX12_rotten_30 ?_
    refine x_istore dX12_rotten_41 ?_
    refine x_iload dX12_rotten_43 rfl ?_
    refine x_if_ge 51 dX12_rotten_45 (fun h_45 => ?_) (fun h_45 => ?_)
    · exfalso
      exact absurd h_45 (by decide)
    · refine x_iload dX12_rotten_48 rfl ?_
      refine x_iret dX12_rotten_50 ?_
      unfold R_rotten
      rw [if_neg (by simp [*])]
      exact ⟨rfl, hM, FrC.rf⟩
  · obtain ⟨g, hg, rfl⟩ := inR_nI h_5 (by omega)
    refine x_iload_n dX12_rotten_8 rfl ?_
    refine q_X12_64 (m_isRow) dX12_rotten_9 rfl ?_
    rintro _ _ ⟨rfl, rfl⟩
    refine z_if_eq 28 dX12_rotten_12 (fun h_12 => ?_) (fun h_12 => ?_)
    · refine x_ldc dX12_rotten_28 k_X12_70 ?_
      refine x_goto 41 dX12_rotten_30 ?_
      refine x_istore dX12_rotten_41 ?_
      refine x_iload dX12_rotten_43 rfl ?_
      refine x_if_ge 51 dX12_rotten_45 (fun h_45 => ?_) (fun h_45 => ?_)
      · exfalso
        exact absurd h_45 (by decide)
      · refine x_iload dX12_rotten_48 rfl ?_
        refine x_iret dX12_rotten_50 ?_
        unfold R_rotten
        rw [if_neg (by simp [*])]
        exact ⟨rfl, hM, FrC.rf⟩
    · obtain ⟨r, hr8, rfl⟩ := inR_nI h_12 (by decide)
      refine x_iload dX12_rotten_15 rfl ?_
      refine x_i2l dX12_rotten_17 ?_
      refine x_lconst (v := lN 1) dX12_rotten_18 rfl ?_
      refine x_ldc2 (v := lN 12) dX12_rotten_19 k_X12_250 ?_
      refine q_X12_60 (m_inB (by decide) (by decide)) dX12_rotten_22 rfl ?_
      rintro _ _ ⟨rfl, rfl⟩
      refine z_if_ne 33 dX12_rotten_25 (fun h_25 => ?_) (fun h_25 => ?_)
      · obtain ⟨n, n1, hn12, rfl⟩ := inB_nI h_25 (by decide)
        have tr := tN_nI (g := r) (by omega)
        refine x_aload_n dX12_rotten_33 rfl ?_
        refine x_iload_n dX12_rotten_34 rfl ?_
        refine x_iload_n dX12_rotten_35 rfl ?_
        refine x_iload dX12_rotten_36 rfl ?_
        by_cases hsz : σ.sz r = -1
        · refine q_X12_252 (m_lacks hM hW hr8 hn12) dX12_rotten_38 rfl ?_
          intro ro M5 hp5
          rw [if_pos hsz] at hp5
          obtain ⟨rfl, rfl⟩ := hp5
          refine x_istore dX12_rotten_41 ?_
          refine x_iload dX12_rotten_43 rfl ?_
          refine x_if_ge 51 dX12_rotten_45 (fun h_45 => ?_) (fun h_45 => ?_)
          · exfalso
            exact absurd h_45 (by decide)
          · refine x_iload dX12_rotten_48 rfl ?_
            refine x_iret dX12_rotten_50 ?_
            unfold R_rotten
            rw [if_pos ⟨h_5, h_12, h_25⟩, tr]
            rw [if_pos hsz]
            exact ⟨rfl, hM.setSt _⟩
        · rcases hsp : spn (σ.sz r) i (nI n) with _ | _
          · refine q_X12_252 (m_lacks hM hW hr8 hn12) dX12_rotten_38 rfl ?_
            intro ro M5 hp5
            rw [if_neg hsz, if_neg (by rw [hsp]; exact Bool.false_ne_true)] at hp5
            obtain ⟨rfl, rfl⟩ := hp5
            refine x_istore dX12_rotten_41 ?_
            refine x_iload dX12_rotten_43 rfl ?_
            refine x_if_ge 51 dX12_rotten_45 (fun h_45 => ?_) (fun h_45 => ?_)
            · exfalso
              exact absurd h_45 (by decide)
            · refine x_iload dX12_rotten_48 rfl ?_
              refine x_iret dX12_rotten_50 ?_
              unfold R_rotten
              rw [if_pos ⟨h_5, h_12, h_25⟩, tr]
              rw [if_neg hsz, if_neg (by rw [hsp]; exact Bool.false_ne_true)]
              exact ⟨rfl, hM.setSt _⟩
          · exact absurd ⟨h_5, h_12, h_25, by rw [tr]; exact hsz, by rw [tr]; exact hsp⟩ hall
      · refine x_ldc dX12_rotten_28 k_X12_70 ?_
        refine x_goto 41 dX12_rotten_30 ?_
        refine x_istore dX12_rotten_41 ?_
        refine x_iload dX12_rotten_43 rfl ?_
        refine x_if_ge 51 dX12_rotten_45 (fun h_45 => ?_) (fun h_45 => ?_)
        · exfalso
          exact absurd h_45 (by decide)
        · refine x_iload dX12_rotten_48 rfl ?_
          refine x_iret dX12_rotten_50 ?_
          unfold R_rotten
          rw [if_neg (by simp [*])]
          exact ⟨rfl, hM, FrC.rf⟩
set_option maxRecDepth 100000 in
set_option maxHeartbeats 4000000 in
theorem m_drawn {Ω : Om} {l : Launch} {M : Mem} {σ : Sg} (hM : IM M σ) (hW : SgW σ) {n x w : Int32} : Ct Ω l yX12_drawn cX12_drawn 9 9 (some .int) [.ref (Ω.2.2 34), .int n, .int x, .int w] M (fun ro M' => ro = some (.int (R_drawn σ.v n x w)) ∧ IM M' σ ∧ FrC M M') := by
  have hS := hM.ms
  have hLv : Lv σ.v := hW.2.2.1
  have hw := hLv.wv
  have hn := hw.nums
  have hth := hM.there
  refine ct_of (by decide) (Nat.le_of_ble_eq_true rfl) ?_
  intro p e R s m args below meth c
  have key : ∀ (n a : Nat), n ≤ 60 → 1 ≤ a → a ≤ 999999 → inB (nI n) 0 60 = true → inB (nI a) 1 999999 = true → inB w 0 1 = true → Iv σ.v → σ.v 3 ≤ 999 → ∀ (k h : Nat) (M1 : Mem) (x8 : Option Value), h + k = n ∧ MsR M1 (dwV σ.v a h) ∧ AsR M1 σ.v ∧ FQ M M1 → X (mkG p l e R s m args below meth c Ω (fun ro M' => ro = some (.int (R_drawn σ.v (nI n) (nI a) w)) ∧ IM M' σ ∧ FrC M M')) Ω RX12 cX12_drawn 9 9 (some .int) 61 [some (.ref (Ω.2.2 34)), some (.int (nI n)), some (.int (nI a)), some (.int w), some (.int (nI (fal σ.v))), some (.long (lN (dwX a h))), none, some (.int (nI h)), x8] [] M1 := by
    intro n a n2 a1 a2 hi1 hi2 hi3 hI h999 k
    have tn := tN_nI (g := n) (by omega)
    have ta := tN_nI (g := a) (by omega)
    have h00 : ¬ σ.v 0 = 0 := by have := hI.2.1; omega
    have hw01 : w = nI 0 ∨ w = nI 1 := by
      obtain ⟨z, _, _, rfl⟩ := inB_nI hi3 (by decide)
      rcases (show z = 0 ∨ z = 1 by omega) with rfl | rfl
      · exact Or.inl rfl
      · exact Or.inr rfl
    have fin : R_drawn σ.v (nI n) (nI a) w = (if w = nI 0 then nI (pop (whoA (dwV σ.v a n) (σ.v 0 + 1))) else nI (fal (dwV σ.v a n)) - nI (fal σ.v)) := by
      unfold R_drawn
      rw [if_neg h00, if_pos ⟨hi1, hi2, hi3⟩, tn, ta]
    induction k with
    | zero =>
      intro h M1 x8 hk
      obtain ⟨hk, hS1, hA1, hF1⟩ := hk
      obtain ⟨hI1, h31⟩ := dwV_Iv hI a h (by omega)
      have h01 := dwV_0 hI a h (by omega)
      have hn1 := hI1.1.nums
      have hX := dwX_lt (a := a) (by omega) h
      have h20 := hI1.2.1
      have hwl := whoA_lt hI1.1 (σ.v 0 + 1)
      refine x_iload dX12_drawn_61 rfl ?_
      refine x_iload_n dX12_drawn_63 rfl ?_
      refine y_icmp_ge 160 dX12_drawn_64 (by omega) (by omega) (fun h_64 => ?_) (fun h_64 => ?_)
      · refine x_iload_n dX12_drawn_160 rfl ?_
        refine x_if_ne 174 dX12_drawn_161 (fun h_161 => ?_) (fun h_161 => ?_)
        · refine x_aload_n dX12_drawn_174 rfl ?_
          refine q_X12_234 (m_sumFell hS1 hI1.1) dX12_drawn_175 rfl ?_
          rintro _ _ ⟨rfl, rfl⟩
          refine x_iload dX12_drawn_178 rfl ?_
          refine x_isub dX12_drawn_180 ?_
          refine x_istore dX12_drawn_181 ?_
          refine x_aload_n dX12_drawn_183 rfl ?_
          refine q_X12_223 (m_takeBack hA1) dX12_drawn_184 rfl ?_
          rintro _ M9 ⟨rfl, hS9, hF9⟩
          refine x_iload dX12_drawn_187 rfl ?_
          refine x_iret dX12_drawn_189 ?_
          obtain rfl : h = n := by omega
          refine ⟨congrArg (fun z => some (Value.int z)) ?_, hM.q (hF1.s hF9) hS9⟩
          rw [fin]
          rcases hw01 with rfl | rfl
          · first
              | (exact absurd rfl h_161)
              | rw [if_pos rfl]
          · first
              | (exact absurd h_161 (by decide +kernel))
              | rw [if_neg (by decide +kernel)]
        · refine x_aload_n dX12_drawn_164 rfl ?_
          refine q_X12_206 (m_aboveSet hS1 hI1.1) dX12_drawn_165 rfl ?_
          rintro _ _ ⟨rfl, rfl⟩
          refine q_X12_237 (m_ones (by rw [h01]; omega)) dX12_drawn_168 rfl ?_
          rintro _ _ ⟨rfl, rfl⟩
          rw [h01]
          refine x_goto 181 dX12_drawn_171 ?_
          refine x_istore dX12_drawn_181 ?_
          refine x_aload_n dX12_drawn_183 rfl ?_
          refine q_X12_223 (m_takeBack hA1) dX12_drawn_184 rfl ?_
          rintro _ M9 ⟨rfl, hS9, hF9⟩
          refine x_iload dX12_drawn_187 rfl ?_
          refine x_iret dX12_drawn_189 ?_
          obtain rfl : h = n := by omega
          refine ⟨congrArg (fun z => some (Value.int z)) ?_, hM.q (hF1.s hF9) hS9⟩
          rw [fin]
          rcases hw01 with rfl | rfl
          · first
              | (exact absurd rfl h_161)
              | rw [if_pos rfl]
          · first
              | (exact absurd h_161 (by decide +kernel))
              | rw [if_neg (by decide +kernel)]
      · exfalso; omega
    | succ k ih =>
      intro h M1 x8 hk
      obtain ⟨hk, hS1, hA1, hF1⟩ := hk
      obtain ⟨hI1, h31⟩ := dwV_Iv hI a h (by omega)
      have h01 := dwV_0 hI a h (by omega)
      have hn1 := hI1.1.nums
      have hX := dwX_lt (a := a) (by omega) h
      have h20 := hI1.2.1
      have hwl := whoA_lt hI1.1 (σ.v 0 + 1)
      refine x_iload dX12_drawn_61 rfl ?_
      refine x_iload_n dX12_drawn_63 rfl ?_
      refine y_icmp_ge 160 dX12_drawn_64 (by omega) (by omega) (fun h_64 => ?_) (fun h_64 => ?_)
      · exfalso; omega
      · refine x_lload dX12_drawn_67 rfl ?_
        refine x_ldc2 (v := lN 16807) dX12_drawn_69 k_X12_266 ?_
        refine y_lmul dX12_drawn_72 ?_
        refine x_ldc2 (v := lN 2147483647) dX12_drawn_73 k_X12_268 ?_
        refine y_lrem dX12_drawn_76 (by omega) (by omega) (by omega) ?_
        refine x_lstore dX12_drawn_77 ?_
        have hX2 := dwX_lt (a := a) (by omega) (h + 1)
        rw [show dwX a h * 16807 % 2147483647 = dwX a (h + 1) from rfl]
        have hm := Nat.mod_lt (dwX a (h + 1)) (show 0 < dwV σ.v a h 0 by omega)
        have hst := hI1.1.2.2.2.2.2.2.1 (dwX a (h + 1) % dwV σ.v a h 0) hm
        show X _ _ _ _ _ _ _ _ [some (.ref (Ω.2.2 34)), some (.int (nI n)), some (.int (nI a)), some (.int w), some (.int (nI (fal σ.v))), some (.long (lN (dwX a (h + 1)))), none, some (.int (nI h)), x8] _ _
        refine x_lload dX12_drawn_79 rfl ?_
        refine x_aload_n dX12_drawn_81 rfl ?_
        refine g_X12_19 dX12_drawn_82 ?_
        refine y_iconst (a := 0) dX12_drawn_85 rfl ?_
        refine x_ial dX12_drawn_86 (⟨by decide, rfl, rfl, by decide⟩ : Ar 38 45) (by omega) ?_
        rw [hS1.at (by omega)]
        refine y_i2l dX12_drawn_87 (by omega) ?_
        refine y_lrem dX12_drawn_88 (by omega) (by omega) (by omega) ?_
        refine y_l2i dX12_drawn_89 ?_
        refine x_istore dX12_drawn_90 ?_
        show X _ _ _ _ _ _ _ _ [some (.ref (Ω.2.2 34)), some (.int (nI n)), some (.int (nI a)), some (.int w), some (.int (nI (fal σ.v))), some (.long (lN (dwX a (h + 1)))), none, some (.int (nI h)), some (.int (nI (dwX a (h + 1) % dwV σ.v a h 0)))] _ _
        refine x_lload dX12_drawn_92 rfl ?_
        refine x_ldc2 (v := lN 4) dX12_drawn_94 k_X12_270 ?_
        refine y_lrem dX12_drawn_97 (by omega) (by omega) (by omega) ?_
        refine x_lconst (v := lN 0) dX12_drawn_98 rfl ?_
        refine y_lc0_ne 118 dX12_drawn_99 dX12_drawn_100 (by omega) (fun h_100 => ?_) (fun h_100 => ?_)
        · refine x_lload dX12_drawn_118 rfl ?_
          refine x_ldc2 (v := lN 7) dX12_drawn_120 k_X12_58 ?_
          refine y_lrem dX12_drawn_123 (by omega) (by omega) (by omega) ?_
          refine x_lconst (v := lN 0) dX12_drawn_124 rfl ?_
          refine y_lc0_ne 150 dX12_drawn_125 dX12_drawn_126 (by omega) (fun h_126 => ?_) (fun h_126 => ?_)
          · first
              | (have hdr : ∃ M3 : Mem, M3 = (up1 M1 38 (6 + dwX a (h + 1) % dwV σ.v a h 0) (nI 99)) ∧ FS M1 M3 ∧ MsR M3 (drV (dwV σ.v a h) (dwX a (h + 1))) := by
                   unfold drV
                   first
                     | (rw [if_pos h_100]; exact ⟨_, rfl, FS.rf.up, hS1.set _ _⟩)
                     | (rw [if_neg h_100, if_pos ⟨h_126, by omega⟩]; exact ⟨_, rfl, hF2, hS2⟩)
                     | (rw [if_neg h_100, if_neg (fun z => by first | exact h_126 z.1 | omega)]; exact ⟨_, rfl, FS.rf, hS1⟩)
                 obtain ⟨_, rfl, hFd, hSd⟩ := hdr
                 have hId := drV_Iv hI1 (dwX a (h + 1))
                 refine x_aload_n dX12_drawn_150 rfl ?_
                 refine q_X12_203 (m_oneHour hSd hId) dX12_drawn_151 rfl ?_
                 rintro _ M4 ⟨rfl, hS4, hF4⟩
                 refine y_iinc dX12_drawn_154 rfl ?_
                 refine x_goto 61 dX12_drawn_157 ?_
                 exact ih (h + 1) _ _ ⟨by omega, hS4, (hA1.keep hFd).keep hF4, (hF1.s hFd).s hF4⟩)
              | (have hdr : ∃ M3 : Mem, M3 = M2 ∧ FS M1 M3 ∧ MsR M3 (drV (dwV σ.v a h) (dwX a (h + 1))) := by
                   unfold drV
                   first
                     | (rw [if_pos h_100]; exact ⟨_, rfl, FS.rf.up, hS1.set _ _⟩)
                     | (rw [if_neg h_100, if_pos ⟨h_126, by omega⟩]; exact ⟨_, rfl, hF2, hS2⟩)
                     | (rw [if_neg h_100, if_neg (fun z => by first | exact h_126 z.1 | omega)]; exact ⟨_, rfl, FS.rf, hS1⟩)
                 obtain ⟨_, rfl, hFd, hSd⟩ := hdr
                 have hId := drV_Iv hI1 (dwX a (h + 1))
                 refine x_aload_n dX12_drawn_150 rfl ?_
                 refine q_X12_203 (m_oneHour hSd hId) dX12_drawn_151 rfl ?_
                 rintro _ M4 ⟨rfl, hS4, hF4⟩
                 refine y_iinc dX12_drawn_154 rfl ?_
                 refine x_goto 61 dX12_drawn_157 ?_
                 exact ih (h + 1) _ _ ⟨by omega, hS4, (hA1.keep hFd).keep hF4, (hF1.s hFd).s hF4⟩)
              | (have hdr : ∃ M3 : Mem, M3 = M1 ∧ FS M1 M3 ∧ MsR M3 (drV (dwV σ.v a h) (dwX a (h + 1))) := by
                   unfold drV
                   first
                     | (rw [if_pos h_100]; exact ⟨_, rfl, FS.rf.up, hS1.set _ _⟩)
                     | (rw [if_neg h_100, if_pos ⟨h_126, by omega⟩]; exact ⟨_, rfl, hF2, hS2⟩)
                     | (rw [if_neg h_100, if_neg (fun z => by first | exact h_126 z.1 | omega)]; exact ⟨_, rfl, FS.rf, hS1⟩)
                 obtain ⟨_, rfl, hFd, hSd⟩ := hdr
                 have hId := drV_Iv hI1 (dwX a (h + 1))
                 refine x_aload_n dX12_drawn_150 rfl ?_
                 refine q_X12_203 (m_oneHour hSd hId) dX12_drawn_151 rfl ?_
                 rintro _ M4 ⟨rfl, hS4, hF4⟩
                 refine y_iinc dX12_drawn_154 rfl ?_
                 refine x_goto 61 dX12_drawn_157 ?_
                 exact ih (h + 1) _ _ ⟨by omega, hS4, (hA1.keep hFd).keep hF4, (hF1.s hFd).s hF4⟩)
          · refine x_aload_n dX12_drawn_129 rfl ?_
            refine g_X12_19 dX12_drawn_130 ?_
            refine x_bipush (v := nI 6) dX12_drawn_133 rfl ?_
            refine x_iload dX12_drawn_135 rfl ?_
            refine y_iadd dX12_drawn_137 ?_
            refine x_ial dX12_drawn_138 (⟨by decide, rfl, rfl, by decide⟩ : Ar 38 45) (by omega) ?_
            rw [hS1.at (by omega)]
            refine y_if_le 150 dX12_drawn_139 (by omega) (fun h_139 => ?_) (fun h_139 => ?_)
            · first
                | (have hdr : ∃ M3 : Mem, M3 = (up1 M1 38 (6 + dwX a (h + 1) % dwV σ.v a h 0) (nI 99)) ∧ FS M1 M3 ∧ MsR M3 (drV (dwV σ.v a h) (dwX a (h + 1))) := by
                     unfold drV
                     first
                       | (rw [if_pos h_100]; exact ⟨_, rfl, FS.rf.up, hS1.set _ _⟩)
                       | (rw [if_neg h_100, if_pos ⟨h_126, by omega⟩]; exact ⟨_, rfl, hF2, hS2⟩)
                       | (rw [if_neg h_100, if_neg (fun z => by first | exact h_126 z.1 | omega)]; exact ⟨_, rfl, FS.rf, hS1⟩)
                   obtain ⟨_, rfl, hFd, hSd⟩ := hdr
                   have hId := drV_Iv hI1 (dwX a (h + 1))
                   refine x_aload_n dX12_drawn_150 rfl ?_
                   refine q_X12_203 (m_oneHour hSd hId) dX12_drawn_151 rfl ?_
                   rintro _ M4 ⟨rfl, hS4, hF4⟩
                   refine y_iinc dX12_drawn_154 rfl ?_
                   refine x_goto 61 dX12_drawn_157 ?_
                   exact ih (h + 1) _ _ ⟨by omega, hS4, (hA1.keep hFd).keep hF4, (hF1.s hFd).s hF4⟩)
                | (have hdr : ∃ M3 : Mem, M3 = M2 ∧ FS M1 M3 ∧ MsR M3 (drV (dwV σ.v a h) (dwX a (h + 1))) := by
                     unfold drV
                     first
                       | (rw [if_pos h_100]; exact ⟨_, rfl, FS.rf.up, hS1.set _ _⟩)
                       | (rw [if_neg h_100, if_pos ⟨h_126, by omega⟩]; exact ⟨_, rfl, hF2, hS2⟩)
                       | (rw [if_neg h_100, if_neg (fun z => by first | exact h_126 z.1 | omega)]; exact ⟨_, rfl, FS.rf, hS1⟩)
                   obtain ⟨_, rfl, hFd, hSd⟩ := hdr
                   have hId := drV_Iv hI1 (dwX a (h + 1))
                   refine x_aload_n dX12_drawn_150 rfl ?_
                   refine q_X12_203 (m_oneHour hSd hId) dX12_drawn_151 rfl ?_
                   rintro _ M4 ⟨rfl, hS4, hF4⟩
                   refine y_iinc dX12_drawn_154 rfl ?_
                   refine x_goto 61 dX12_drawn_157 ?_
                   exact ih (h + 1) _ _ ⟨by omega, hS4, (hA1.keep hFd).keep hF4, (hF1.s hFd).s hF4⟩)
                | (have hdr : ∃ M3 : Mem, M3 = M1 ∧ FS M1 M3 ∧ MsR M3 (drV (dwV σ.v a h) (dwX a (h + 1))) := by
                     unfold drV
                     first
                       | (rw [if_pos h_100]; exact ⟨_, rfl, FS.rf.up, hS1.set _ _⟩)
                       | (rw [if_neg h_100, if_pos ⟨h_126, by omega⟩]; exact ⟨_, rfl, hF2, hS2⟩)
                       | (rw [if_neg h_100, if_neg (fun z => by first | exact h_126 z.1 | omega)]; exact ⟨_, rfl, FS.rf, hS1⟩)
                   obtain ⟨_, rfl, hFd, hSd⟩ := hdr
                   have hId := drV_Iv hI1 (dwX a (h + 1))
                   refine x_aload_n dX12_drawn_150 rfl ?_
                   refine q_X12_203 (m_oneHour hSd hId) dX12_drawn_151 rfl ?_
                   rintro _ M4 ⟨rfl, hS4, hF4⟩
                   refine y_iinc dX12_drawn_154 rfl ?_
                   refine x_goto 61 dX12_drawn_157 ?_
                   exact ih (h + 1) _ _ ⟨by omega, hS4, (hA1.keep hFd).keep hF4, (hF1.s hFd).s hF4⟩)
            · refine x_aload_n dX12_drawn_142 rfl ?_
              refine x_iload dX12_drawn_143 rfl ?_
              refine y_iconst (a := 1) dX12_drawn_145 rfl ?_
              refine y_iadd dX12_drawn_146 ?_
              refine q_X12_194 (m_breaks (q := dwX a (h + 1) % dwV σ.v a h 0 + 1) hS1 hI1.1 (by omega) (by omega)) dX12_drawn_147 rfl ?_
              rintro _ M2 ⟨rfl, hS2, hF2⟩
              first
                | (have hdr : ∃ M3 : Mem, M3 = (up1 M1 38 (6 + dwX a (h + 1) % dwV σ.v a h 0) (nI 99)) ∧ FS M1 M3 ∧ MsR M3 (drV (dwV σ.v a h) (dwX a (h + 1))) := by
                     unfold drV
                     first
                       | (rw [if_pos h_100]; exact ⟨_, rfl, FS.rf.up, hS1.set _ _⟩)
                       | (rw [if_neg h_100, if_pos ⟨h_126, by omega⟩]; exact ⟨_, rfl, hF2, hS2⟩)
                       | (rw [if_neg h_100, if_neg (fun z => by first | exact h_126 z.1 | omega)]; exact ⟨_, rfl, FS.rf, hS1⟩)
                   obtain ⟨_, rfl, hFd, hSd⟩ := hdr
                   have hId := drV_Iv hI1 (dwX a (h + 1))
                   refine x_aload_n dX12_drawn_150 rfl ?_
                   refine q_X12_203 (m_oneHour hSd hId) dX12_drawn_151 rfl ?_
                   rintro _ M4 ⟨rfl, hS4, hF4⟩
                   refine y_iinc dX12_drawn_154 rfl ?_
                   refine x_goto 61 dX12_drawn_157 ?_
                   exact ih (h + 1) _ _ ⟨by omega, hS4, (hA1.keep hFd).keep hF4, (hF1.s hFd).s hF4⟩)
                | (have hdr : ∃ M3 : Mem, M3 = M2 ∧ FS M1 M3 ∧ MsR M3 (drV (dwV σ.v a h) (dwX a (h + 1))) := by
                     unfold drV
                     first
                       | (rw [if_pos h_100]; exact ⟨_, rfl, FS.rf.up, hS1.set _ _⟩)
                       | (rw [if_neg h_100, if_pos ⟨h_126, by omega⟩]; exact ⟨_, rfl, hF2, hS2⟩)
                       | (rw [if_neg h_100, if_neg (fun z => by first | exact h_126 z.1 | omega)]; exact ⟨_, rfl, FS.rf, hS1⟩)
                   obtain ⟨_, rfl, hFd, hSd⟩ := hdr
                   have hId := drV_Iv hI1 (dwX a (h + 1))
                   refine x_aload_n dX12_drawn_150 rfl ?_
                   refine q_X12_203 (m_oneHour hSd hId) dX12_drawn_151 rfl ?_
                   rintro _ M4 ⟨rfl, hS4, hF4⟩
                   refine y_iinc dX12_drawn_154 rfl ?_
                   refine x_goto 61 dX12_drawn_157 ?_
                   exact ih (h + 1) _ _ ⟨by omega, hS4, (hA1.keep hFd).keep hF4, (hF1.s hFd).s hF4⟩)
                | (have hdr : ∃ M3 : Mem, M3 = M1 ∧ FS M1 M3 ∧ MsR M3 (drV (dwV σ.v a h) (dwX a (h + 1))) := by
                     unfold drV
                     first
                       | (rw [if_pos h_100]; exact ⟨_, rfl, FS.rf.up, hS1.set _ _⟩)
                       | (rw [if_neg h_100, if_pos ⟨h_126, by omega⟩]; exact ⟨_, rfl, hF2, hS2⟩)
                       | (rw [if_neg h_100, if_neg (fun z => by first | exact h_126 z.1 | omega)]; exact ⟨_, rfl, FS.rf, hS1⟩)
                   obtain ⟨_, rfl, hFd, hSd⟩ := hdr
                   have hId := drV_Iv hI1 (dwX a (h + 1))
                   refine x_aload_n dX12_drawn_150 rfl ?_
                   refine q_X12_203 (m_oneHour hSd hId) dX12_drawn_151 rfl ?_
                   rintro _ M4 ⟨rfl, hS4, hF4⟩
                   refine y_iinc dX12_drawn_154 rfl ?_
                   refine x_goto 61 dX12_drawn_157 ?_
                   exact ih (h + 1) _ _ ⟨by omega, hS4, (hA1.keep hFd).keep hF4, (hF1.s hFd).s hF4⟩)
        · refine x_aload_n dX12_drawn_103 rfl ?_
          refine g_X12_19 dX12_drawn_104 ?_
          refine x_bipush (v := nI 6) dX12_drawn_107 rfl ?_
          refine x_iload dX12_drawn_109 rfl ?_
          refine y_iadd dX12_drawn_111 ?_
          refine x_bipush (v := nI 99) dX12_drawn_112 rfl ?_
          refine x_ias dX12_drawn_114 (⟨by decide, rfl, rfl, by decide⟩ : Ar 38 45) (by omega) ?_
          refine x_goto 150 dX12_drawn_115 ?_
          first
            | (have hdr : ∃ M3 : Mem, M3 = (up1 M1 38 (6 + dwX a (h + 1) % dwV σ.v a h 0) (nI 99)) ∧ FS M1 M3 ∧ MsR M3 (drV (dwV σ.v a h) (dwX a (h + 1))) := by
                 unfold drV
                 first
                   | (rw [if_pos h_100]; exact ⟨_, rfl, FS.rf.up, hS1.set _ _⟩)
                   | (rw [if_neg h_100, if_pos ⟨h_126, by omega⟩]; exact ⟨_, rfl, hF2, hS2⟩)
                   | (rw [if_neg h_100, if_neg (fun z => by first | exact h_126 z.1 | omega)]; exact ⟨_, rfl, FS.rf, hS1⟩)
               obtain ⟨_, rfl, hFd, hSd⟩ := hdr
               have hId := drV_Iv hI1 (dwX a (h + 1))
               refine x_aload_n dX12_drawn_150 rfl ?_
               refine q_X12_203 (m_oneHour hSd hId) dX12_drawn_151 rfl ?_
               rintro _ M4 ⟨rfl, hS4, hF4⟩
               refine y_iinc dX12_drawn_154 rfl ?_
               refine x_goto 61 dX12_drawn_157 ?_
               exact ih (h + 1) _ _ ⟨by omega, hS4, (hA1.keep hFd).keep hF4, (hF1.s hFd).s hF4⟩)
            | (have hdr : ∃ M3 : Mem, M3 = M2 ∧ FS M1 M3 ∧ MsR M3 (drV (dwV σ.v a h) (dwX a (h + 1))) := by
                 unfold drV
                 first
                   | (rw [if_pos h_100]; exact ⟨_, rfl, FS.rf.up, hS1.set _ _⟩)
                   | (rw [if_neg h_100, if_pos ⟨h_126, by omega⟩]; exact ⟨_, rfl, hF2, hS2⟩)
                   | (rw [if_neg h_100, if_neg (fun z => by first | exact h_126 z.1 | omega)]; exact ⟨_, rfl, FS.rf, hS1⟩)
               obtain ⟨_, rfl, hFd, hSd⟩ := hdr
               have hId := drV_Iv hI1 (dwX a (h + 1))
               refine x_aload_n dX12_drawn_150 rfl ?_
               refine q_X12_203 (m_oneHour hSd hId) dX12_drawn_151 rfl ?_
               rintro _ M4 ⟨rfl, hS4, hF4⟩
               refine y_iinc dX12_drawn_154 rfl ?_
               refine x_goto 61 dX12_drawn_157 ?_
               exact ih (h + 1) _ _ ⟨by omega, hS4, (hA1.keep hFd).keep hF4, (hF1.s hFd).s hF4⟩)
            | (have hdr : ∃ M3 : Mem, M3 = M1 ∧ FS M1 M3 ∧ MsR M3 (drV (dwV σ.v a h) (dwX a (h + 1))) := by
                 unfold drV
                 first
                   | (rw [if_pos h_100]; exact ⟨_, rfl, FS.rf.up, hS1.set _ _⟩)
                   | (rw [if_neg h_100, if_pos ⟨h_126, by omega⟩]; exact ⟨_, rfl, hF2, hS2⟩)
                   | (rw [if_neg h_100, if_neg (fun z => by first | exact h_126 z.1 | omega)]; exact ⟨_, rfl, FS.rf, hS1⟩)
               obtain ⟨_, rfl, hFd, hSd⟩ := hdr
               have hId := drV_Iv hI1 (dwX a (h + 1))
               refine x_aload_n dX12_drawn_150 rfl ?_
               refine q_X12_203 (m_oneHour hSd hId) dX12_drawn_151 rfl ?_
               rintro _ M4 ⟨rfl, hS4, hF4⟩
               refine y_iinc dX12_drawn_154 rfl ?_
               refine x_goto 61 dX12_drawn_157 ?_
               exact ih (h + 1) _ _ ⟨by omega, hS4, (hA1.keep hFd).keep hF4, (hF1.s hFd).s hF4⟩)
  refine x_aload_n dX12_drawn_0 rfl ?_
  refine g_X12_147 dX12_drawn_1 ?_
  rw [hth]
  refine z_if_ne 10 dX12_drawn_4 (fun h_4 => ?_) (fun h_4 => ?_)
  · simp only [decide_eq_true_eq] at h_4
    obtain ⟨hI, h999⟩ : Iv σ.v ∧ σ.v 3 ≤ 999 := by
      rcases hLv with z | z
      · exact z
      · exact absurd (z 0 (by decide)) h_4
    refine x_iload_n dX12_drawn_10 rfl ?_
    refine x_i2l dX12_drawn_11 ?_
    refine x_lconst (v := lN 0) dX12_drawn_12 rfl ?_
    refine x_ldc2 (v := lN 60) dX12_drawn_13 k_X12_226 ?_
    refine q_X12_60 (m_inB (by decide) (by decide)) dX12_drawn_16 rfl ?_
    rintro _ _ ⟨rfl, rfl⟩
    refine z_if_eq 41 dX12_drawn_19 (fun h_19 => ?_) (fun h_19 => ?_)
    · refine x_ldc dX12_drawn_41 k_X12_70 ?_
      refine x_iret dX12_drawn_43 ?_
      refine ⟨congrArg (fun z => some (Value.int z)) ?_, hM, FrC.rf⟩
      first
        | (simp only [decide_eq_false_iff_not] at h_4
           simp [R_drawn, Decidable.not_not.mp h_4]; done)
        | (simp [R_drawn, *])
    · obtain ⟨n, n1, n2, rfl⟩ := inB_nI h_19 (by decide)
      have tn := tN_nI (g := n) (by omega)
      refine x_iload_n dX12_drawn_22 rfl ?_
      refine x_i2l dX12_drawn_23 ?_
      refine x_lconst (v := lN 1) dX12_drawn_24 rfl ?_
      refine x_ldc2 (v := lN 999999) dX12_drawn_25 k_X12_264 ?_
      refine q_X12_60 (m_inB (by decide) (by decide)) dX12_drawn_28 rfl ?_
      rintro _ _ ⟨rfl, rfl⟩
      refine z_if_eq 41 dX12_drawn_31 (fun h_31 => ?_) (fun h_31 => ?_)
      · refine x_ldc dX12_drawn_41 k_X12_70 ?_
        refine x_iret dX12_drawn_43 ?_
        refine ⟨congrArg (fun z => some (Value.int z)) ?_, hM, FrC.rf⟩
        first
          | (simp only [decide_eq_false_iff_not] at h_4
             simp [R_drawn, Decidable.not_not.mp h_4]; done)
          | (simp [R_drawn, *])
      · obtain ⟨a, a1, a2, rfl⟩ := inB_nI h_31 (by decide)
        have ta := tN_nI (g := a) (by omega)
        refine x_iload_n dX12_drawn_34 rfl ?_
        refine q_X12_231 (m_isWhat) dX12_drawn_35 rfl ?_
        rintro _ _ ⟨rfl, rfl⟩
        refine z_if_ne 44 dX12_drawn_38 (fun h_38 => ?_) (fun h_38 => ?_)
        · refine x_aload_n dX12_drawn_44 rfl ?_
          refine q_X12_228 (m_putAside hS) dX12_drawn_45 rfl ?_
          rintro _ M0 ⟨rfl, hA0, hF0⟩
          have hS0 := hS.fc hF0 (by decide)
          refine x_aload_n dX12_drawn_48 rfl ?_
          refine q_X12_234 (m_sumFell hS0 hw) dX12_drawn_49 rfl ?_
          rintro _ _ ⟨rfl, rfl⟩
          refine x_istore dX12_drawn_52 ?_
          refine x_iload_n dX12_drawn_54 rfl ?_
          refine y_i2l dX12_drawn_55 (by omega) ?_
          refine x_lstore dX12_drawn_56 ?_
          refine y_iconst (a := 0) dX12_drawn_58 rfl ?_
          refine x_istore dX12_drawn_59 ?_
          exact key n a n2 a1 a2 h_19 h_31 h_38 hI h999 n 0 M0 none ⟨by omega, hS0, hA0, FQ.rf.c hF0 (by omega)⟩
        · refine x_ldc dX12_drawn_41 k_X12_70 ?_
          refine x_iret dX12_drawn_43 ?_
          refine ⟨congrArg (fun z => some (Value.int z)) ?_, hM, FrC.rf⟩
          first
            | (simp only [decide_eq_false_iff_not] at h_4
               simp [R_drawn, Decidable.not_not.mp h_4]; done)
            | (simp [R_drawn, *])
  · refine x_ldc dX12_drawn_7 k_X12_197 ?_
    refine x_iret dX12_drawn_9 ?_
    refine ⟨congrArg (fun z => some (Value.int z)) ?_, hM, FrC.rf⟩
    first
      | (simp only [decide_eq_false_iff_not] at h_4
         simp [R_drawn, Decidable.not_not.mp h_4]; done)
      | (simp [R_drawn, *])
