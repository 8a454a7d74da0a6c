/-! THE REFERENCE: lake (laid by gen_m17.py) -/
theorem IM.lakeF {M M1 : Mem} {σ : Sg} (h : IM M σ) (hF : FTp M M1) (x : Int32) : IM (up1 (up1 M1 34 8 (nI 0)) 34 9 x) ((σ.uTape 0 σ.tb).uFl x) ∧ FrC M (up1 (up1 M1 34 8 (nI 0)) 34 9 x) := by
  obtain ⟨h1, h2, h3, h4, h5, h6, h7, h8, h9⟩ := h
  have e : ∀ d, d ≠ 34 → d ≠ 41 → (up1 (up1 M1 34 8 (nI 0)) 34 9 x).1 d = M.1 d := fun d a b => by rw [up1_ne _ _ _ a, up1_ne _ _ _ a]; exact hF.2.1 d a b
  have e34 : ∀ k, ¬ (8 ≤ k ∧ k ≤ 16) → (up1 (up1 M1 34 8 (nI 0)) 34 9 x).1 34 k = M.1 34 k := fun k hk => by rw [up1_at, if_neg (by omega), up1_at, if_neg (by omega)]; exact hF.2.2 k (by omega)
  refine ⟨⟨?_, ?_, ?_, ?_, ⟨?_, fun j hj => absurd hj (Nat.not_lt_zero _)⟩, ?_, ?_, ?_, ?_⟩, hF.1, fun c hc => e c (by omega) (by omega)⟩
  · intro r hr; rw [e 35 (by decide) (by decide), e 36 (by decide) (by decide), e 37 (by decide) (by decide)]; exact h1 r hr
  · rw [e34 3 (by omega)]; exact h2
  · rw [e34 4 (by omega)]; exact h3
  · intro k hk; rw [e 38 (by decide) (by decide)]; exact h4 k hk
  · rw [up1_at, if_neg (by decide), up1_at, if_pos ⟨rfl, rfl⟩]; rfl
  · rw [up1_at, if_pos ⟨rfl, rfl⟩]; rfl
  · unfold IMa; rw [e34 18 (by omega), e 42 (by decide) (by decide)]; exact h7
  · intro i hi; rw [e 46 (by decide) (by decide), e 47 (by decide) (by decide)]; exact h8 i hi
  · unfold IMc; rw [e34 25 (by omega), e 48 (by decide) (by decide)]; exact h9
set_option maxRecDepth 100000 in
set_option maxHeartbeats 4000000 in
theorem m_lake {Ω : Om} {l : Launch} {M : Mem} {σ : Sg} (hM : IM M σ) (hW : SgW σ)  : Ct Ω l yX12_lake cX12_lake 3 7 (some .int) [.ref (Ω.2.2 34)] M (fun ro M' => ro = some (.int (R_lake σ).1) ∧ IM M' (R_lake σ).2 ∧ FrC M M') := by
  have hS := hM.ms
  have hLv : Lv σ.v := hW.2.2.1
  have hw := hLv.wv
  have hn := hw.nums
  have hth := hM.there
  refine ct_of (by decide) (Nat.le_of_ble_eq_true rfl) ?_
  intro p e R s m args below meth c
  have hTW : TW (σ.tn, σ.tb) := hW.2.1
  have hb : TbM M (σ.tn, σ.tb) := hM.tape
  have key : ∀ (w : Nat → Nat) (M1 : Mem), pLake (σ.tn, σ.tb) = .inr w → RdM M1 w → w 5 = 2 ^ w 2 - 1 → w 2 ≤ 6 → FTp M M1 → ∀ (k h : Nat) (M2 : Mem), h + k = 45 → FC 38 (up1 M1 34 8 (nI 0)) M2 → (∀ j, j < h → M2.1 38 j = M1.1 41 j) → X (mkG p l e R s m args below meth c Ω (fun ro M' => ro = some (.int (R_lake σ).1) ∧ IM M' (R_lake σ).2 ∧ FrC M M')) Ω RX12 cX12_lake 3 7 (some .int) 32 [some (.ref (Ω.2.2 34)), some (.int (bI true)), some (.int (nI h))] [] M2 := by
    intro w M1 hpl hR h5 h26 hF k
    have hIw := (pLake_Iv hpl).1
    have hw0 : ¬ w 0 = 0 := by have := hIw.2.1; omega
    have hp := Nat.two_pow_pos (w 2)
    have hp6 := pow6 h26
    induction k with
    | zero =>
      intro h M2 hk hF2 hz
      refine x_iload_n dX12_lake_32 rfl ?_
      refine x_bipush (v := nI 45) dX12_lake_33 rfl ?_
      refine y_icmp_ge 56 dX12_lake_35 (by omega) (by omega) (fun h_35 => ?_) (fun h_35 => ?_)
      · refine x_aload_n dX12_lake_56 rfl ?_
        refine g_X12_19 dX12_lake_57 ?_
        refine y_iconst (a := 5) dX12_lake_60 rfl ?_
        refine y_iconst (a := 1) dX12_lake_61 rfl ?_
        refine x_aload_n dX12_lake_62 rfl ?_
        refine g_X12_19 dX12_lake_63 ?_
        refine y_iconst (a := 2) dX12_lake_66 rfl ?_
        refine x_ial dX12_lake_67 (⟨by decide, rfl, rfl, by decide⟩ : Ar 38 45) (by omega) ?_
        rw [hz 2 (by omega), hR.at (by decide) (by decide)]
        refine y_ishl dX12_lake_68 (by omega) ?_
        try rw [Nat.one_mul]
        refine y_iconst (a := 1) dX12_lake_69 rfl ?_
        refine y_isub dX12_lake_70 (by omega) ?_
        refine x_ias dX12_lake_71 (⟨by decide, rfl, rfl, by decide⟩ : Ar 38 45) (by omega) ?_
        refine x_aload_n dX12_lake_72 rfl ?_
        refine y_iconst (a := 1) dX12_lake_73 rfl ?_
        refine p_X12_147 (by first | exact Or.inl rfl | exact Or.inr rfl) dX12_lake_74 ?_
        refine x_aload_n dX12_lake_77 rfl ?_
        refine y_iconst (a := 0) dX12_lake_78 rfl ?_
        refine p_X12_151 dX12_lake_79 ?_
        refine x_aload_n dX12_lake_82 rfl ?_
        refine g_X12_19 dX12_lake_83 ?_
        refine y_iconst (a := 2) dX12_lake_86 rfl ?_
        refine x_ial dX12_lake_87 (⟨by decide, rfl, rfl, by decide⟩ : Ar 38 45) (by omega) ?_
        rw [up1_ne _ _ _ (by decide), up1_ne _ _ _ (by decide), up1_at, if_neg (by decide), hz 2 (by omega), hR.at (by decide) (by decide)]
        refine x_iret dX12_lake_88 ?_
        obtain rfl : h = 45 := by omega
        unfold R_lake
        rw [hpl]
        have e : ∀ d, d ≠ 34 → d ≠ 38 → d ≠ 41 → (up1 (up1 (up1 M2 38 5 (nI (2 ^ w 2 - 1))) 34 4 (nI 1)) 34 18 (nI 0)).1 d = M.1 d := fun d a b c => by rw [up1_ne _ _ _ a, up1_ne _ _ _ a, up1_ne _ _ _ b, hF2.2 d b, up1_ne _ _ _ a]; exact hF.2.1 d a c
        have e34 : ∀ k, (k = 3 ∨ k = 9 ∨ k = 25) → (up1 (up1 (up1 M2 38 5 (nI (2 ^ w 2 - 1))) 34 4 (nI 1)) 34 18 (nI 0)).1 34 k = M.1 34 k := fun k hk => by rw [up1_at, if_neg (by omega), up1_at, if_neg (by omega), up1_ne _ _ _ (by decide), hF2.2 34 (by decide), up1_at, if_neg (by omega)]; exact hF.2.2 k (by omega)
        obtain ⟨h1, h2, h3, h4, h5', h6, h7, h8, h9⟩ := hM
        refine ⟨rfl, ⟨?_, ?_, ?_, ?_, ⟨?_, fun j hj => absurd hj (Nat.not_lt_zero _)⟩, ?_, ⟨?_, fun i hi => absurd hi (Nat.not_lt_zero _)⟩, ?_, ?_⟩, ?_, fun c hc => e c (by omega) (by omega) (by omega)⟩
        · intro r hr; rw [e 35 (by decide) (by decide) (by decide), e 36 (by decide) (by decide) (by decide), e 37 (by decide) (by decide) (by decide)]; exact h1 r hr
        · rw [e34 3 (by omega)]; exact h2
        · rw [up1_at, if_neg (by decide), up1_at, if_pos ⟨rfl, rfl⟩]
          show nI 1 = bI (decide (¬ w 0 = 0))
          simp [hw0, bI, nI]
        · intro k hk
          show _ = nI (w k)
          rw [up1_ne _ _ _ (by decide), up1_ne _ _ _ (by decide), up1_at]
          by_cases z : k = 5
          · rw [if_pos ⟨rfl, z⟩, z, h5]
          · rw [if_neg (fun y => z y.2), hz k (by omega), hR k hk z]
        · rw [up1_at, if_neg (by decide), up1_at, if_neg (by decide), up1_ne _ _ _ (by decide), hF2.2 34 (by decide), up1_at, if_pos ⟨rfl, rfl⟩]; rfl
        · rw [e34 9 (by omega)]; exact h6
        · rw [up1_at, if_pos ⟨rfl, rfl⟩]; rfl
        · intro i hi; rw [e 46 (by decide) (by decide) (by decide), e 47 (by decide) (by decide) (by decide)]; exact h8 i hi
        · unfold IMc; rw [e34 25 (by omega), e 48 (by decide) (by decide) (by decide)]; exact h9
        · exact hF2.1.trans hF.1
      · exfalso; omega
    | succ k ih =>
      intro h M2 hk hF2 hz
      refine x_iload_n dX12_lake_32 rfl ?_
      refine x_bipush (v := nI 45) dX12_lake_33 rfl ?_
      refine y_icmp_ge 56 dX12_lake_35 (by omega) (by omega) (fun h_35 => ?_) (fun h_35 => ?_)
      · exfalso; omega
      · refine x_aload_n dX12_lake_38 rfl ?_
        refine g_X12_19 dX12_lake_39 ?_
        refine x_iload_n dX12_lake_42 rfl ?_
        refine x_aload_n dX12_lake_43 rfl ?_
        refine g_X12_28 dX12_lake_44 ?_
        refine x_iload_n dX12_lake_47 rfl ?_
        refine x_ial dX12_lake_48 (⟨by decide, rfl, rfl, by decide⟩ : Ar 41 45) (by omega) ?_
        rw [hF2.2 41 (by decide), up1_ne _ _ _ (by decide)]
        refine x_ias dX12_lake_49 (⟨by decide, rfl, rfl, by decide⟩ : Ar 38 45) (by omega) ?_
        refine y_iinc dX12_lake_50 rfl ?_
        refine x_goto 32 dX12_lake_53 ?_
        refine ih (h + 1) _ (by omega) hF2.up (fun j hj => ?_)
        rw [up1_at]
        by_cases z : j = h
        · rw [if_pos ⟨rfl, z⟩, z]
        · rw [if_neg (fun y => z y.2)]; exact hz j (by omega)
  refine x_aload_n dX12_lake_0 rfl ?_
  rcases hpl : pLake (σ.tn, σ.tb) with er | w
  · refine q_X12_140 (m_readLake hTW hb) dX12_lake_1 rfl ?_
    intro ro M1 hp1
    rw [hpl] at hp1
    obtain ⟨rfl, he, hF⟩ := hp1
    refine x_istore_n dX12_lake_4 ?_
    refine x_aload_n dX12_lake_5 rfl ?_
    refine y_iconst (a := 0) dX12_lake_6 rfl ?_
    refine p_X12_84 dX12_lake_7 ?_
    refine x_iload_n dX12_lake_10 rfl ?_
    refine z_if_ne 30 dX12_lake_11 (fun h_11 => ?_) (fun h_11 => ?_)
    · exact absurd h_11 (by decide)
    · refine x_aload_n dX12_lake_14 rfl ?_
      refine x_aload_n dX12_lake_15 rfl ?_
      refine g_X12_108 dX12_lake_16 ?_
      rw [up1_at, if_neg (by decide), he.1]
      refine p_X12_143 dX12_lake_19 ?_
      refine x_ldc dX12_lake_22 k_X12_146 ?_
      refine x_aload_n dX12_lake_24 rfl ?_
      refine g_X12_91 dX12_lake_25 ?_
      rw [up1_at, if_neg (by decide), up1_at, if_neg (by decide), he.2]
      refine x_isub dX12_lake_28 ?_
      refine x_iret dX12_lake_29 ?_
      unfold R_lake
      rw [hpl]
      exact ⟨rfl, hM.lakeF hF _⟩
  · refine q_X12_140 (m_readLake hTW hb) dX12_lake_1 rfl ?_
    intro ro M1 hp1
    rw [hpl] at hp1
    obtain ⟨rfl, hR, h5, h26, hF⟩ := hp1
    refine x_istore_n dX12_lake_4 ?_
    refine x_aload_n dX12_lake_5 rfl ?_
    refine y_iconst (a := 0) dX12_lake_6 rfl ?_
    refine p_X12_84 dX12_lake_7 ?_
    refine x_iload_n dX12_lake_10 rfl ?_
    refine z_if_ne 30 dX12_lake_11 (fun h_11 => ?_) (fun h_11 => ?_)
    · refine y_iconst (a := 0) dX12_lake_30 rfl ?_
      refine x_istore_n dX12_lake_31 ?_
      exact key w M1 hpl hR h5 h26 hF 45 0 _ rfl FC.rf (fun j hj => absurd hj (Nat.not_lt_zero _))
    · exact absurd h_11 (by decide)
