/-! THE REFERENCE: acts, hours, images (laid by gen_m12.py) -/
section
variable {M M' : Mem} {σ : Sg}
theorem IM.setLake (h : IM M σ) {w : Nat → Nat} {i : Nat} {j : Nat → Nat → Nat} (hS : MsR M' w) (ha : IMa M' (σ.uLake w i j)) (h4 : M'.1 34 4 = bI (decide (¬ w 0 = 0))) (e34 : ∀ k, (k = 3 ∨ k = 8 ∨ k = 9 ∨ k = 25) → M'.1 34 k = M.1 34 k) (e : ∀ d, (d = 35 ∨ d = 36 ∨ d = 37 ∨ d = 40 ∨ d = 46 ∨ d = 47 ∨ d = 48) → M'.1 d = M.1 d) : IM M' (σ.uLake w i j) := by
  obtain ⟨h1, h2, h3, h4', h5, h6, h7, h8, h9⟩ := h
  refine ⟨?_, ?_, h4, hS, ?_, ?_, ha, ?_, ?_⟩
  · intro r hr; rw [e 35 (by omega), e 36 (by omega), e 37 (by omega)]; exact h1 r hr
  · rw [e34 3 (by omega)]; exact h2
  · unfold IMt; rw [e34 8 (by omega), e 40 (by omega)]; exact h5
  · rw [e34 9 (by omega)]; exact h6
  · intro k hk; rw [e 46 (by omega), e 47 (by omega)]; exact h8 k hk
  · unfold IMc; rw [e34 25 (by omega), e 48 (by omega)]; exact h9
/-- only the lake's numbers change -/
theorem IM.setV (h : IM M σ) {w : Nat → Nat} (hS : MsR M' w) (hF : FS M M') (h0 : w 0 = σ.v 0) : IM M' (σ.uLake w σ.am σ.ah) := by
  refine h.setLake hS ?_ ?_ (fun k _ => by rw [hF.2 34 (by decide)]) (fun d hd => hF.2 d (by omega))
  · unfold IMa; rw [hF.2 34 (by decide), hF.2 42 (by decide)]; exact h.acts
  · rw [hF.2 34 (by decide), h0]; exact h.there
theorem IM.setIm (h : IM M σ) {f : Nat → Option (Nat → Nat)} (hi : IMi M' (σ.uIm f)) (e : ∀ d, (d = 34 ∨ d = 35 ∨ d = 36 ∨ d = 37 ∨ d = 38 ∨ d = 40 ∨ d = 42 ∨ d = 48) → M'.1 d = M.1 d) : IM M' (σ.uIm f) := by
  obtain ⟨h1, h2, h3, h4, h5, h6, h7, h8, h9⟩ := h
  refine ⟨?_, ?_, ?_, ?_, ?_, ?_, ?_, hi, ?_⟩
  · intro r hr; rw [e 35 (by omega), e 36 (by omega), e 37 (by omega)]; exact h1 r hr
  · rw [e 34 (by omega)]; exact h2
  · rw [e 34 (by omega)]; exact h3
  · intro k hk; rw [e 38 (by omega)]; exact h4 k hk
  · unfold IMt; rw [e 34 (by omega), e 40 (by omega)]; exact h5
  · rw [e 34 (by omega)]; exact h6
  · unfold IMa; rw [e 34 (by omega), e 42 (by omega)]; exact h7
  · unfold IMc; rw [e 34 (by omega), e 48 (by omega)]; exact h9
end
/-- who has an image has had a lake -/
def SgX (σ : Sg) : Prop := ∀ i, i < 2 → (σ.im i).isSome = true → ¬ σ.v 0 = 0
theorem act_eq (σ : Sg) (w : Nat → Nat) : (σ.uLake σ.v (nA σ) (nH σ)).uLake w (nA σ) (nH σ) = σ.act w := rfl

set_option maxRecDepth 100000 in
set_option maxHeartbeats 4000000 in
theorem m_note {Ω : Om} {l : Launch} {M : Mem} {σ : Sg} (hM : IM M σ) (hW : SgW σ)  : Ct Ω l yX12_note cX12_note 2 1 none [.ref (Ω.2.2 34)] M (fun ro M' => ro = none ∧ IM M' (σ.uLake σ.v (nA σ) (nH σ)) ∧ FrC M M') := by
  have hS := hM.ms
  have hLv : Lv σ.v := hW.2.2.1
  have hw := hLv.wv
  have hn := hw.nums
  have hth := hM.there
  refine ct_of (by decide) (Nat.le_of_ble_eq_true rfl) ?_
  intro p e R s m args below meth c
  have h24 := hW.2.2.2.1
  have key2 : ∀ (a : Nat) (M0 : Mem), a < 24 → (∀ d, d ≠ 34 → d ≠ 42 → M0.1 d = M.1 d) → (∀ k, k ≠ 18 → M0.1 34 k = M.1 34 k) → M0.1 34 18 = nI a → M0.2 = M.2 → (∀ N : Mem, N.1 34 18 = nI (a + 1) → (∀ k, k < 45 → N.1 42 (45 * a + k) = nI (σ.v k)) → (∀ j, j < 45 * a → N.1 42 j = M0.1 42 j) → IMa N (σ.uLake σ.v (nA σ) (nH σ))) → ∀ (k h : Nat) (M1 : Mem), h + k = 45 → FC 42 M0 M1 → (∀ j, M1.1 42 j = if 45 * a ≤ j ∧ j < 45 * a + h then nI (σ.v (j - 45 * a)) else M0.1 42 j) → X (mkG p l e R s m args below meth c Ω (fun ro M' => ro = none ∧ IM M' (σ.uLake σ.v (nA σ) (nH σ)) ∧ FrC M M')) Ω RX12 cX12_note 2 1 none 51 [some (.ref (Ω.2.2 34)), some (.int (nI h))] [] M1 := by
    intro a M0 ha e0 e34 e18 e2 hfin k
    induction k with
    | zero =>
      intro h M1 hk hF hz
      have e18b : M1.1 34 18 = nI a := by rw [hF.2 34 (by decide)]; exact e18
      refine x_iload_n dX12_note_51 rfl ?_
      refine x_bipush (v := nI 45) dX12_note_52 rfl ?_
      refine y_icmp_ge 83 dX12_note_54 (by omega) (by omega) (fun h_54 => ?_) (fun h_54 => ?_)
      · refine x_aload_n dX12_note_83 rfl ?_
        refine x_dup dX12_note_84 rfl ?_
        refine g_X12_151 dX12_note_85 ?_
        rw [e18b]
        refine y_iconst (a := 1) dX12_note_88 rfl ?_
        refine y_iadd dX12_note_89 ?_
        refine p_X12_151 dX12_note_90 ?_
        refine x_vret dX12_note_93 ?_
        obtain rfl : h = 45 := by omega
        have hM4 : ∀ d, d ≠ 34 → d ≠ 42 → (up1 M1 34 18 (nI (a + 1))).1 d = M.1 d := fun d d1 d2 => by rw [up1_ne _ _ _ d1, hF.2 d d2]; exact e0 d d1 d2
        refine ⟨rfl, hM.setLake (fun k hk => by rw [hM4 38 (by decide) (by decide)]; exact hS k hk) (hfin _ (by rw [up1_at, if_pos ⟨rfl, rfl⟩]) (fun k hk => ?_) (fun j hj => ?_)) ?_ (fun k hk => ?_) (fun d hd => hM4 d (by omega) (by omega)), ?_, fun c hc => hM4 c (by omega) (by omega)⟩
        · rw [up1_ne _ _ _ (by decide), hz, if_pos (by omega), show 45 * a + k - 45 * a = k by omega]
        · rw [up1_ne _ _ _ (by decide), hz, if_neg (by omega)]
        · rw [up1_at, if_neg (by decide), hF.2 34 (by decide), e34 4 (by decide)]; exact hth
        · rw [up1_at, if_neg (by omega), hF.2 34 (by decide), e34 k (by omega)]
        · exact hF.1.trans e2
      · exfalso; omega
    | succ k ih =>
      intro h M1 hk hF hz
      have e18b : M1.1 34 18 = nI a := by rw [hF.2 34 (by decide)]; exact e18
      refine x_iload_n dX12_note_51 rfl ?_
      refine x_bipush (v := nI 45) dX12_note_52 rfl ?_
      refine y_icmp_ge 83 dX12_note_54 (by omega) (by omega) (fun h_54 => ?_) (fun h_54 => ?_)
      · exfalso; omega
      · refine x_aload_n dX12_note_57 rfl ?_
        refine g_X12_31 dX12_note_58 ?_
        refine x_bipush (v := nI 45) dX12_note_61 rfl ?_
        refine x_aload_n dX12_note_63 rfl ?_
        refine g_X12_151 dX12_note_64 ?_
        rw [e18b]
        refine y_imul dX12_note_67 ?_
        refine x_iload_n dX12_note_68 rfl ?_
        refine y_iadd dX12_note_69 ?_
        refine x_aload_n dX12_note_70 rfl ?_
        refine g_X12_19 dX12_note_71 ?_
        refine x_iload_n dX12_note_74 rfl ?_
        refine x_ial dX12_note_75 (⟨by decide, rfl, rfl, by decide⟩ : Ar 38 45) (by omega) ?_
        rw [hF.2 38 (by decide), e0 38 (by decide) (by decide), hS.at (by omega)]
        refine x_ias dX12_note_76 (⟨by decide, rfl, rfl, by decide⟩ : Ar 42 1080) (by omega) ?_
        refine y_iinc dX12_note_77 rfl ?_
        refine x_goto 51 dX12_note_80 ?_
        refine ih (h + 1) _ (by omega) hF.up (fun j => ?_)
        rw [up1_at]
        by_cases z : j = 45 * a + h
        · rw [if_pos ⟨rfl, z⟩, if_pos (by omega), show j - 45 * a = h by omega]
        · rw [if_neg (fun y => z y.2), hz]
          by_cases y : 45 * a ≤ j ∧ j < 45 * a + h
          · rw [if_pos y, if_pos (by omega)]
          · rw [if_neg y, if_neg (by omega)]
  have key1 : ∀ (k h : Nat) (M1 : Mem), σ.am = 24 → h + k = 1035 → FC 42 M M1 → (∀ j, j < 1080 → M1.1 42 j = if j < h then M.1 42 (j + 45) else M.1 42 j) → X (mkG p l e R s m args below meth c Ω (fun ro M' => ro = none ∧ IM M' (σ.uLake σ.v (nA σ) (nH σ)) ∧ FrC M M')) Ω RX12 cX12_note 2 1 none 11 [some (.ref (Ω.2.2 34)), some (.int (nI h))] [] M1 := by
    intro k
    induction k with
    | zero =>
      intro h M1 h24b hk hF hz
      refine x_iload_n dX12_note_11 rfl ?_
      refine x_sipush (v := nI 1035) dX12_note_12 rfl ?_
      refine y_icmp_ge 39 dX12_note_15 (by omega) (by omega) (fun h_15 => ?_) (fun h_15 => ?_)
      · refine x_aload_n dX12_note_39 rfl ?_
        refine x_dup dX12_note_40 rfl ?_
        refine g_X12_151 dX12_note_41 ?_
        rw [hF.2 34 (by decide), hM.acts.1, h24b]
        refine y_iconst (a := 1) dX12_note_44 rfl ?_
        refine y_isub dX12_note_45 (by omega) ?_
        refine p_X12_151 dX12_note_46 ?_
        refine y_iconst (a := 0) dX12_note_49 rfl ?_
        refine x_istore_n dX12_note_50 ?_
        obtain rfl : h = 1035 := by omega
        refine key2 23 (up1 M1 34 18 (nI (24 - 1))) (by decide) (fun d d1 d2 => by rw [up1_ne _ _ _ d1]; exact hF.2 d d2) (fun k hk => by rw [up1_at, if_neg (fun y => hk y.2), hF.2 34 (by decide)]) (by rw [up1_at, if_pos ⟨rfl, rfl⟩]) hF.1 (fun N n1 n2 n3 => ?_) 45 0 _ rfl FC.rf (fun j => by rw [if_neg (by omega)])
        refine ⟨by rw [n1]; show _ = nI (nA σ); unfold nA; rw [if_neg (by omega)], fun i hi k hk => ?_⟩
        have hi2 : i < 24 := by have q : i < nA σ := hi; unfold nA at q; rw [if_neg (by omega)] at q; exact q
        show _ = nI (nH σ i k)
        unfold nH
        rw [if_neg (by omega)]
        by_cases z : i = 23
        · subst z
          rw [n2 k hk]; simp
        · rw [n3 _ (by omega), up1_ne _ _ _ (by decide), hz _ (by omega), if_pos (by omega), show 45 * i + k + 45 = 45 * (i + 1) + k by omega, hM.acts.2 (i + 1) (by omega) k hk]
          simp [z]
      · exfalso; omega
    | succ k ih =>
      intro h M1 h24b hk hF hz
      refine x_iload_n dX12_note_11 rfl ?_
      refine x_sipush (v := nI 1035) dX12_note_12 rfl ?_
      refine y_icmp_ge 39 dX12_note_15 (by omega) (by omega) (fun h_15 => ?_) (fun h_15 => ?_)
      · exfalso; omega
      · refine x_aload_n dX12_note_18 rfl ?_
        refine g_X12_31 dX12_note_19 ?_
        refine x_iload_n dX12_note_22 rfl ?_
        refine x_aload_n dX12_note_23 rfl ?_
        refine g_X12_31 dX12_note_24 ?_
        refine x_iload_n dX12_note_27 rfl ?_
        refine x_bipush (v := nI 45) dX12_note_28 rfl ?_
        refine y_iadd dX12_note_30 ?_
        refine x_ial dX12_note_31 (⟨by decide, rfl, rfl, by decide⟩ : Ar 42 1080) (by omega) ?_
        rw [hz (h + 45) (by omega), if_neg (by omega)]
        refine x_ias dX12_note_32 (⟨by decide, rfl, rfl, by decide⟩ : Ar 42 1080) (by omega) ?_
        refine y_iinc dX12_note_33 rfl ?_
        refine x_goto 11 dX12_note_36 ?_
        refine ih (h + 1) _ h24b (by omega) hF.up (fun j hj => ?_)
        rw [up1_at]
        by_cases z : j = h
        · rw [if_pos ⟨rfl, z⟩, if_pos (by omega), z]
        · rw [if_neg (fun y => z y.2), hz j hj]
          by_cases y : j < h
          · rw [if_pos y, if_pos (by omega)]
          · rw [if_neg y, if_neg (by omega)]
  refine x_aload_n dX12_note_0 rfl ?_
  refine g_X12_151 dX12_note_1 ?_
  rw [hM.acts.1]
  refine x_bipush (v := nI 24) dX12_note_4 rfl ?_
  refine y_icmp_ne 49 dX12_note_6 (by omega) (by omega) (fun h_6 => ?_) (fun h_6 => ?_)
  · refine y_iconst (a := 0) dX12_note_49 rfl ?_
    refine x_istore_n dX12_note_50 ?_
    refine key2 σ.am M (by omega) (fun _ _ _ => rfl) (fun _ _ => rfl) hM.acts.1 rfl (fun N n1 n2 n3 => ?_) 45 0 M rfl FC.rf (fun j => by rw [if_neg (by omega)])
    refine ⟨by rw [n1]; show _ = nI (nA σ); unfold nA; rw [if_pos (by omega)], fun i hi k hk => ?_⟩
    have hi2 : i < σ.am + 1 := by have q : i < nA σ := hi; unfold nA at q; rw [if_pos (by omega)] at q; exact q
    show _ = nI (nH σ i k)
    unfold nH
    rw [if_pos (by omega)]
    by_cases z : i = σ.am
    · subst z
      rw [n2 k hk]; simp
    · rw [n3 _ (by omega), hM.acts.2 i (by omega) k hk]
      simp [z]
  · refine y_iconst (a := 0) dX12_note_9 rfl ?_
    refine x_istore_n dX12_note_10 ?_
    exact key1 1035 0 M (by omega) rfl FC.rf (fun j hj => by rw [if_neg (by omega)])
set_option maxRecDepth 100000 in
set_option maxHeartbeats 4000000 in
theorem m_begin {Ω : Om} {l : Launch} {M : Mem} {σ : Sg} (hM : IM M σ) (hW : SgW σ) {x n : Int32} : Ct Ω l yX12_begin cX12_begin 4 3 (some .int) [.ref (Ω.2.2 34), .int x, .int n] M (fun ro M' => ro = some (.int (R_begin σ x n).1) ∧ IM M' (R_begin σ x n).2 ∧ FrC M M') := by
  have hS := hM.ms
  have hLv : Lv σ.v := hW.2.2.1
  have hw := hLv.wv
  have hn := hw.nums
  have hth := hM.there
  refine ct_of (by decide) (Nat.le_of_ble_eq_true rfl) ?_
  intro p e R s m args below meth c
  refine x_aload_n dX12_begin_0 rfl ?_
  refine x_iload_n dX12_begin_1 rfl ?_
  refine q_X12_209 (m_isGoer hS (by omega)) dX12_begin_2 rfl ?_
  rintro _ _ ⟨rfl, rfl⟩
  refine z_if_eq 20 dX12_begin_5 (fun h_5 => ?_) (fun h_5 => ?_)
  · refine x_ldc dX12_begin_20 k_X12_70 ?_
    refine x_iret dX12_begin_22 ?_
    unfold R_begin
    first
      | (rw [if_neg (by simp [*])]; exact ⟨rfl, hM, FrC.rf⟩)
      | (rw [if_pos ⟨h_5, h_17⟩, tg, tn]
         exact ⟨rfl, hM1.setV (hS1.set _ _) FS.rf.up (sv_ne _ _ (by omega)), hC1.up (by decide)⟩)
  · obtain ⟨g, hg, rfl⟩ := inR_nI h_5 (by omega)
    obtain ⟨hI, h999⟩ := hLv.goer hg
    have tg := tN_nI (g := g) (by omega)
    have hgo := hw.goer hg
    refine x_iload_n dX12_begin_8 rfl ?_
    refine x_i2l dX12_begin_9 ?_
    refine x_lconst (v := lN 0) dX12_begin_10 rfl ?_
    refine x_ldc2 (v := lN 30) dX12_begin_11 k_X12_212 ?_
    refine q_X12_60 (m_inB (by decide) (by decide)) dX12_begin_14 rfl ?_
    rintro _ _ ⟨rfl, rfl⟩
    refine z_if_ne 23 dX12_begin_17 (fun h_17 => ?_) (fun h_17 => ?_)
    · obtain ⟨n, n1, n2, rfl⟩ := inB_nI h_17 (by decide)
      have tn := tN_nI (g := n) (by omega)
      refine x_aload_n dX12_begin_23 rfl ?_
      refine q_X12_200 (m_note hM hW) dX12_begin_24 rfl ?_
      rintro _ M1 ⟨rfl, hM1, hC1⟩
      have hS1 : MsR M1 σ.v := hM1.ms
      refine x_aload_n dX12_begin_27 rfl ?_
      refine g_X12_19 dX12_begin_28 ?_
      refine x_bipush (v := nI 27) dX12_begin_31 rfl ?_
      refine x_iload_n dX12_begin_33 rfl ?_
      refine y_iadd dX12_begin_34 ?_
      refine x_ial dX12_begin_35 (⟨by decide, rfl, rfl, by decide⟩ : Ar 38 45) (by omega) ?_
      rw [hS1.at (by omega)]
      refine x_istore_n dX12_begin_36 ?_
      refine x_aload_n dX12_begin_37 rfl ?_
      refine g_X12_19 dX12_begin_38 ?_
      refine x_bipush (v := nI 27) dX12_begin_41 rfl ?_
      refine x_iload_n dX12_begin_43 rfl ?_
      refine y_iadd dX12_begin_44 ?_
      refine x_iload_n dX12_begin_45 rfl ?_
      refine x_ias dX12_begin_46 (⟨by decide, rfl, rfl, by decide⟩ : Ar 38 45) (by omega) ?_
      refine x_iload_n dX12_begin_47 rfl ?_
      refine x_iret dX12_begin_48 ?_
      unfold R_begin
      first
        | (rw [if_neg (by simp [*])]; exact ⟨rfl, hM, FrC.rf⟩)
        | (rw [if_pos ⟨h_5, h_17⟩, tg, tn]
           exact ⟨rfl, hM1.setV (hS1.set _ _) FS.rf.up (sv_ne _ _ (by omega)), hC1.up (by decide)⟩)
    · refine x_ldc dX12_begin_20 k_X12_70 ?_
      refine x_iret dX12_begin_22 ?_
      unfold R_begin
      first
        | (rw [if_neg (by simp [*])]; exact ⟨rfl, hM, FrC.rf⟩)
        | (rw [if_pos ⟨h_5, h_17⟩, tg, tn]
           exact ⟨rfl, hM1.setV (hS1.set _ _) FS.rf.up (sv_ne _ _ (by omega)), hC1.up (by decide)⟩)
set_option maxRecDepth 100000 in
set_option maxHeartbeats 4000000 in
theorem m_mend {Ω : Om} {l : Launch} {M : Mem} {σ : Sg} (hM : IM M σ) (hW : SgW σ) {x : Int32} : Ct Ω l yX12_mend cX12_mend 3 3 (some .int) [.ref (Ω.2.2 34), .int x] M (fun ro M' => ro = some (.int (R_mend σ x).1) ∧ IM M' (R_mend σ x).2 ∧ FrC M M') := by
  have hS := hM.ms
  have hLv : Lv σ.v := hW.2.2.1
  have hw := hLv.wv
  have hn := hw.nums
  have hth := hM.there
  refine ct_of (by decide) (Nat.le_of_ble_eq_true rfl) ?_
  intro p e R s m args below meth c
  refine x_aload_n dX12_mend_0 rfl ?_
  refine x_iload_n dX12_mend_1 rfl ?_
  refine q_X12_214 (m_isRung hS (by omega)) dX12_mend_2 rfl ?_
  rintro _ _ ⟨rfl, rfl⟩
  refine z_if_ne 11 dX12_mend_5 (fun h_5 => ?_) (fun h_5 => ?_)
  · obtain ⟨r, hr, rfl⟩ := inR_nI h_5 (by omega)
    obtain ⟨hI, h999⟩ := hLv.rung hr
    have tr := tN_nI (g := r) (by omega)
    have hst := hw.str (p := r + 1) (by omega)
    refine x_aload_n dX12_mend_11 rfl ?_
    refine q_X12_200 (m_note hM hW) dX12_mend_12 rfl ?_
    rintro _ M1 ⟨rfl, hM1, hC1⟩
    have hS1 : MsR M1 σ.v := hM1.ms
    refine x_aload_n dX12_mend_15 rfl ?_
    refine g_X12_19 dX12_mend_16 ?_
    refine x_bipush (v := nI 6) dX12_mend_19 rfl ?_
    refine x_iload_n dX12_mend_21 rfl ?_
    refine y_iadd dX12_mend_22 ?_
    refine x_ial dX12_mend_23 (⟨by decide, rfl, rfl, by decide⟩ : Ar 38 45) (by omega) ?_
    rw [hS1.at (by omega)]
    refine x_istore_n dX12_mend_24 ?_
    refine x_aload_n dX12_mend_25 rfl ?_
    refine g_X12_19 dX12_mend_26 ?_
    refine x_bipush (v := nI 6) dX12_mend_29 rfl ?_
    refine x_iload_n dX12_mend_31 rfl ?_
    refine y_iadd dX12_mend_32 ?_
    refine x_bipush (v := nI 99) dX12_mend_33 rfl ?_
    refine x_ias dX12_mend_35 (⟨by decide, rfl, rfl, by decide⟩ : Ar 38 45) (by omega) ?_
    refine x_iload_n dX12_mend_36 rfl ?_
    refine x_iret dX12_mend_37 ?_
    unfold R_mend
    first
      | (rw [if_neg (by simp [*])]; exact ⟨rfl, hM, FrC.rf⟩)
      | (rw [if_pos h_5, tr]
         exact ⟨rfl, hM1.setV (hS1.set _ _) FS.rf.up (sv_ne _ _ (by omega)), hC1.up (by decide)⟩)
  · refine x_ldc dX12_mend_8 k_X12_70 ?_
    refine x_iret dX12_mend_10 ?_
    unfold R_mend
    first
      | (rw [if_neg (by simp [*])]; exact ⟨rfl, hM, FrC.rf⟩)
      | (rw [if_pos h_5, tr]
         exact ⟨rfl, hM1.setV (hS1.set _ _) FS.rf.up (sv_ne _ _ (by omega)), hC1.up (by decide)⟩)
set_option maxRecDepth 100000 in
set_option maxHeartbeats 4000000 in
theorem m_takeOut {Ω : Om} {l : Launch} {M : Mem} {σ : Sg} (hM : IM M σ) (hW : SgW σ) {x : Int32} : Ct Ω l yX12_takeOut cX12_takeOut 3 3 (some .int) [.ref (Ω.2.2 34), .int x] M (fun ro M' => ro = some (.int (R_takeOut σ x).1) ∧ IM M' (R_takeOut σ x).2 ∧ FrC M M') := by
  have hS := hM.ms
  have hLv : Lv σ.v := hW.2.2.1
  have hw := hLv.wv
  have hn := hw.nums
  have hth := hM.there
  refine ct_of (by decide) (Nat.le_of_ble_eq_true rfl) ?_
  intro p e R s m args below meth c
  refine x_aload_n dX12_takeOut_0 rfl ?_
  refine x_iload_n dX12_takeOut_1 rfl ?_
  refine q_X12_214 (m_isRung hS (by omega)) dX12_takeOut_2 rfl ?_
  rintro _ _ ⟨rfl, rfl⟩
  refine z_if_ne 11 dX12_takeOut_5 (fun h_5 => ?_) (fun h_5 => ?_)
  · obtain ⟨r, hr, rfl⟩ := inR_nI h_5 (by omega)
    obtain ⟨hI, h999⟩ := hLv.rung hr
    have tr := tN_nI (g := r) (by omega)
    have hst := hw.str (p := r + 1) (by omega)
    rw [show 5 + (r + 1) = 6 + r by omega] at hst
    refine x_aload_n dX12_takeOut_11 rfl ?_
    refine g_X12_19 dX12_takeOut_12 ?_
    refine x_bipush (v := nI 6) dX12_takeOut_15 rfl ?_
    refine x_iload_n dX12_takeOut_17 rfl ?_
    refine y_iadd dX12_takeOut_18 ?_
    refine x_ial dX12_takeOut_19 (⟨by decide, rfl, rfl, by decide⟩ : Ar 38 45) (by omega) ?_
    rw [hS.at (by omega)]
    refine y_if_ne 26 dX12_takeOut_20 (by omega) (fun h_20 => ?_) (fun h_20 => ?_)
    · refine x_aload_n dX12_takeOut_26 rfl ?_
      refine q_X12_200 (m_note hM hW) dX12_takeOut_27 rfl ?_
      rintro _ M1 ⟨rfl, hM1, hC1⟩
      have hS1 : MsR M1 σ.v := hM1.ms
      refine x_aload_n dX12_takeOut_30 rfl ?_
      refine x_iload_n dX12_takeOut_31 rfl ?_
      refine y_iconst (a := 1) dX12_takeOut_32 rfl ?_
      refine y_iadd dX12_takeOut_33 ?_
      refine q_X12_160 (m_whoOn hS1 hw (by omega)) dX12_takeOut_34 rfl ?_
      rintro _ _ ⟨rfl, rfl⟩
      refine x_istore_n dX12_takeOut_37 ?_
      refine x_aload_n dX12_takeOut_38 rfl ?_
      refine x_iload_n dX12_takeOut_39 rfl ?_
      refine y_iconst (a := 1) dX12_takeOut_40 rfl ?_
      refine y_iadd dX12_takeOut_41 ?_
      refine q_X12_194 (m_breaks (q := r + 1) hS1 hw (by omega) (by omega)) dX12_takeOut_42 rfl ?_
      rintro _ M2 ⟨rfl, hS2, hF2⟩
      refine x_iload_n dX12_takeOut_45 rfl ?_
      refine x_iret dX12_takeOut_46 ?_
      unfold R_takeOut
      first
        | (rw [if_neg (by simp [*])]; exact ⟨rfl, hM, FrC.rf⟩)
        | (rw [if_pos h_5, tr, if_pos h_20]; exact ⟨rfl, hM, FrC.rf⟩)
        | (rw [if_pos h_5, tr, if_neg h_20]
           exact ⟨rfl, hM1.setV hS2 hF2 (bkV_ne (by omega) (by omega) (Or.inl (by omega)) (by omega)), hC1.fs hF2⟩)
    · refine x_ldc dX12_takeOut_23 k_X12_197 ?_
      refine x_iret dX12_takeOut_25 ?_
      unfold R_takeOut
      first
        | (rw [if_neg (by simp [*])]; exact ⟨rfl, hM, FrC.rf⟩)
        | (rw [if_pos h_5, tr, if_pos h_20]; exact ⟨rfl, hM, FrC.rf⟩)
        | (rw [if_pos h_5, tr, if_neg h_20]
           exact ⟨rfl, hM1.setV hS2 hF2 (bkV_ne (by omega) (by omega) (Or.inl (by omega)) (by omega)), hC1.fs hF2⟩)
  · refine x_ldc dX12_takeOut_8 k_X12_70 ?_
    refine x_iret dX12_takeOut_10 ?_
    unfold R_takeOut
    first
      | (rw [if_neg (by simp [*])]; exact ⟨rfl, hM, FrC.rf⟩)
      | (rw [if_pos h_5, tr, if_pos h_20]; exact ⟨rfl, hM, FrC.rf⟩)
      | (rw [if_pos h_5, tr, if_neg h_20]
         exact ⟨rfl, hM1.setV hS2 hF2 (bkV_ne (by omega) (by omega) (Or.inl (by omega)) (by omega)), hC1.fs hF2⟩)
set_option maxRecDepth 100000 in
set_option maxHeartbeats 4000000 in
theorem m_hold {Ω : Om} {l : Launch} {M : Mem} {σ : Sg} (hM : IM M σ) (hW : SgW σ) {x w : Int32} : Ct Ω l yX12_hold cX12_hold 3 3 (some .int) [.ref (Ω.2.2 34), .int x, .int w] M (fun ro M' => ro = some (.int (R_hold σ x w).1) ∧ IM M' (R_hold σ x w).2 ∧ FrC M M') := by
  have hS := hM.ms
  have hLv : Lv σ.v := hW.2.2.1
  have hw := hLv.wv
  have hn := hw.nums
  have hth := hM.there
  refine ct_of (by decide) (Nat.le_of_ble_eq_true rfl) ?_
  intro p e R s m args below meth c
  refine x_aload_n dX12_hold_0 rfl ?_
  refine x_iload_n dX12_hold_1 rfl ?_
  refine q_X12_209 (m_isGoer hS (by omega)) dX12_hold_2 rfl ?_
  rintro _ _ ⟨rfl, rfl⟩
  refine z_if_eq 18 dX12_hold_5 (fun h_5 => ?_) (fun h_5 => ?_)
  · refine x_ldc dX12_hold_18 k_X12_70 ?_
    refine x_iret dX12_hold_20 ?_
    unfold R_hold
    first
      | (rw [if_neg (by simp [*])]; exact ⟨rfl, hM, FrC.rf⟩)
      | (have hcond : hld σ.v g = decide (nI z = nI 1) := by
           have h4 := h_41
           unfold hld
           rcases hb : (σ.v 4).testBit g with _ | _ <;> rw [hb] at h4
           · first
               | exact absurd h4 (by decide)
               | (symm; rw [decide_eq_false_iff_not, nI_eq (by omega) (by decide)]; omega)
           · first
               | exact absurd h4 (by decide)
               | (symm; rw [decide_eq_true_eq, nI_eq (by omega) (by decide)]; omega)
         rw [if_pos ⟨h_5, h_15⟩, tg, if_pos hcond]; exact ⟨rfl, hM, FrC.rf⟩)
      | (have hcond : ¬ hld σ.v g = decide (nI z = nI 1) := by
           have h4 := h_41
           unfold hld
           rcases hb : (σ.v 4).testBit g with _ | _ <;> rw [hb] at h4
           · first
               | exact absurd (by decide) h4
               | (intro q; have q := q.symm; rw [decide_eq_false_iff_not, nI_eq (by omega) (by decide)] at q; omega)
           · first
               | exact absurd (by decide) h4
               | (intro q; have q := q.symm; rw [decide_eq_true_eq, nI_eq (by omega) (by decide)] at q; omega)
         rw [if_pos ⟨h_5, h_15⟩, tg, if_neg hcond]
         exact ⟨rfl, hM1.setV hS2 FS.rf.up (sv_ne _ _ (by omega)), hC1.up (by decide)⟩)
  · obtain ⟨g, hg, rfl⟩ := inR_nI h_5 (by omega)
    obtain ⟨hI, h999⟩ := hLv.goer hg
    have tg := tN_nI (g := g) (by omega)
    have hgo := hw.goer hg
    refine x_iload_n dX12_hold_8 rfl ?_
    refine x_i2l dX12_hold_9 ?_
    refine x_lconst (v := lN 0) dX12_hold_10 rfl ?_
    refine x_lconst (v := lN 1) dX12_hold_11 rfl ?_
    refine q_X12_60 (m_inB (by decide) (by decide)) dX12_hold_12 rfl ?_
    rintro _ _ ⟨rfl, rfl⟩
    refine z_if_ne 21 dX12_hold_15 (fun h_15 => ?_) (fun h_15 => ?_)
    · obtain ⟨z, _, z2, rfl⟩ := inB_nI h_15 (by decide)
      have hw01 : nI z = nI 0 ∨ nI z = nI 1 := by
        rcases (show z = 0 ∨ z = 1 by omega) with rfl | rfl
        · exact Or.inl rfl
        · exact Or.inr rfl
      refine x_aload_n dX12_hold_21 rfl ?_
      refine g_X12_19 dX12_hold_22 ?_
      refine y_iconst (a := 4) dX12_hold_25 rfl ?_
      refine x_ial dX12_hold_26 (⟨by decide, rfl, rfl, by decide⟩ : Ar 38 45) (by omega) ?_
      rw [hS.at (by omega)]
      refine x_iload_n dX12_hold_27 rfl ?_
      refine q_X12_174 (m_has (by omega) (by omega)) dX12_hold_28 rfl ?_
      rintro _ _ ⟨rfl, rfl⟩
      refine x_iload_n dX12_hold_31 rfl ?_
      refine y_iconst (a := 1) dX12_hold_32 rfl ?_
      refine y_icmp_ne 40 dX12_hold_33 (by omega) (by omega) (fun h_33 => ?_) (fun h_33 => ?_)
      · refine y_iconst (a := 0) dX12_hold_40 rfl ?_
        refine x_icmp_ne 47 dX12_hold_41 (fun h_41 => ?_) (fun h_41 => ?_)
        · refine x_aload_n dX12_hold_47 rfl ?_
          refine q_X12_200 (m_note hM hW) dX12_hold_48 rfl ?_
          rintro _ M1 ⟨rfl, hM1, hC1⟩
          have hS1 : MsR M1 σ.v := hM1.ms
          refine x_aload_n dX12_hold_51 rfl ?_
          refine g_X12_19 dX12_hold_52 ?_
          refine y_iconst (a := 4) dX12_hold_55 rfl ?_
          refine x_dup2 dX12_hold_56 rfl rfl ?_
          refine x_ial dX12_hold_57 (⟨by decide, rfl, rfl, by decide⟩ : Ar 38 45) (by omega) ?_
          rw [hS1.at (by omega)]
          refine y_iconst (a := 1) dX12_hold_58 rfl ?_
          refine x_iload_n dX12_hold_59 rfl ?_
          refine y_ishl dX12_hold_60 (by omega) ?_
          try rw [Nat.one_mul]
          refine y_ixor dX12_hold_61 ?_
          refine x_ias dX12_hold_62 (⟨by decide, rfl, rfl, by decide⟩ : Ar 38 45) (by omega) ?_
          have hS2 := hS1.set 4 (σ.v 4 ^^^ 2 ^ g)
          refine x_aload_n dX12_hold_63 rfl ?_
          refine g_X12_19 dX12_hold_64 ?_
          refine y_iconst (a := 4) dX12_hold_67 rfl ?_
          refine x_ial dX12_hold_68 (⟨by decide, rfl, rfl, by decide⟩ : Ar 38 45) (by omega) ?_
          rw [hS2.at (by omega), sv_eq]
          refine x_iret dX12_hold_69 ?_
          unfold R_hold
          first
            | (rw [if_neg (by simp [*])]; exact ⟨rfl, hM, FrC.rf⟩)
            | (have hcond : hld σ.v g = decide (nI z = nI 1) := by
                 have h4 := h_41
                 unfold hld
                 rcases hb : (σ.v 4).testBit g with _ | _ <;> rw [hb] at h4
                 · first
                     | exact absurd h4 (by decide)
                     | (symm; rw [decide_eq_false_iff_not, nI_eq (by omega) (by decide)]; omega)
                 · first
                     | exact absurd h4 (by decide)
                     | (symm; rw [decide_eq_true_eq, nI_eq (by omega) (by decide)]; omega)
               rw [if_pos ⟨h_5, h_15⟩, tg, if_pos hcond]; exact ⟨rfl, hM, FrC.rf⟩)
            | (have hcond : ¬ hld σ.v g = decide (nI z = nI 1) := by
                 have h4 := h_41
                 unfold hld
                 rcases hb : (σ.v 4).testBit g with _ | _ <;> rw [hb] at h4
                 · first
                     | exact absurd (by decide) h4
                     | (intro q; have q := q.symm; rw [decide_eq_false_iff_not, nI_eq (by omega) (by decide)] at q; omega)
                 · first
                     | exact absurd (by decide) h4
                     | (intro q; have q := q.symm; rw [decide_eq_true_eq, nI_eq (by omega) (by decide)] at q; omega)
               rw [if_pos ⟨h_5, h_15⟩, tg, if_neg hcond]
               exact ⟨rfl, hM1.setV hS2 FS.rf.up (sv_ne _ _ (by omega)), hC1.up (by decide)⟩)
        · refine x_ldc dX12_hold_44 k_X12_197 ?_
          refine x_iret dX12_hold_46 ?_
          unfold R_hold
          first
            | (rw [if_neg (by simp [*])]; exact ⟨rfl, hM, FrC.rf⟩)
            | (have hcond : hld σ.v g = decide (nI z = nI 1) := by
                 have h4 := h_41
                 unfold hld
                 rcases hb : (σ.v 4).testBit g with _ | _ <;> rw [hb] at h4
                 · first
                     | exact absurd h4 (by decide)
                     | (symm; rw [decide_eq_false_iff_not, nI_eq (by omega) (by decide)]; omega)
                 · first
                     | exact absurd h4 (by decide)
                     | (symm; rw [decide_eq_true_eq, nI_eq (by omega) (by decide)]; omega)
               rw [if_pos ⟨h_5, h_15⟩, tg, if_pos hcond]; exact ⟨rfl, hM, FrC.rf⟩)
            | (have hcond : ¬ hld σ.v g = decide (nI z = nI 1) := by
                 have h4 := h_41
                 unfold hld
                 rcases hb : (σ.v 4).testBit g with _ | _ <;> rw [hb] at h4
                 · first
                     | exact absurd (by decide) h4
                     | (intro q; have q := q.symm; rw [decide_eq_false_iff_not, nI_eq (by omega) (by decide)] at q; omega)
                 · first
                     | exact absurd (by decide) h4
                     | (intro q; have q := q.symm; rw [decide_eq_true_eq, nI_eq (by omega) (by decide)] at q; omega)
               rw [if_pos ⟨h_5, h_15⟩, tg, if_neg hcond]
               exact ⟨rfl, hM1.setV hS2 FS.rf.up (sv_ne _ _ (by omega)), hC1.up (by decide)⟩)
      · refine y_iconst (a := 1) dX12_hold_36 rfl ?_
        refine x_goto 41 dX12_hold_37 ?_
        refine x_icmp_ne 47 dX12_hold_41 (fun h_41 => ?_) (fun h_41 => ?_)
        · refine x_aload_n dX12_hold_47 rfl ?_
          refine q_X12_200 (m_note hM hW) dX12_hold_48 rfl ?_
          rintro _ M1 ⟨rfl, hM1, hC1⟩
          have hS1 : MsR M1 σ.v := hM1.ms
          refine x_aload_n dX12_hold_51 rfl ?_
          refine g_X12_19 dX12_hold_52 ?_
          refine y_iconst (a := 4) dX12_hold_55 rfl ?_
          refine x_dup2 dX12_hold_56 rfl rfl ?_
          refine x_ial dX12_hold_57 (⟨by decide, rfl, rfl, by decide⟩ : Ar 38 45) (by omega) ?_
          rw [hS1.at (by omega)]
          refine y_iconst (a := 1) dX12_hold_58 rfl ?_
          refine x_iload_n dX12_hold_59 rfl ?_
          refine y_ishl dX12_hold_60 (by omega) ?_
          try rw [Nat.one_mul]
          refine y_ixor dX12_hold_61 ?_
          refine x_ias dX12_hold_62 (⟨by decide, rfl, rfl, by decide⟩ : Ar 38 45) (by omega) ?_
          have hS2 := hS1.set 4 (σ.v 4 ^^^ 2 ^ g)
          refine x_aload_n dX12_hold_63 rfl ?_
          refine g_X12_19 dX12_hold_64 ?_
          refine y_iconst (a := 4) dX12_hold_67 rfl ?_
          refine x_ial dX12_hold_68 (⟨by decide, rfl, rfl, by decide⟩ : Ar 38 45) (by omega) ?_
          rw [hS2.at (by omega), sv_eq]
          refine x_iret dX12_hold_69 ?_
          unfold R_hold
          first
            | (rw [if_neg (by simp [*])]; exact ⟨rfl, hM, FrC.rf⟩)
            | (have hcond : hld σ.v g = decide (nI z = nI 1) := by
                 have h4 := h_41
                 unfold hld
                 rcases hb : (σ.v 4).testBit g with _ | _ <;> rw [hb] at h4
                 · first
                     | exact absurd h4 (by decide)
                     | (symm; rw [decide_eq_false_iff_not, nI_eq (by omega) (by decide)]; omega)
                 · first
                     | exact absurd h4 (by decide)
                     | (symm; rw [decide_eq_true_eq, nI_eq (by omega) (by decide)]; omega)
               rw [if_pos ⟨h_5, h_15⟩, tg, if_pos hcond]; exact ⟨rfl, hM, FrC.rf⟩)
            | (have hcond : ¬ hld σ.v g = decide (nI z = nI 1) := by
                 have h4 := h_41
                 unfold hld
                 rcases hb : (σ.v 4).testBit g with _ | _ <;> rw [hb] at h4
                 · first
                     | exact absurd (by decide) h4
                     | (intro q; have q := q.symm; rw [decide_eq_false_iff_not, nI_eq (by omega) (by decide)] at q; omega)
                 · first
                     | exact absurd (by decide) h4
                     | (intro q; have q := q.symm; rw [decide_eq_true_eq, nI_eq (by omega) (by decide)] at q; omega)
               rw [if_pos ⟨h_5, h_15⟩, tg, if_neg hcond]
               exact ⟨rfl, hM1.setV hS2 FS.rf.up (sv_ne _ _ (by omega)), hC1.up (by decide)⟩)
        · refine x_ldc dX12_hold_44 k_X12_197 ?_
          refine x_iret dX12_hold_46 ?_
          unfold R_hold
          first
            | (rw [if_neg (by simp [*])]; exact ⟨rfl, hM, FrC.rf⟩)
            | (have hcond : hld σ.v g = decide (nI z = nI 1) := by
                 have h4 := h_41
                 unfold hld
                 rcases hb : (σ.v 4).testBit g with _ | _ <;> rw [hb] at h4
                 · first
                     | exact absurd h4 (by decide)
                     | (symm; rw [decide_eq_false_iff_not, nI_eq (by omega) (by decide)]; omega)
                 · first
                     | exact absurd h4 (by decide)
                     | (symm; rw [decide_eq_true_eq, nI_eq (by omega) (by decide)]; omega)
               rw [if_pos ⟨h_5, h_15⟩, tg, if_pos hcond]; exact ⟨rfl, hM, FrC.rf⟩)
            | (have hcond : ¬ hld σ.v g = decide (nI z = nI 1) := by
                 have h4 := h_41
                 unfold hld
                 rcases hb : (σ.v 4).testBit g with _ | _ <;> rw [hb] at h4
                 · first
                     | exact absurd (by decide) h4
                     | (intro q; have q := q.symm; rw [decide_eq_false_iff_not, nI_eq (by omega) (by decide)] at q; omega)
                 · first
                     | exact absurd (by decide) h4
                     | (intro q; have q := q.symm; rw [decide_eq_true_eq, nI_eq (by omega) (by decide)] at q; omega)
               rw [if_pos ⟨h_5, h_15⟩, tg, if_neg hcond]
               exact ⟨rfl, hM1.setV hS2 FS.rf.up (sv_ne _ _ (by omega)), hC1.up (by decide)⟩)
    · refine x_ldc dX12_hold_18 k_X12_70 ?_
      refine x_iret dX12_hold_20 ?_
      unfold R_hold
      first
        | (rw [if_neg (by simp [*])]; exact ⟨rfl, hM, FrC.rf⟩)
        | (have hcond : hld σ.v g = decide (nI z = nI 1) := by
             have h4 := h_41
             unfold hld
             rcases hb : (σ.v 4).testBit g with _ | _ <;> rw [hb] at h4
             · first
                 | exact absurd h4 (by decide)
                 | (symm; rw [decide_eq_false_iff_not, nI_eq (by omega) (by decide)]; omega)
             · first
                 | exact absurd h4 (by decide)
                 | (symm; rw [decide_eq_true_eq, nI_eq (by omega) (by decide)]; omega)
           rw [if_pos ⟨h_5, h_15⟩, tg, if_pos hcond]; exact ⟨rfl, hM, FrC.rf⟩)
        | (have hcond : ¬ hld σ.v g = decide (nI z = nI 1) := by
             have h4 := h_41
             unfold hld
             rcases hb : (σ.v 4).testBit g with _ | _ <;> rw [hb] at h4
             · first
                 | exact absurd (by decide) h4
                 | (intro q; have q := q.symm; rw [decide_eq_false_iff_not, nI_eq (by omega) (by decide)] at q; omega)
             · first
                 | exact absurd (by decide) h4
                 | (intro q; have q := q.symm; rw [decide_eq_true_eq, nI_eq (by omega) (by decide)] at q; omega)
           rw [if_pos ⟨h_5, h_15⟩, tg, if_neg hcond]
           exact ⟨rfl, hM1.setV hS2 FS.rf.up (sv_ne _ _ (by omega)), hC1.up (by decide)⟩)
set_option maxRecDepth 100000 in
set_option maxHeartbeats 4000000 in
theorem m_hours {Ω : Om} {l : Launch} {M : Mem} {σ : Sg} (hM : IM M σ) (hW : SgW σ) {n : Int32} : Ct Ω l yX12_hours cX12_hours 3 9 (some .int) [.ref (Ω.2.2 34), .int n] M (fun ro M' => ro = some (.int (R_hours σ n).1) ∧ IM M' (R_hours σ n).2 ∧ FrC M M') := by
  have hS := hM.ms
  have hLv : Lv σ.v := hW.2.2.1
  have hw := hLv.wv
  have hn := hw.nums
  have hth := hM.there
  refine ct_of (by decide) (Nat.le_of_ble_eq_true rfl) ?_
  intro p e R s m args below meth c
  have key : ∀ (n : Nat), R_hours σ (nI n) = (nI (whoA (hsN σ n).v (σ.v 0 + 1)), hsN σ n) → Iv σ.v → σ.v 3 + n ≤ 999 → n ≤ 24 → ∀ (k h : Nat) (M1 : Mem), h + k = n → IM M1 (hsN σ h) → FrC M M1 → X (mkG p l e R s m args below meth c Ω (fun ro M' => ro = some (.int (R_hours σ (nI n)).1) ∧ IM M' (R_hours σ (nI n)).2 ∧ FrC M M')) Ω RX12 cX12_hours 3 9 (some .int) 44 [some (.ref (Ω.2.2 34)), some (.int (nI n)), some (.int (nI h))] [] M1 := by
    intro n hR hI h999 n24 k
    induction k with
    | zero =>
      intro h M1 hk hM1 hC1
      have hW1 := hsN_W hW hI h (by omega)
      have hv1 := hsN_v σ h
      have hI1 : Iv (hsN σ h).v := by rw [hv1]; exact hrs_Iv hI h (by omega)
      have hne := hrs_ne hw h (by omega)
      have hS1 := hM1.ms
      have hnn := hI1.1.nums
      refine x_iload_n dX12_hours_44 rfl ?_
      refine x_iload_n dX12_hours_45 rfl ?_
      refine y_icmp_ge 63 dX12_hours_46 (by omega) (by omega) (fun h_46 => ?_) (fun h_46 => ?_)
      · refine x_aload_n dX12_hours_63 rfl ?_
        refine q_X12_206 (m_aboveSet hS1 hI1.1) dX12_hours_64 rfl ?_
        rintro _ _ ⟨rfl, rfl⟩
        refine x_iret dX12_hours_67 ?_
        obtain rfl : h = n := by omega
        rw [hR]
        refine ⟨congrArg (fun z => some (Value.int z)) ?_, hM1, hC1⟩
        rw [show (hsN σ h).v 0 = σ.v 0 by rw [hv1]; exact hne.2.1 0 (by omega) (by omega)]
      · exfalso; omega
    | succ k ih =>
      intro h M1 hk hM1 hC1
      have hW1 := hsN_W hW hI h (by omega)
      have hv1 := hsN_v σ h
      have hI1 : Iv (hsN σ h).v := by rw [hv1]; exact hrs_Iv hI h (by omega)
      have hne := hrs_ne hw h (by omega)
      have hS1 := hM1.ms
      have hnn := hI1.1.nums
      refine x_iload_n dX12_hours_44 rfl ?_
      refine x_iload_n dX12_hours_45 rfl ?_
      refine y_icmp_ge 63 dX12_hours_46 (by omega) (by omega) (fun h_46 => ?_) (fun h_46 => ?_)
      · exfalso; omega
      · refine x_aload_n dX12_hours_49 rfl ?_
        refine q_X12_200 (m_note hM1 hW1) dX12_hours_50 rfl ?_
        rintro _ M2 ⟨rfl, hM2, hC2⟩
        refine x_aload_n dX12_hours_53 rfl ?_
        refine q_X12_203 (m_oneHour hM2.ms hI1) dX12_hours_54 rfl ?_
        rintro _ M3 ⟨rfl, hS3, hF3⟩
        refine y_iinc dX12_hours_57 rfl ?_
        refine x_goto 44 dX12_hours_60 ?_
        refine ih (h + 1) _ (by omega) ?_ ((hC1.tr hC2).fs hF3)
        exact hM2.setV hS3 hF3 (hrV_ne (by omega) (by omega) (by omega) (by omega))
  refine x_aload_n dX12_hours_0 rfl ?_
  refine g_X12_147 dX12_hours_1 ?_
  rw [hth]
  refine z_if_ne 10 dX12_hours_4 (fun h_4 => ?_) (fun h_4 => ?_)
  · simp only [decide_eq_true_eq] at h_4
    obtain ⟨hI, h999⟩ : Iv σ.v ∧ σ.v 3 ≤ 999 := by
      rcases hLv with z | z
      · exact z
      · exact absurd (z 0 (by decide)) h_4
    refine x_iload_n dX12_hours_10 rfl ?_
    refine x_i2l dX12_hours_11 ?_
    refine x_lconst (v := lN 1) dX12_hours_12 rfl ?_
    refine x_ldc2 (v := lN 24) dX12_hours_13 k_X12_198 ?_
    refine q_X12_60 (m_inB (by decide) (by decide)) dX12_hours_16 rfl ?_
    rintro _ _ ⟨rfl, rfl⟩
    refine z_if_ne 25 dX12_hours_19 (fun h_19 => ?_) (fun h_19 => ?_)
    · obtain ⟨n, n1, n2, rfl⟩ := inB_nI h_19 (by decide)
      have tn := tN_nI (g := n) (by omega)
      refine x_aload_n dX12_hours_25 rfl ?_
      refine g_X12_19 dX12_hours_26 ?_
      refine y_iconst (a := 3) dX12_hours_29 rfl ?_
      refine x_ial dX12_hours_30 (⟨by decide, rfl, rfl, by decide⟩ : Ar 38 45) (by omega) ?_
      rw [hS.at (by omega)]
      refine x_iload_n dX12_hours_31 rfl ?_
      refine y_iadd dX12_hours_32 ?_
      refine x_sipush (v := nI 999) dX12_hours_33 rfl ?_
      refine y_icmp_le 42 dX12_hours_36 (by omega) (by omega) (fun h_36 => ?_) (fun h_36 => ?_)
      · refine y_iconst (a := 0) dX12_hours_42 rfl ?_
        refine x_istore_n dX12_hours_43 ?_
        exact key n (by unfold R_hours; rw [if_neg h_4, if_pos h_19, tn, if_neg (by omega)]) hI (by omega) (by omega) n 0 M (Nat.zero_add _) hM FrC.rf
      · refine x_ldc dX12_hours_39 k_X12_87 ?_
        refine x_iret dX12_hours_41 ?_
        unfold R_hours
        first
          | (simp only [decide_eq_false_iff_not] at h_4
             rw [if_pos (Decidable.not_not.mp h_4)]; exact ⟨rfl, hM, FrC.rf⟩)
          | (rw [if_neg h_4, if_neg (fun z => Bool.false_ne_true (h_19.symm.trans z))]; exact ⟨rfl, hM, FrC.rf⟩)
          | (rw [if_neg h_4, if_pos h_19, tn, if_pos (by omega)]; exact ⟨rfl, hM, FrC.rf⟩)
    · refine x_ldc dX12_hours_22 k_X12_70 ?_
      refine x_iret dX12_hours_24 ?_
      unfold R_hours
      first
        | (simp only [decide_eq_false_iff_not] at h_4
           rw [if_pos (Decidable.not_not.mp h_4)]; exact ⟨rfl, hM, FrC.rf⟩)
        | (rw [if_neg h_4, if_neg (fun z => Bool.false_ne_true (h_19.symm.trans z))]; exact ⟨rfl, hM, FrC.rf⟩)
        | (rw [if_neg h_4, if_pos h_19, tn, if_pos (by omega)]; exact ⟨rfl, hM, FrC.rf⟩)
  · refine x_ldc dX12_hours_7 k_X12_197 ?_
    refine x_iret dX12_hours_9 ?_
    unfold R_hours
    first
      | (simp only [decide_eq_false_iff_not] at h_4
         rw [if_pos (Decidable.not_not.mp h_4)]; exact ⟨rfl, hM, FrC.rf⟩)
      | (rw [if_neg h_4, if_neg (fun z => Bool.false_ne_true (h_19.symm.trans z))]; exact ⟨rfl, hM, FrC.rf⟩)
      | (rw [if_neg h_4, if_pos h_19, tn, if_pos (by omega)]; exact ⟨rfl, hM, FrC.rf⟩)
set_option maxRecDepth 100000 in
set_option maxHeartbeats 4000000 in
theorem m_undo {Ω : Om} {l : Launch} {M : Mem} {σ : Sg} (hM : IM M σ) (hW : SgW σ)  : Ct Ω l yX12_undo cX12_undo 2 1 (some .int) [.ref (Ω.2.2 34)] M (fun ro M' => ro = some (.int (R_undo σ).1) ∧ IM M' (R_undo σ).2 ∧ FrC M M') := by
  have hS := hM.ms
  have hLv : Lv σ.v := hW.2.2.1
  have hw := hLv.wv
  have hn := hw.nums
  have hth := hM.there
  refine ct_of (by decide) (Nat.le_of_ble_eq_true rfl) ?_
  intro p e R s m args below meth c
  have h24 := hW.2.2.2.1
  have key : ¬ σ.am = 0 → ∀ (k h : Nat) (M1 : Mem), h + k = 45 → FC 38 (up1 M 34 18 (nI (σ.am - 1))) M1 → (∀ j, j < h → M1.1 38 j = nI (σ.ah (σ.am - 1) j)) → X (mkG p l e R s m args below meth c Ω (fun ro M' => ro = some (.int (R_undo σ).1) ∧ IM M' (R_undo σ).2 ∧ FrC M M')) Ω RX12 cX12_undo 2 1 (some .int) 22 [some (.ref (Ω.2.2 34)), some (.int (nI h))] [] M1 := by
    intro h0 k
    have hth0 : ¬ σ.v 0 = 0 := fun z => by
      rcases hLv with q | q
      · have := q.1.2.1; omega
      · exact h0 (hW.2.2.2.2.2.2.2 q)
    have hIa := (hW.2.2.2.2.1 (σ.am - 1) (by omega)).2
    induction k with
    | zero =>
      intro h M1 hk hF hz
      refine x_iload_n dX12_undo_22 rfl ?_
      refine x_bipush (v := nI 45) dX12_undo_23 rfl ?_
      refine y_icmp_ge 54 dX12_undo_25 (by omega) (by omega) (fun h_25 => ?_) (fun h_25 => ?_)
      · refine x_aload_n dX12_undo_54 rfl ?_
        refine g_X12_151 dX12_undo_55 ?_
        rw [hF.2 34 (by decide), up1_at, if_pos ⟨rfl, rfl⟩]
        refine x_iret dX12_undo_58 ?_
        obtain rfl : h = 45 := by omega
        unfold R_undo
        rw [if_neg h0]
        refine ⟨rfl, hM.setLake (fun k hk => hz k hk) ⟨?_, fun i hi k hk => ?_⟩ ?_ (fun k hk => ?_) (fun d hd => ?_), ?_⟩
        · rw [hF.2 34 (by decide), up1_at, if_pos ⟨rfl, rfl⟩]; rfl
        · rw [hF.2 42 (by decide), up1_ne _ _ _ (by decide)]
          have hi2 : i < σ.am - 1 := hi
          exact hM.acts.2 i (by omega) k hk
        · rw [hF.2 34 (by decide), up1_at, if_neg (by decide), hth]
          have : ¬ σ.ah (σ.am - 1) 0 = 0 := by have := hIa.2.1; omega
          simp [hth0, this]
        · rw [hF.2 34 (by decide), up1_at, if_neg (by omega)]
        · rw [hF.2 d (by omega), up1_ne _ _ _ (by omega)]
        · exact (FrC.rf.up (by decide)).fc hF (by decide)
      · exfalso; omega
    | succ k ih =>
      intro h M1 hk hF hz
      refine x_iload_n dX12_undo_22 rfl ?_
      refine x_bipush (v := nI 45) dX12_undo_23 rfl ?_
      refine y_icmp_ge 54 dX12_undo_25 (by omega) (by omega) (fun h_25 => ?_) (fun h_25 => ?_)
      · exfalso; omega
      · refine x_aload_n dX12_undo_28 rfl ?_
        refine g_X12_19 dX12_undo_29 ?_
        refine x_iload_n dX12_undo_32 rfl ?_
        refine x_aload_n dX12_undo_33 rfl ?_
        refine g_X12_31 dX12_undo_34 ?_
        refine x_bipush (v := nI 45) dX12_undo_37 rfl ?_
        refine x_aload_n dX12_undo_39 rfl ?_
        refine g_X12_151 dX12_undo_40 ?_
        rw [hF.2 34 (by decide), up1_at, if_pos ⟨rfl, rfl⟩]
        refine y_imul dX12_undo_43 ?_
        refine x_iload_n dX12_undo_44 rfl ?_
        refine y_iadd dX12_undo_45 ?_
        refine x_ial dX12_undo_46 (⟨by decide, rfl, rfl, by decide⟩ : Ar 42 1080) (by omega) ?_
        rw [hF.2 42 (by decide), up1_ne _ _ _ (by decide), hM.acts.2 (σ.am - 1) (by omega) h (by omega)]
        refine x_ias dX12_undo_47 (⟨by decide, rfl, rfl, by decide⟩ : Ar 38 45) (by omega) ?_
        refine y_iinc dX12_undo_48 rfl ?_
        refine x_goto 22 dX12_undo_51 ?_
        refine ih (h + 1) _ (by omega) hF.up (fun j hj => ?_)
        rw [up1_at]
        by_cases z : j = h
        · rw [if_pos ⟨rfl, z⟩, z]
        · rw [if_neg (fun y => z y.2)]; exact hz j (by omega)
  refine x_aload_n dX12_undo_0 rfl ?_
  refine g_X12_151 dX12_undo_1 ?_
  rw [hM.acts.1]
  refine y_if_ne 10 dX12_undo_4 (by omega) (fun h_4 => ?_) (fun h_4 => ?_)
  · refine x_aload_n dX12_undo_10 rfl ?_
    refine x_dup dX12_undo_11 rfl ?_
    refine g_X12_151 dX12_undo_12 ?_
    rw [hM.acts.1]
    refine y_iconst (a := 1) dX12_undo_15 rfl ?_
    refine y_isub dX12_undo_16 (by omega) ?_
    refine p_X12_151 dX12_undo_17 ?_
    refine y_iconst (a := 0) dX12_undo_20 rfl ?_
    refine x_istore_n dX12_undo_21 ?_
    exact key (by omega) 45 0 _ rfl FC.rf (fun j hj => absurd hj (Nat.not_lt_zero _))
  · refine x_ldc dX12_undo_7 k_X12_197 ?_
    refine x_iret dX12_undo_9 ?_
    unfold R_undo
    rw [if_pos (by omega)]
    exact ⟨rfl, hM, FrC.rf⟩
set_option maxRecDepth 100000 in
set_option maxHeartbeats 4000000 in
theorem m_image {Ω : Om} {l : Launch} {M : Mem} {σ : Sg} (hM : IM M σ) (hW : SgW σ) {x : Int32} : Ct Ω l yX12_image cX12_image 3 2 (some .int) [.ref (Ω.2.2 34), .int x] M (fun ro M' => ro = some (.int (R_image σ x).1) ∧ IM M' (R_image σ x).2 ∧ FrC M M') := by
  have hS := hM.ms
  have hLv : Lv σ.v := hW.2.2.1
  have hw := hLv.wv
  have hn := hw.nums
  have hth := hM.there
  refine ct_of (by decide) (Nat.le_of_ble_eq_true rfl) ?_
  intro p e R s m args below meth c
  have key : ∀ (q : Nat), q < 2 → R_image σ (nI q) = (nI 1, σ.uIm (fun i => if i = q then some σ.v else σ.im i)) → ∀ (k h : Nat) (M1 : Mem), h + k = 45 → FC 47 M M1 → (∀ j, M1.1 47 j = if 45 * q ≤ j ∧ j < 45 * q + h then nI (σ.v (j - 45 * q)) else M.1 47 j) → X (mkG p l e R s m args below meth c Ω (fun ro M' => ro = some (.int (R_image σ (nI q)).1) ∧ IM M' (R_image σ (nI q)).2 ∧ FrC M M')) Ω RX12 cX12_image 3 2 (some .int) 25 [some (.ref (Ω.2.2 34)), some (.int (nI q)), some (.int (nI h))] [] M1 := by
    intro q hq hR k
    induction k with
    | zero =>
      intro h M1 hk hF hz
      refine x_iload_n dX12_image_25 rfl ?_
      refine x_bipush (v := nI 45) dX12_image_26 rfl ?_
      refine y_icmp_ge 54 dX12_image_28 (by omega) (by omega) (fun h_28 => ?_) (fun h_28 => ?_)
      · refine x_aload_n dX12_image_54 rfl ?_
        refine g_X12_43 dX12_image_55 ?_
        refine x_iload_n dX12_image_58 rfl ?_
        refine y_iconst (a := 1) dX12_image_59 rfl ?_
        refine x_bastore dX12_image_60 (by decide) rfl (vp_in_nI (N := 2) hq (by decide)) (Or.inr rfl) ?_
        rw [nI_clamp (by omega)]
        refine y_iconst (a := 1) dX12_image_61 rfl ?_
        refine x_iret dX12_image_62 ?_
        obtain rfl : h = 45 := by omega
        rw [hR]
        refine ⟨rfl, hM.setIm (fun i hi => ⟨?_, fun w hw k hk => ?_⟩) (fun d hd => ?_), (FrC.rf.fc hF (by decide)).up (by decide)⟩
        · show _ = bI (if i = q then some σ.v else σ.im i).isSome
          rw [up1_at, hF.2 46 (by decide)]
          by_cases z : i = q
          · rw [if_pos ⟨rfl, z⟩, if_pos z]; rfl
          · rw [if_neg (fun y => z y.2), if_neg z]; exact (hM.img i hi).1
        · have hw' : (if i = q then some σ.v else σ.im i) = some w := hw
          rw [up1_ne _ _ _ (by decide), hz]
          by_cases z : i = q
          · rw [if_pos z] at hw'
            cases hw'
            rw [if_pos (by omega), show 45 * i + k - 45 * q = k by omega]
          · rw [if_neg z] at hw'
            rw [if_neg (by omega)]
            exact (hM.img i hi).2 w hw' k hk
        · rw [up1_ne _ _ _ (by omega), hF.2 d (by omega)]
      · exfalso; omega
    | succ k ih =>
      intro h M1 hk hF hz
      refine x_iload_n dX12_image_25 rfl ?_
      refine x_bipush (v := nI 45) dX12_image_26 rfl ?_
      refine y_icmp_ge 54 dX12_image_28 (by omega) (by omega) (fun h_28 => ?_) (fun h_28 => ?_)
      · exfalso; omega
      · refine x_aload_n dX12_image_31 rfl ?_
        refine g_X12_47 dX12_image_32 ?_
        refine x_bipush (v := nI 45) dX12_image_35 rfl ?_
        refine x_iload_n dX12_image_37 rfl ?_
        refine y_imul dX12_image_38 ?_
        refine x_iload_n dX12_image_39 rfl ?_
        refine y_iadd dX12_image_40 ?_
        refine x_aload_n dX12_image_41 rfl ?_
        refine g_X12_19 dX12_image_42 ?_
        refine x_iload_n dX12_image_45 rfl ?_
        refine x_ial dX12_image_46 (⟨by decide, rfl, rfl, by decide⟩ : Ar 38 45) (by omega) ?_
        rw [hF.2 38 (by decide), hS.at (by omega)]
        refine x_ias dX12_image_47 (⟨by decide, rfl, rfl, by decide⟩ : Ar 47 90) (by omega) ?_
        refine y_iinc dX12_image_48 rfl ?_
        refine x_goto 25 dX12_image_51 ?_
        refine ih (h + 1) _ (by omega) hF.up (fun j => ?_)
        rw [up1_at]
        by_cases z : j = 45 * q + h
        · rw [if_pos ⟨rfl, z⟩, if_pos (by omega), show j - 45 * q = h by omega]
        · rw [if_neg (fun y => z y.2), hz]
          by_cases y : 45 * q ≤ j ∧ j < 45 * q + h
          · rw [if_pos y, if_pos (by omega)]
          · rw [if_neg y, if_neg (by omega)]
  refine x_iload_n dX12_image_0 rfl ?_
  refine x_i2l dX12_image_1 ?_
  refine x_lconst (v := lN 0) dX12_image_2 rfl ?_
  refine x_lconst (v := lN 1) dX12_image_3 rfl ?_
  refine q_X12_60 (m_inB (by decide) (by decide)) dX12_image_4 rfl ?_
  rintro _ _ ⟨rfl, rfl⟩
  refine z_if_ne 13 dX12_image_7 (fun h_7 => ?_) (fun h_7 => ?_)
  · obtain ⟨q, _, q2, rfl⟩ := inB_nI h_7 (by decide)
    have tq := tN_nI (g := q) (by omega)
    refine x_aload_n dX12_image_13 rfl ?_
    refine g_X12_147 dX12_image_14 ?_
    rw [hth]
    refine z_if_ne 23 dX12_image_17 (fun h_17 => ?_) (fun h_17 => ?_)
    · refine y_iconst (a := 0) dX12_image_23 rfl ?_
      refine x_istore_n dX12_image_24 ?_
      simp only [decide_eq_true_eq] at h_17
      exact key q (by omega) (by unfold R_image; rw [if_pos h_7, if_neg h_17, tq]) 45 0 M rfl FC.rf (fun j => by rw [if_neg (by omega)])
    · refine x_ldc dX12_image_20 k_X12_197 ?_
      refine x_iret dX12_image_22 ?_
      unfold R_image
      first
        | (rw [if_neg (fun z => Bool.false_ne_true (h_7.symm.trans z))]; exact ⟨rfl, hM, FrC.rf⟩)
        | (simp only [decide_eq_false_iff_not] at h_17
           rw [if_pos h_7, if_pos (Decidable.not_not.mp h_17)]; exact ⟨rfl, hM, FrC.rf⟩)
  · refine x_ldc dX12_image_10 k_X12_70 ?_
    refine x_iret dX12_image_12 ?_
    unfold R_image
    first
      | (rw [if_neg (fun z => Bool.false_ne_true (h_7.symm.trans z))]; exact ⟨rfl, hM, FrC.rf⟩)
      | (simp only [decide_eq_false_iff_not] at h_17
         rw [if_pos h_7, if_pos (Decidable.not_not.mp h_17)]; exact ⟨rfl, hM, FrC.rf⟩)
set_option maxRecDepth 100000 in
set_option maxHeartbeats 4000000 in
theorem m_restore {Ω : Om} {l : Launch} {M : Mem} {σ : Sg} (hM : IM M σ) (hW : SgW σ) (hX : SgX σ) {x : Int32} : Ct Ω l yX12_restore cX12_restore 3 2 (some .int) [.ref (Ω.2.2 34), .int x] M (fun ro M' => ro = some (.int (R_restore σ x).1) ∧ IM M' (R_restore σ x).2 ∧ FrC M M') := by
  have hS := hM.ms
  have hLv : Lv σ.v := hW.2.2.1
  have hw := hLv.wv
  have hn := hw.nums
  have hth := hM.there
  refine ct_of (by decide) (Nat.le_of_ble_eq_true rfl) ?_
  intro p e R s m args below meth c
  have key : ∀ (q : Nat) (w : Nat → Nat), q < 2 → σ.im q = some w → R_restore σ (nI q) = (nI 1, σ.uLake w 0 σ.ah) → ∀ (k h : Nat) (M1 : Mem), h + k = 45 → FC 38 M M1 → (∀ j, j < h → M1.1 38 j = nI (w j)) → X (mkG p l e R s m args below meth c Ω (fun ro M' => ro = some (.int (R_restore σ (nI q)).1) ∧ IM M' (R_restore σ (nI q)).2 ∧ FrC M M')) Ω RX12 cX12_restore 3 2 (some .int) 27 [some (.ref (Ω.2.2 34)), some (.int (nI q)), some (.int (nI h))] [] M1 := by
    intro q w hq him hR k
    have hth0 : ¬ σ.v 0 = 0 := hX q hq (by rw [him]; rfl)
    have hIw := (hW.2.2.2.2.2.1 q w hq him).1
    induction k with
    | zero =>
      intro h M1 hk hF hz
      refine x_iload_n dX12_restore_27 rfl ?_
      refine x_bipush (v := nI 45) dX12_restore_28 rfl ?_
      refine y_icmp_ge 56 dX12_restore_30 (by omega) (by omega) (fun h_30 => ?_) (fun h_30 => ?_)
      · refine x_aload_n dX12_restore_56 rfl ?_
        refine y_iconst (a := 0) dX12_restore_57 rfl ?_
        refine p_X12_151 dX12_restore_58 ?_
        refine y_iconst (a := 1) dX12_restore_61 rfl ?_
        refine x_iret dX12_restore_62 ?_
        obtain rfl : h = 45 := by omega
        rw [hR]
        refine ⟨rfl, hM.setLake (fun k hk => by rw [up1_ne _ _ _ (by decide)]; exact hz k hk) ⟨by rw [up1_at, if_pos ⟨rfl, rfl⟩]; rfl, fun i hi k hk => absurd hi (Nat.not_lt_zero _)⟩ ?_ (fun k hk => ?_) (fun d hd => ?_), (FrC.rf.fc hF (by decide)).up (by decide)⟩
        · rw [up1_at, if_neg (by decide), hF.2 34 (by decide), hth]
          have : ¬ w 0 = 0 := by have := hIw.2.1; omega
          simp [hth0, this]
        · rw [up1_at, if_neg (by omega), hF.2 34 (by decide)]
        · rw [up1_ne _ _ _ (by omega), hF.2 d (by omega)]
      · exfalso; omega
    | succ k ih =>
      intro h M1 hk hF hz
      refine x_iload_n dX12_restore_27 rfl ?_
      refine x_bipush (v := nI 45) dX12_restore_28 rfl ?_
      refine y_icmp_ge 56 dX12_restore_30 (by omega) (by omega) (fun h_30 => ?_) (fun h_30 => ?_)
      · exfalso; omega
      · refine x_aload_n dX12_restore_33 rfl ?_
        refine g_X12_19 dX12_restore_34 ?_
        refine x_iload_n dX12_restore_37 rfl ?_
        refine x_aload_n dX12_restore_38 rfl ?_
        refine g_X12_47 dX12_restore_39 ?_
        refine x_bipush (v := nI 45) dX12_restore_42 rfl ?_
        refine x_iload_n dX12_restore_44 rfl ?_
        refine y_imul dX12_restore_45 ?_
        refine x_iload_n dX12_restore_46 rfl ?_
        refine y_iadd dX12_restore_47 ?_
        refine x_ial dX12_restore_48 (⟨by decide, rfl, rfl, by decide⟩ : Ar 47 90) (by omega) ?_
        rw [hF.2 47 (by decide), (hM.img q hq).2 w him h (by omega)]
        refine x_ias dX12_restore_49 (⟨by decide, rfl, rfl, by decide⟩ : Ar 38 45) (by omega) ?_
        refine y_iinc dX12_restore_50 rfl ?_
        refine x_goto 27 dX12_restore_53 ?_
        refine ih (h + 1) _ (by omega) hF.up (fun j hj => ?_)
        rw [up1_at]
        by_cases z : j = h
        · rw [if_pos ⟨rfl, z⟩, z]
        · rw [if_neg (fun y => z y.2)]; exact hz j (by omega)
  refine x_iload_n dX12_restore_0 rfl ?_
  refine x_i2l dX12_restore_1 ?_
  refine x_lconst (v := lN 0) dX12_restore_2 rfl ?_
  refine x_lconst (v := lN 1) dX12_restore_3 rfl ?_
  refine q_X12_60 (m_inB (by decide) (by decide)) dX12_restore_4 rfl ?_
  rintro _ _ ⟨rfl, rfl⟩
  refine z_if_ne 13 dX12_restore_7 (fun h_7 => ?_) (fun h_7 => ?_)
  · obtain ⟨q, _, q2, rfl⟩ := inB_nI h_7 (by decide)
    have tq := tN_nI (g := q) (by omega)
    refine x_aload_n dX12_restore_13 rfl ?_
    refine g_X12_43 dX12_restore_14 ?_
    refine x_iload_n dX12_restore_17 rfl ?_
    refine x_baload dX12_restore_18 (by decide) rfl (vp_in_nI (N := 2) (by omega) (by decide)) ?_
    rw [nI_clamp (by omega), (hM.img q (by omega)).1]
    refine z_if_ne 25 dX12_restore_19 (fun h_19 => ?_) (fun h_19 => ?_)
    · refine y_iconst (a := 0) dX12_restore_25 rfl ?_
      refine x_istore_n dX12_restore_26 ?_
      obtain ⟨w, hw⟩ := Option.isSome_iff_exists.mp h_19
      exact key q w (by omega) hw (by unfold R_restore; rw [if_pos h_7, tq, hw]) 45 0 M rfl FC.rf (fun j hj => absurd hj (Nat.not_lt_zero _))
    · refine x_ldc dX12_restore_22 k_X12_197 ?_
      refine x_iret dX12_restore_24 ?_
      unfold R_restore
      first
        | (rw [if_neg (fun z => Bool.false_ne_true (h_7.symm.trans z))]; exact ⟨rfl, hM, FrC.rf⟩)
        | (rw [if_pos h_7, tq]
           rcases him : σ.im q with _ | w
           · exact ⟨rfl, hM, FrC.rf⟩
           · rw [him] at h_19; cases h_19)
  · refine x_ldc dX12_restore_10 k_X12_70 ?_
    refine x_iret dX12_restore_12 ?_
    unfold R_restore
    first
      | (rw [if_neg (fun z => Bool.false_ne_true (h_7.symm.trans z))]; exact ⟨rfl, hM, FrC.rf⟩)
      | (rw [if_pos h_7, tq]
         rcases him : σ.im q with _ | w
         · exact ⟨rfl, hM, FrC.rf⟩
         · rw [him] at h_19; cases h_19)
