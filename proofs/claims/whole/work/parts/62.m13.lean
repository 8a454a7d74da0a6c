/-! THE REFERENCE: ask (laid by gen_m13.py) -/
def TmR (M : Mem) (T : List Nat) : Prop := M.1 34 25 = nI T.length ∧ ∀ j, j < T.length → M.1 48 j = nI (T.getD j 0)
def FTm (M M' : Mem) : Prop := M'.2 = M.2 ∧ (∀ c, c ≠ 34 → c ≠ 48 → M'.1 c = M.1 c) ∧ ∀ k, k ≠ 25 → M'.1 34 k = M.1 34 k
theorem FTm.rf {M : Mem} : FTm M M := ⟨rfl, fun _ _ _ => rfl, fun _ _ => rfl⟩
theorem FTm.tr {M M1 M2 : Mem} (h : FTm M M1) (h2 : FTm M1 M2) : FTm M M2 := ⟨h2.1.trans h.1, fun c a b => (h2.2.1 c a b).trans (h.2.1 c a b), fun k hk => (h2.2.2 k hk).trans (h.2.2 k hk)⟩
theorem MsR.tm {M M' : Mem} {v : Nat → Nat} (h : MsR M v) (hF : FTm M M') : MsR M' v := fun k hk => by rw [hF.2.1 38 (by decide) (by decide)]; exact h k hk
theorem TmR.snoc {M : Mem} {T : List Nat} (h : TmR M T) (b : Nat) : TmR (up1 (up1 M 48 T.length (nI b)) 34 25 (nI (T.length + 1))) (T ++ [b]) := by
  refine ⟨by simp [up1_at], fun j hj => ?_⟩
  rw [up1_ne _ _ _ (by omega), up1_at]
  simp only [List.length_append, List.length_singleton] at hj
  by_cases e : j = T.length
  · subst e
    simp
  · rw [if_neg (by omega), h.2 j (by omega), List.getD_eq_getElem?_getD, List.getD_eq_getElem?_getD, List.getElem?_append_left (by omega)]
theorem IM.setTr {M M' : Mem} {σ : Sg} (h : IM M σ) {a : Nat} {f : Nat → Int32} (hr : IMc M' (σ.uTr a f)) (hF : FTm M M') : IM M' (σ.uTr a f) := by
  obtain ⟨h1, h2, h3, h4, h5, h6, h7, h8, h9⟩ := h
  refine ⟨?_, ?_, ?_, ?_, ?_, ?_, ?_, ?_, hr⟩
  · intro r hr; rw [hF.2.1 35 (by decide) (by decide), hF.2.1 36 (by decide) (by decide), hF.2.1 37 (by decide) (by decide)]; exact h1 r hr
  · rw [hF.2.2 3 (by decide)]; exact h2
  · rw [hF.2.2 4 (by decide)]; exact h3
  · exact MsR.tm h4 hF
  · unfold IMt; rw [hF.2.2 8 (by decide), hF.2.1 40 (by decide) (by decide)]; exact h5
  · rw [hF.2.2 9 (by decide)]; exact h6
  · unfold IMa; rw [hF.2.2 18 (by decide), hF.2.1 42 (by decide) (by decide)]; exact h7
  · intro i hi; rw [hF.2.1 46 (by decide) (by decide), hF.2.1 47 (by decide) (by decide)]; exact h8 i hi
theorem FTm.fr {M M' : Mem} (h : FTm M M') : FrC M M' := ⟨h.1, fun c hc => h.2.1 c (by omega) (by omega)⟩

set_option maxRecDepth 100000 in
set_option maxHeartbeats 4000000 in
theorem m_beg {Ω : Om} {l : Launch} {M : Mem} {T : List Nat} (hT : TmR M T) {b : Nat} (h16 : T.length < 16) : Ct Ω l yX12_begin_ cX12_begin_ 2 1 none [.ref (Ω.2.2 34), .int (nI b)] M (fun ro M' => ro = none ∧ TmR M' (T ++ [b]) ∧ FTm M M') := by
  refine ct_of (by decide) (Nat.le_of_ble_eq_true rfl) ?_
  intro p e R s m args below meth c
  refine x_aload_n dX12_begin__0 rfl ?_
  refine g_X12_277 dX12_begin__1 ?_
  rw [hT.1]
  refine x_bipush (v := nI 16) dX12_begin__4 rfl ?_
  refine y_icmp_ge 29 dX12_begin__6 (by omega) (by omega) (fun h_6 => absurd h_6 (by omega)) (fun h_6 => ?_)
  refine x_aload_n dX12_begin__9 rfl ?_
  refine g_X12_50 dX12_begin__10 ?_
  refine x_aload_n dX12_begin__13 rfl ?_
  refine g_X12_277 dX12_begin__14 ?_
  rw [hT.1]
  refine x_iload_n dX12_begin__17 rfl ?_
  refine x_ias dX12_begin__18 (⟨by decide, rfl, rfl, by decide⟩ : Ar 48 16) (by omega) ?_
  refine x_aload_n dX12_begin__19 rfl ?_
  refine x_dup dX12_begin__20 rfl ?_
  refine g_X12_277 dX12_begin__21 ?_
  rw [up1_ne _ _ _ (by decide), hT.1]
  refine y_iconst (a := 1) dX12_begin__24 rfl ?_
  refine y_iadd dX12_begin__25 ?_
  refine p_X12_277 dX12_begin__26 ?_
  refine x_vret dX12_begin__29 ?_
  exact ⟨rfl, hT.snoc b, rfl, fun c c1 c2 => by rw [up1_ne _ _ _ c1, up1_ne _ _ _ c2], fun k hk => by rw [up1_at, if_neg (fun y => hk y.2), up1_ne _ _ _ (by decide)]⟩
set_option maxRecDepth 100000 in
set_option maxHeartbeats 4000000 in
theorem m_lent10 {Ω : Om} {l : Launch} {M : Mem} {T : List Nat} (hT : TmR M T) {v : Nat → Nat} (hS : MsR M v) (hw : Wv v) {g : Nat} (hg : g < v 2) (h16 : T.length < 16) : Ct Ω l yX12_lent cX12_lent 3 2 (some .int) [.ref (Ω.2.2 34), .int (nI g), .int (nI 10)] M (fun ro M' => ro = some (.int (nI (v (21 + g)))) ∧ TmR M' (T ++ [10]) ∧ FTm M M') := by
  have hn := hw.nums
  have hn := hw.nums
  have hgo := hw.goer hg
  refine ct_of (by decide) (Nat.le_of_ble_eq_true rfl) ?_
  intro p e R s m args below meth c
  refine x_aload_n dX12_lent_0 rfl ?_
  refine x_iload_n dX12_lent_1 rfl ?_
  refine q_X12_280 (m_beg hT (by first | omega | (simp only [List.length_append, List.length_singleton, List.length_cons, List.length_nil]; omega))) dX12_lent_2 rfl ?_
  rintro _ M1 ⟨rfl, hT1, hF1⟩
  refine x_iload_n dX12_lent_5 rfl ?_
  refine x_bipush (v := nI 10) dX12_lent_6 rfl ?_
  refine y_icmp_ne 23 dX12_lent_8 (by decide) (by decide) (fun h => absurd rfl h) (fun _ => ?_)
  refine x_aload_n dX12_lent_11 rfl ?_
  refine g_X12_19 dX12_lent_12 ?_
  refine x_bipush (v := nI 21) dX12_lent_15 rfl ?_
  refine x_iload_n dX12_lent_17 rfl ?_
  refine y_iadd dX12_lent_18 ?_
  refine x_ial dX12_lent_19 (⟨by decide, rfl, rfl, by decide⟩ : Ar 38 45) (by omega) ?_
  rw [(hS.tm hF1).at (by omega)]
  refine x_goto 24 dX12_lent_20 ?_
  refine x_iret dX12_lent_24 ?_
  exact ⟨rfl, hT1, hF1⟩
set_option maxRecDepth 100000 in
set_option maxHeartbeats 4000000 in
theorem m_lent20 {Ω : Om} {l : Launch} {M : Mem} {T : List Nat} (hT : TmR M T) {v : Nat → Nat} (hS : MsR M v) (hw : Wv v) {g : Nat} (hg : g < v 2) (h16 : T.length < 16) : Ct Ω l yX12_lent cX12_lent 3 2 (some .int) [.ref (Ω.2.2 34), .int (nI g), .int (nI 20)] M (fun ro M' => ro = some (.int (nI g)) ∧ TmR M' (T ++ [20]) ∧ FTm M M') := by
  have hn := hw.nums
  have hn := hw.nums
  have hgo := hw.goer hg
  refine ct_of (by decide) (Nat.le_of_ble_eq_true rfl) ?_
  intro p e R s m args below meth c
  refine x_aload_n dX12_lent_0 rfl ?_
  refine x_iload_n dX12_lent_1 rfl ?_
  refine q_X12_280 (m_beg hT (by first | omega | (simp only [List.length_append, List.length_singleton, List.length_cons, List.length_nil]; omega))) dX12_lent_2 rfl ?_
  rintro _ M1 ⟨rfl, hT1, hF1⟩
  refine x_iload_n dX12_lent_5 rfl ?_
  refine x_bipush (v := nI 10) dX12_lent_6 rfl ?_
  refine y_icmp_ne 23 dX12_lent_8 (by decide) (by decide) (fun _ => ?_) (fun h => absurd h (by decide))
  refine x_iload_n dX12_lent_23 rfl ?_
  refine x_iret dX12_lent_24 ?_
  exact ⟨rfl, hT1, hF1⟩
set_option maxRecDepth 100000 in
set_option maxHeartbeats 4000000 in
theorem m_climberMark {Ω : Om} {l : Launch} {M : Mem} {T : List Nat} (hT : TmR M T) {v : Nat → Nat} (hS : MsR M v) (hw : Wv v) {g : Nat} (hg : g < v 2) (h16 : T.length < 8) : Ct Ω l yX12_climberMark cX12_climberMark 2 3 (some .int) [.ref (Ω.2.2 34), .int (nI g)] M (fun ro M' => ro = some (.int (nI g + nI (v (33 + g)))) ∧ TmR M' (T ++ [21, 20]) ∧ FTm M M') := by
  have hn := hw.nums
  have hn := hw.nums
  have hgo := hw.goer hg
  refine ct_of (by decide) (Nat.le_of_ble_eq_true rfl) ?_
  intro p e R s m args below meth c
  refine x_aload_n dX12_climberMark_0 rfl ?_
  refine x_bipush (v := nI 21) dX12_climberMark_1 rfl ?_
  refine q_X12_280 (m_beg hT (by first | omega | (simp only [List.length_append, List.length_singleton, List.length_cons, List.length_nil]; omega))) dX12_climberMark_3 rfl ?_
  rintro _ M1 ⟨rfl, hT1, hF1⟩
  refine x_aload_n dX12_climberMark_6 rfl ?_
  refine x_iload_n dX12_climberMark_7 rfl ?_
  refine x_bipush (v := nI 20) dX12_climberMark_8 rfl ?_
  refine q_X12_283 (m_lent20 hT1 (hS.tm hF1) hw hg (by first | omega | (simp only [List.length_append, List.length_singleton, List.length_cons, List.length_nil]; omega))) dX12_climberMark_10 rfl ?_
  rintro _ M2 ⟨rfl, hT2, hF2⟩
  refine x_aload_n dX12_climberMark_13 rfl ?_
  refine g_X12_19 dX12_climberMark_14 ?_
  refine x_bipush (v := nI 33) dX12_climberMark_17 rfl ?_
  refine x_iload_n dX12_climberMark_19 rfl ?_
  refine y_iadd dX12_climberMark_20 ?_
  refine x_ial dX12_climberMark_21 (⟨by decide, rfl, rfl, by decide⟩ : Ar 38 45) (by omega) ?_
  rw [((hS.tm hF1).tm hF2).at (by omega)]
  refine x_iadd dX12_climberMark_22 ?_
  refine x_iret dX12_climberMark_23 ?_
  exact ⟨rfl, by simpa using hT2, hF1.tr hF2⟩
set_option maxRecDepth 100000 in
set_option maxHeartbeats 4000000 in
theorem m_fetcherSize {Ω : Om} {l : Launch} {M : Mem} {T : List Nat} (hT : TmR M T) {v : Nat → Nat} (hS : MsR M v) (hw : Wv v) {g : Nat} (hg : g < v 2) (h16 : T.length < 8) : Ct Ω l yX12_fetcherSize cX12_fetcherSize 2 3 (some .int) [.ref (Ω.2.2 34), .int (nI g)] M (fun ro M' => ro = some (.int (nI (v (21 + g)) - nI 100)) ∧ TmR M' (T ++ [13, 10]) ∧ FTm M M') := by
  have hn := hw.nums
  have hn := hw.nums
  have hgo := hw.goer hg
  refine ct_of (by decide) (Nat.le_of_ble_eq_true rfl) ?_
  intro p e R s m args below meth c
  refine x_aload_n dX12_fetcherSize_0 rfl ?_
  refine x_bipush (v := nI 13) dX12_fetcherSize_1 rfl ?_
  refine q_X12_280 (m_beg hT (by first | omega | (simp only [List.length_append, List.length_singleton, List.length_cons, List.length_nil]; omega))) dX12_fetcherSize_3 rfl ?_
  rintro _ M1 ⟨rfl, hT1, hF1⟩
  refine x_aload_n dX12_fetcherSize_6 rfl ?_
  refine x_iload_n dX12_fetcherSize_7 rfl ?_
  refine x_bipush (v := nI 10) dX12_fetcherSize_8 rfl ?_
  refine q_X12_283 (m_lent10 hT1 (hS.tm hF1) hw hg (by first | omega | (simp only [List.length_append, List.length_singleton, List.length_cons, List.length_nil]; omega))) dX12_fetcherSize_10 rfl ?_
  rintro _ M2 ⟨rfl, hT2, hF2⟩
  refine x_bipush (v := nI 100) dX12_fetcherSize_13 rfl ?_
  refine x_isub dX12_fetcherSize_15 ?_
  refine x_iret dX12_fetcherSize_16 ?_
  exact ⟨rfl, by simpa using hT2, hF1.tr hF2⟩
set_option maxRecDepth 100000 in
set_option maxHeartbeats 4000000 in
theorem m_sizeOfFetcher {Ω : Om} {l : Launch} {M : Mem} {T : List Nat} (hT : TmR M T) {v : Nat → Nat} (hS : MsR M v) (hw : Wv v) {g : Nat} (hg : g < v 2) (h16 : T.length < 7) (hk : 4 ≤ v (15 + g)) : Ct Ω l yX12_sizeOfFetcher cX12_sizeOfFetcher 2 4 (some .int) [.ref (Ω.2.2 34), .int (nI g)] M (fun ro M' => ro = some (.int (if v (15 + g) = 4 then nI (v (21 + g)) - nI 100 else nI 2 * (nI (v (21 + g)) - nI 100))) ∧ TmR M' (T ++ (if v (15 + g) = 4 then [13, 10] else [14, 13, 10])) ∧ FTm M M') := by
  have hn := hw.nums
  have hn := hw.nums
  have hgo := hw.goer hg
  refine ct_of (by decide) (Nat.le_of_ble_eq_true rfl) ?_
  intro p e R s m args below meth c
  refine x_aload_n dX12_sizeOfFetcher_0 rfl ?_
  refine g_X12_19 dX12_sizeOfFetcher_1 ?_
  refine x_bipush (v := nI 15) dX12_sizeOfFetcher_4 rfl ?_
  refine x_iload_n dX12_sizeOfFetcher_6 rfl ?_
  refine y_iadd dX12_sizeOfFetcher_7 ?_
  refine x_ial dX12_sizeOfFetcher_8 (⟨by decide, rfl, rfl, by decide⟩ : Ar 38 45) (by omega) ?_
  rw [hS.at (by omega)]
  refine y_iconst (a := 5) dX12_sizeOfFetcher_9 rfl ?_
  refine y_icmp_ne 27 dX12_sizeOfFetcher_10 (by omega) (by omega) (fun h_10 => ?_) (fun h_10 => ?_)
  · refine x_aload_n dX12_sizeOfFetcher_27 rfl ?_
    refine x_iload_n dX12_sizeOfFetcher_28 rfl ?_
    refine q_X12_286 (m_fetcherSize hT hS hw hg (by omega)) dX12_sizeOfFetcher_29 rfl ?_
    rintro _ M2 ⟨rfl, hT2, hF2⟩
    refine x_iret dX12_sizeOfFetcher_32 ?_
    first
      | (rw [if_neg (by omega), if_neg (by omega)]
         exact ⟨rfl, by simpa using hT2, hF1.tr hF2⟩)
      | (rw [if_pos (by omega), if_pos (by omega)]
         exact ⟨rfl, hT2, hF2⟩)
  · refine x_aload_n dX12_sizeOfFetcher_13 rfl ?_
    refine x_bipush (v := nI 14) dX12_sizeOfFetcher_14 rfl ?_
    refine q_X12_280 (m_beg hT (by first | omega | (simp only [List.length_append, List.length_singleton, List.length_cons, List.length_nil]; omega))) dX12_sizeOfFetcher_16 rfl ?_
    rintro _ M1 ⟨rfl, hT1, hF1⟩
    refine y_iconst (a := 2) dX12_sizeOfFetcher_19 rfl ?_
    refine x_aload_n dX12_sizeOfFetcher_20 rfl ?_
    refine x_iload_n dX12_sizeOfFetcher_21 rfl ?_
    refine q_X12_286 (m_fetcherSize hT1 (hS.tm hF1) hw hg (by first | omega | (simp only [List.length_append, List.length_singleton, List.length_cons, List.length_nil]; omega))) dX12_sizeOfFetcher_22 rfl ?_
    rintro _ M2 ⟨rfl, hT2, hF2⟩
    refine x_imul dX12_sizeOfFetcher_25 ?_
    refine x_iret dX12_sizeOfFetcher_26 ?_
    first
      | (rw [if_neg (by omega), if_neg (by omega)]
         exact ⟨rfl, by simpa using hT2, hF1.tr hF2⟩)
      | (rw [if_pos (by omega), if_pos (by omega)]
         exact ⟨rfl, hT2, hF2⟩)
set_option maxRecDepth 100000 in
set_option maxHeartbeats 4000000 in
theorem m_markOf {Ω : Om} {l : Launch} {M : Mem} {T : List Nat} (hT : TmR M T) {v : Nat → Nat} (hS : MsR M v) (hw : Wv v) {g : Nat} (hg : g < v 2) (h16 : T.length < 5) : Ct Ω l yX12_markOf cX12_markOf 4 5 (some .int) [.ref (Ω.2.2 34), .int (nI g)] M (fun ro M' => ro = some (.int (mkA (v (15 + g)) g (v (21 + g)) (v (33 + g))).1) ∧ TmR M' (T ++ (mkA (v (15 + g)) g (v (21 + g)) (v (33 + g))).2) ∧ FTm M M') := by
  have hn := hw.nums
  have hn := hw.nums
  have hgo := hw.goer hg
  refine ct_of (by decide) (Nat.le_of_ble_eq_true rfl) ?_
  intro p e R s m args below meth c
  refine x_aload_n dX12_markOf_0 rfl ?_
  refine g_X12_19 dX12_markOf_1 ?_
  refine x_bipush (v := nI 15) dX12_markOf_4 rfl ?_
  refine x_iload_n dX12_markOf_6 rfl ?_
  refine y_iadd dX12_markOf_7 ?_
  refine x_ial dX12_markOf_8 (⟨by decide, rfl, rfl, by decide⟩ : Ar 38 45) (by omega) ?_
  rw [hS.at (by omega)]
  refine x_istore_n dX12_markOf_9 ?_
  refine x_iload_n dX12_markOf_10 rfl ?_
  refine y_iconst (a := 2) dX12_markOf_11 rfl ?_
  refine y_icmp_ne 29 dX12_markOf_12 (by omega) (by omega) (fun h_12 => ?_) (fun h_12 => ?_)
  · refine x_iload_n dX12_markOf_29 rfl ?_
    refine y_iconst (a := 3) dX12_markOf_30 rfl ?_
    refine y_icmp_ne 50 dX12_markOf_31 (by omega) (by omega) (fun h_31 => ?_) (fun h_31 => ?_)
    · refine x_iload_n dX12_markOf_50 rfl ?_
      refine y_iconst (a := 1) dX12_markOf_51 rfl ?_
      refine y_icmp_ne 61 dX12_markOf_52 (by omega) (by omega) (fun h_52 => ?_) (fun h_52 => ?_)
      · refine x_aload_n dX12_markOf_61 rfl ?_
        refine x_bipush (v := nI 23) dX12_markOf_62 rfl ?_
        refine q_X12_280 (m_beg hT (by first | omega | (simp only [List.length_append, List.length_singleton, List.length_cons, List.length_nil]; omega))) dX12_markOf_64 rfl ?_
        rintro _ M1 ⟨rfl, hT1, hF1⟩
        refine x_aload_n dX12_markOf_67 rfl ?_
        refine x_iload_n dX12_markOf_68 rfl ?_
        refine x_bipush (v := nI 20) dX12_markOf_69 rfl ?_
        refine q_X12_283 (m_lent20 hT1 (hS.tm hF1) hw hg (by first | omega | (simp only [List.length_append, List.length_singleton, List.length_cons, List.length_nil]; omega))) dX12_markOf_71 rfl ?_
        rintro _ M2 ⟨rfl, hT2, hF2⟩
        refine x_istore_n dX12_markOf_74 ?_
        refine x_iload_n dX12_markOf_75 rfl ?_
        refine x_aload_n dX12_markOf_76 rfl ?_
        refine x_iload_n dX12_markOf_77 rfl ?_
        refine q_X12_292 (m_sizeOfFetcher hT2 ((hS.tm hF1).tm hF2) hw hg (by first | omega | (simp only [List.length_append, List.length_singleton, List.length_cons, List.length_nil]; omega)) (by omega)) dX12_markOf_78 rfl ?_
        rintro _ M3 ⟨rfl, hT3, hF3⟩
        refine x_isub dX12_markOf_81 ?_
        refine x_iret dX12_markOf_82 ?_
        first
          | (have hk : v (15 + g) = 2 := by omega
             rw [hk]
             exact ⟨rfl, by simpa [mkA] using hT2, hF1.tr hF2⟩)
          | (have hk : v (15 + g) = 3 := by omega
             rw [hk]
             exact ⟨rfl, by simpa [mkA] using hT2, hF1.tr hF2⟩)
          | (have hk : v (15 + g) = 1 := by omega
             rw [hk]
             exact ⟨rfl, by simpa [mkA] using hT2, hF2⟩)
          | (have hk : v (15 + g) = 4 ∨ v (15 + g) = 5 := by omega
             rcases hk with hk | hk
             · rw [hk] at hT3 ⊢
               exact ⟨rfl, by simpa [mkA] using hT3, (hF1.tr hF2).tr hF3⟩
             · rw [hk] at hT3 ⊢
               exact ⟨rfl, by simpa [mkA] using hT3, (hF1.tr hF2).tr hF3⟩)
      · refine x_aload_n dX12_markOf_55 rfl ?_
        refine x_iload_n dX12_markOf_56 rfl ?_
        refine q_X12_289 (m_climberMark hT hS hw hg (by first | omega | (simp only [List.length_append, List.length_singleton, List.length_cons, List.length_nil]; omega))) dX12_markOf_57 rfl ?_
        rintro _ M2 ⟨rfl, hT2, hF2⟩
        refine x_iret dX12_markOf_60 ?_
        first
          | (have hk : v (15 + g) = 2 := by omega
             rw [hk]
             exact ⟨rfl, by simpa [mkA] using hT2, hF1.tr hF2⟩)
          | (have hk : v (15 + g) = 3 := by omega
             rw [hk]
             exact ⟨rfl, by simpa [mkA] using hT2, hF1.tr hF2⟩)
          | (have hk : v (15 + g) = 1 := by omega
             rw [hk]
             exact ⟨rfl, by simpa [mkA] using hT2, hF2⟩)
          | (have hk : v (15 + g) = 4 ∨ v (15 + g) = 5 := by omega
             rcases hk with hk | hk
             · rw [hk] at hT3 ⊢
               exact ⟨rfl, by simpa [mkA] using hT3, (hF1.tr hF2).tr hF3⟩
             · rw [hk] at hT3 ⊢
               exact ⟨rfl, by simpa [mkA] using hT3, (hF1.tr hF2).tr hF3⟩)
    · refine x_aload_n dX12_markOf_34 rfl ?_
      refine x_bipush (v := nI 22) dX12_markOf_35 rfl ?_
      refine q_X12_280 (m_beg hT (by first | omega | (simp only [List.length_append, List.length_singleton, List.length_cons, List.length_nil]; omega))) dX12_markOf_37 rfl ?_
      rintro _ M1 ⟨rfl, hT1, hF1⟩
      refine x_aload_n dX12_markOf_40 rfl ?_
      refine x_iload_n dX12_markOf_41 rfl ?_
      refine q_X12_289 (m_climberMark hT1 (hS.tm hF1) hw hg (by first | omega | (simp only [List.length_append, List.length_singleton, List.length_cons, List.length_nil]; omega))) dX12_markOf_42 rfl ?_
      rintro _ M2 ⟨rfl, hT2, hF2⟩
      refine x_sipush (v := nI 1000) dX12_markOf_45 rfl ?_
      refine x_isub dX12_markOf_48 ?_
      refine x_iret dX12_markOf_49 ?_
      first
        | (have hk : v (15 + g) = 2 := by omega
           rw [hk]
           exact ⟨rfl, by simpa [mkA] using hT2, hF1.tr hF2⟩)
        | (have hk : v (15 + g) = 3 := by omega
           rw [hk]
           exact ⟨rfl, by simpa [mkA] using hT2, hF1.tr hF2⟩)
        | (have hk : v (15 + g) = 1 := by omega
           rw [hk]
           exact ⟨rfl, by simpa [mkA] using hT2, hF2⟩)
        | (have hk : v (15 + g) = 4 ∨ v (15 + g) = 5 := by omega
           rcases hk with hk | hk
           · rw [hk] at hT3 ⊢
             exact ⟨rfl, by simpa [mkA] using hT3, (hF1.tr hF2).tr hF3⟩
           · rw [hk] at hT3 ⊢
             exact ⟨rfl, by simpa [mkA] using hT3, (hF1.tr hF2).tr hF3⟩)
  · refine x_aload_n dX12_markOf_15 rfl ?_
    refine x_bipush (v := nI 24) dX12_markOf_16 rfl ?_
    refine q_X12_280 (m_beg hT (by first | omega | (simp only [List.length_append, List.length_singleton, List.length_cons, List.length_nil]; omega))) dX12_markOf_18 rfl ?_
    rintro _ M1 ⟨rfl, hT1, hF1⟩
    refine y_iconst (a := 2) dX12_markOf_21 rfl ?_
    refine x_aload_n dX12_markOf_22 rfl ?_
    refine x_iload_n dX12_markOf_23 rfl ?_
    refine q_X12_289 (m_climberMark hT1 (hS.tm hF1) hw hg (by first | omega | (simp only [List.length_append, List.length_singleton, List.length_cons, List.length_nil]; omega))) dX12_markOf_24 rfl ?_
    rintro _ M2 ⟨rfl, hT2, hF2⟩
    refine x_imul dX12_markOf_27 ?_
    refine x_iret dX12_markOf_28 ?_
    first
      | (have hk : v (15 + g) = 2 := by omega
         rw [hk]
         exact ⟨rfl, by simpa [mkA] using hT2, hF1.tr hF2⟩)
      | (have hk : v (15 + g) = 3 := by omega
         rw [hk]
         exact ⟨rfl, by simpa [mkA] using hT2, hF1.tr hF2⟩)
      | (have hk : v (15 + g) = 1 := by omega
         rw [hk]
         exact ⟨rfl, by simpa [mkA] using hT2, hF2⟩)
      | (have hk : v (15 + g) = 4 ∨ v (15 + g) = 5 := by omega
         rcases hk with hk | hk
         · rw [hk] at hT3 ⊢
           exact ⟨rfl, by simpa [mkA] using hT3, (hF1.tr hF2).tr hF3⟩
         · rw [hk] at hT3 ⊢
           exact ⟨rfl, by simpa [mkA] using hT3, (hF1.tr hF2).tr hF3⟩)
set_option maxRecDepth 100000 in
set_option maxHeartbeats 4000000 in
theorem m_climberSize {Ω : Om} {l : Launch} {M : Mem} {T : List Nat} (hT : TmR M T) {v : Nat → Nat} (hS : MsR M v) (hw : Wv v) {g : Nat} (hg : g < v 2) (h16 : T.length < 3) : Ct Ω l yX12_climberSize cX12_climberSize 3 6 (some .int) [.ref (Ω.2.2 34), .int (nI g)] M (fun ro M' => ro = some (.int (nI (v (21 + g)) + (mkA (v (15 + g)) g (v (21 + g)) (v (33 + g))).1)) ∧ TmR M' (T ++ ([11, 10] ++ (mkA (v (15 + g)) g (v (21 + g)) (v (33 + g))).2)) ∧ FTm M M') := by
  have hn := hw.nums
  have hn := hw.nums
  have hgo := hw.goer hg
  refine ct_of (by decide) (Nat.le_of_ble_eq_true rfl) ?_
  intro p e R s m args below meth c
  refine x_aload_n dX12_climberSize_0 rfl ?_
  refine x_bipush (v := nI 11) dX12_climberSize_1 rfl ?_
  refine q_X12_280 (m_beg hT (by first | omega | (simp only [List.length_append, List.length_singleton, List.length_cons, List.length_nil]; omega))) dX12_climberSize_3 rfl ?_
  rintro _ M1 ⟨rfl, hT1, hF1⟩
  refine x_aload_n dX12_climberSize_6 rfl ?_
  refine x_iload_n dX12_climberSize_7 rfl ?_
  refine x_bipush (v := nI 10) dX12_climberSize_8 rfl ?_
  refine q_X12_283 (m_lent10 hT1 (hS.tm hF1) hw hg (by first | omega | (simp only [List.length_append, List.length_singleton, List.length_cons, List.length_nil]; omega))) dX12_climberSize_10 rfl ?_
  rintro _ M2 ⟨rfl, hT2, hF2⟩
  refine x_istore_n dX12_climberSize_13 ?_
  refine x_iload_n dX12_climberSize_14 rfl ?_
  refine x_aload_n dX12_climberSize_15 rfl ?_
  refine x_iload_n dX12_climberSize_16 rfl ?_
  refine q_X12_295 (m_markOf hT2 ((hS.tm hF1).tm hF2) hw hg (by first | omega | (simp only [List.length_append, List.length_singleton, List.length_cons, List.length_nil]; omega))) dX12_climberSize_17 rfl ?_
  rintro _ M3 ⟨rfl, hT3, hF3⟩
  refine x_iadd dX12_climberSize_20 ?_
  refine x_iret dX12_climberSize_21 ?_
  exact ⟨rfl, by simpa using hT3, (hF1.tr hF2).tr hF3⟩
set_option maxRecDepth 100000 in
set_option maxHeartbeats 4000000 in
theorem m_sizeOf {Ω : Om} {l : Launch} {M : Mem} {T : List Nat} (hT : TmR M T) {v : Nat → Nat} (hS : MsR M v) (hw : Wv v) {g : Nat} (hg : g < v 2) (h16 : T.length < 2) : Ct Ω l yX12_sizeOf cX12_sizeOf 3 7 (some .int) [.ref (Ω.2.2 34), .int (nI g)] M (fun ro M' => ro = some (.int (szA (v (15 + g)) g (v (21 + g)) (v (33 + g))).1) ∧ TmR M' (T ++ (szA (v (15 + g)) g (v (21 + g)) (v (33 + g))).2) ∧ FTm M M') := by
  have hn := hw.nums
  have hn := hw.nums
  have hgo := hw.goer hg
  refine ct_of (by decide) (Nat.le_of_ble_eq_true rfl) ?_
  intro p e R s m args below meth c
  refine x_aload_n dX12_sizeOf_0 rfl ?_
  refine g_X12_19 dX12_sizeOf_1 ?_
  refine x_bipush (v := nI 15) dX12_sizeOf_4 rfl ?_
  refine x_iload_n dX12_sizeOf_6 rfl ?_
  refine y_iadd dX12_sizeOf_7 ?_
  refine x_ial dX12_sizeOf_8 (⟨by decide, rfl, rfl, by decide⟩ : Ar 38 45) (by omega) ?_
  rw [hS.at (by omega)]
  refine x_istore_n dX12_sizeOf_9 ?_
  refine x_iload_n dX12_sizeOf_10 rfl ?_
  refine y_iconst (a := 2) dX12_sizeOf_11 rfl ?_
  refine y_icmp_ne 28 dX12_sizeOf_12 (by omega) (by omega) (fun h_12 => ?_) (fun h_12 => ?_)
  · refine x_iload_n dX12_sizeOf_28 rfl ?_
    refine y_iconst (a := 4) dX12_sizeOf_29 rfl ?_
    refine y_icmp_lt 41 dX12_sizeOf_30 (by omega) (by omega) (fun h_30 => ?_) (fun h_30 => ?_)
    · refine x_aload_n dX12_sizeOf_41 rfl ?_
      refine x_iload_n dX12_sizeOf_42 rfl ?_
      refine q_X12_298 (m_climberSize hT hS hw hg (by first | omega | (simp only [List.length_append, List.length_singleton, List.length_cons, List.length_nil]; omega))) dX12_sizeOf_43 rfl ?_
      rintro _ M2 ⟨rfl, hT2, hF2⟩
      refine x_iret dX12_sizeOf_46 ?_
      first
        | (have hk : v (15 + g) = 2 := by omega
           rw [hk] at hT2 ⊢
           exact ⟨rfl, by simpa [szA, mkA] using hT2, hF1.tr hF2⟩)
        | (have hk : v (15 + g) = 1 ∨ v (15 + g) = 3 := by omega
           rcases hk with hk | hk
           · rw [hk] at hT2 ⊢
             exact ⟨rfl, by simpa [szA, mkA] using hT2, hF2⟩
           · rw [hk] at hT2 ⊢
             exact ⟨rfl, by simpa [szA, mkA] using hT2, hF2⟩)
        | (have hk : v (15 + g) = 4 ∨ v (15 + g) = 5 := by omega
           rcases hk with hk | hk
           · rw [hk] at hT2 ⊢
             exact ⟨rfl, by simpa [szA] using hT2, hF2⟩
           · rw [hk] at hT2 ⊢
             exact ⟨rfl, by simpa [szA] using hT2, hF2⟩)
    · refine x_aload_n dX12_sizeOf_33 rfl ?_
      refine x_iload_n dX12_sizeOf_34 rfl ?_
      refine q_X12_292 (m_sizeOfFetcher hT hS hw hg (by omega) (by omega)) dX12_sizeOf_35 rfl ?_
      rintro _ M2 ⟨rfl, hT2, hF2⟩
      refine x_goto 46 dX12_sizeOf_38 ?_
      refine x_iret dX12_sizeOf_46 ?_
      first
        | (have hk : v (15 + g) = 2 := by omega
           rw [hk] at hT2 ⊢
           exact ⟨rfl, by simpa [szA, mkA] using hT2, hF1.tr hF2⟩)
        | (have hk : v (15 + g) = 1 ∨ v (15 + g) = 3 := by omega
           rcases hk with hk | hk
           · rw [hk] at hT2 ⊢
             exact ⟨rfl, by simpa [szA, mkA] using hT2, hF2⟩
           · rw [hk] at hT2 ⊢
             exact ⟨rfl, by simpa [szA, mkA] using hT2, hF2⟩)
        | (have hk : v (15 + g) = 4 ∨ v (15 + g) = 5 := by omega
           rcases hk with hk | hk
           · rw [hk] at hT2 ⊢
             exact ⟨rfl, by simpa [szA] using hT2, hF2⟩
           · rw [hk] at hT2 ⊢
             exact ⟨rfl, by simpa [szA] using hT2, hF2⟩)
  · refine x_aload_n dX12_sizeOf_15 rfl ?_
    refine x_bipush (v := nI 12) dX12_sizeOf_16 rfl ?_
    refine q_X12_280 (m_beg hT (by first | omega | (simp only [List.length_append, List.length_singleton, List.length_cons, List.length_nil]; omega))) dX12_sizeOf_18 rfl ?_
    rintro _ M1 ⟨rfl, hT1, hF1⟩
    refine x_aload_n dX12_sizeOf_21 rfl ?_
    refine x_iload_n dX12_sizeOf_22 rfl ?_
    refine q_X12_298 (m_climberSize hT1 (hS.tm hF1) hw hg (by first | omega | (simp only [List.length_append, List.length_singleton, List.length_cons, List.length_nil]; omega))) dX12_sizeOf_23 rfl ?_
    rintro _ M2 ⟨rfl, hT2, hF2⟩
    refine x_ineg dX12_sizeOf_26 ?_
    refine x_iret dX12_sizeOf_27 ?_
    first
      | (have hk : v (15 + g) = 2 := by omega
         rw [hk] at hT2 ⊢
         exact ⟨rfl, by simpa [szA, mkA] using hT2, hF1.tr hF2⟩)
      | (have hk : v (15 + g) = 1 ∨ v (15 + g) = 3 := by omega
         rcases hk with hk | hk
         · rw [hk] at hT2 ⊢
           exact ⟨rfl, by simpa [szA, mkA] using hT2, hF2⟩
         · rw [hk] at hT2 ⊢
           exact ⟨rfl, by simpa [szA, mkA] using hT2, hF2⟩)
      | (have hk : v (15 + g) = 4 ∨ v (15 + g) = 5 := by omega
         rcases hk with hk | hk
         · rw [hk] at hT2 ⊢
           exact ⟨rfl, by simpa [szA] using hT2, hF2⟩
         · rw [hk] at hT2 ⊢
           exact ⟨rfl, by simpa [szA] using hT2, hF2⟩)
set_option maxRecDepth 100000 in
set_option maxHeartbeats 4000000 in
theorem m_ask {Ω : Om} {l : Launch} {M : Mem} {σ : Sg} (hM : IM M σ) (hW : SgW σ) {x w : Int32} : Ct Ω l yX12_ask cX12_ask 3 8 (some .int) [.ref (Ω.2.2 34), .int x, .int w] M (fun ro M' => ro = some (.int (R_ask σ x w).1) ∧ IM M' (R_ask σ x w).2 ∧ FrC M M') := by
  have hS := hM.ms
  have hLv : Lv σ.v := hW.2.2.1
  have hw := hLv.wv
  have hn := hw.nums
  have hth := hM.there
  refine ct_of (by decide) (Nat.le_of_ble_eq_true rfl) ?_
  intro p e R s m args below meth c
  refine x_aload_n dX12_ask_0 rfl ?_
  refine x_iload_n dX12_ask_1 rfl ?_
  refine q_X12_209 (m_isGoer hS (by omega)) dX12_ask_2 rfl ?_
  rintro _ _ ⟨rfl, rfl⟩
  refine z_if_eq 18 dX12_ask_5 (fun h_5 => ?_) (fun h_5 => ?_)
  · refine x_ldc dX12_ask_18 k_X12_70 ?_
    refine x_iret dX12_ask_20 ?_
    unfold R_ask
    first
      | (rw [if_neg (by simp [*])]; exact ⟨rfl, hM, FrC.rf⟩)
      | (rw [if_pos ⟨h_5, h_15⟩, tg]
         rw [List.nil_append] at hT2
         first
           | (rw [show askA σ.v g (nI z) = szA (σ.v (15 + g)) g (σ.v (21 + g)) (σ.v (33 + g)) by unfold askA; rw [if_pos (show nI z = nI 0 from h_27)]]
              exact ⟨rfl, hM.setTr hT2 (hF0.tr hF2), (hF0.tr hF2).fr⟩)
           | (rw [show askA σ.v g (nI z) = mkA (σ.v (15 + g)) g (σ.v (21 + g)) (σ.v (33 + g)) by unfold askA; rw [if_neg (show ¬ nI z = nI 0 from h_27)]]
              exact ⟨rfl, hM.setTr hT2 (hF0.tr hF2), (hF0.tr hF2).fr⟩))
  · obtain ⟨g, hg, rfl⟩ := inR_nI h_5 (by omega)
    obtain ⟨hI, h999⟩ := hLv.goer hg
    have tg := tN_nI (g := g) (by omega)
    have hgo := hw.goer hg
    refine x_iload_n dX12_ask_8 rfl ?_
    refine x_i2l dX12_ask_9 ?_
    refine x_lconst (v := lN 0) dX12_ask_10 rfl ?_
    refine x_lconst (v := lN 1) dX12_ask_11 rfl ?_
    refine q_X12_60 (m_inB (by decide) (by decide)) dX12_ask_12 rfl ?_
    rintro _ _ ⟨rfl, rfl⟩
    refine z_if_ne 21 dX12_ask_15 (fun h_15 => ?_) (fun h_15 => ?_)
    · obtain ⟨z, _, z2, rfl⟩ := inB_nI h_15 (by decide)
      refine x_aload_n dX12_ask_21 rfl ?_
      refine y_iconst (a := 0) dX12_ask_22 rfl ?_
      refine p_X12_277 dX12_ask_23 ?_
      have hT0 : TmR (up1 M 34 25 (nI 0)) [] := ⟨by rw [up1_at, if_pos ⟨rfl, rfl⟩]; rfl, fun j hj => absurd hj (Nat.not_lt_zero _)⟩
      have hF0 : FTm M (up1 M 34 25 (nI 0)) := ⟨rfl, fun c c1 _ => up1_ne _ _ _ c1, fun k hk => by rw [up1_at, if_neg (fun y => hk y.2)]⟩
      refine x_iload_n dX12_ask_26 rfl ?_
      refine x_if_ne 38 dX12_ask_27 (fun h_27 => ?_) (fun h_27 => ?_)
      · refine x_aload_n dX12_ask_38 rfl ?_
        refine x_iload_n dX12_ask_39 rfl ?_
        refine q_X12_295 (m_markOf hT0 (hS.tm hF0) hw hg (by decide)) dX12_ask_40 rfl ?_
        rintro _ M2 ⟨rfl, hT2, hF2⟩
        refine x_iret dX12_ask_43 ?_
        unfold R_ask
        first
          | (rw [if_neg (by simp [*])]; exact ⟨rfl, hM, FrC.rf⟩)
          | (rw [if_pos ⟨h_5, h_15⟩, tg]
             rw [List.nil_append] at hT2
             first
               | (rw [show askA σ.v g (nI z) = szA (σ.v (15 + g)) g (σ.v (21 + g)) (σ.v (33 + g)) by unfold askA; rw [if_pos (show nI z = nI 0 from h_27)]]
                  exact ⟨rfl, hM.setTr hT2 (hF0.tr hF2), (hF0.tr hF2).fr⟩)
               | (rw [show askA σ.v g (nI z) = mkA (σ.v (15 + g)) g (σ.v (21 + g)) (σ.v (33 + g)) by unfold askA; rw [if_neg (show ¬ nI z = nI 0 from h_27)]]
                  exact ⟨rfl, hM.setTr hT2 (hF0.tr hF2), (hF0.tr hF2).fr⟩))
      · refine x_aload_n dX12_ask_30 rfl ?_
        refine x_iload_n dX12_ask_31 rfl ?_
        refine q_X12_301 (m_sizeOf hT0 (hS.tm hF0) hw hg (by decide)) dX12_ask_32 rfl ?_
        rintro _ M2 ⟨rfl, hT2, hF2⟩
        refine x_goto 43 dX12_ask_35 ?_
        refine x_iret dX12_ask_43 ?_
        unfold R_ask
        first
          | (rw [if_neg (by simp [*])]; exact ⟨rfl, hM, FrC.rf⟩)
          | (rw [if_pos ⟨h_5, h_15⟩, tg]
             rw [List.nil_append] at hT2
             first
               | (rw [show askA σ.v g (nI z) = szA (σ.v (15 + g)) g (σ.v (21 + g)) (σ.v (33 + g)) by unfold askA; rw [if_pos (show nI z = nI 0 from h_27)]]
                  exact ⟨rfl, hM.setTr hT2 (hF0.tr hF2), (hF0.tr hF2).fr⟩)
               | (rw [show askA σ.v g (nI z) = mkA (σ.v (15 + g)) g (σ.v (21 + g)) (σ.v (33 + g)) by unfold askA; rw [if_neg (show ¬ nI z = nI 0 from h_27)]]
                  exact ⟨rfl, hM.setTr hT2 (hF0.tr hF2), (hF0.tr hF2).fr⟩))
    · refine x_ldc dX12_ask_18 k_X12_70 ?_
      refine x_iret dX12_ask_20 ?_
      unfold R_ask
      first
        | (rw [if_neg (by simp [*])]; exact ⟨rfl, hM, FrC.rf⟩)
        | (rw [if_pos ⟨h_5, h_15⟩, tg]
           rw [List.nil_append] at hT2
           first
             | (rw [show askA σ.v g (nI z) = szA (σ.v (15 + g)) g (σ.v (21 + g)) (σ.v (33 + g)) by unfold askA; rw [if_pos (show nI z = nI 0 from h_27)]]
                exact ⟨rfl, hM.setTr hT2 (hF0.tr hF2), (hF0.tr hF2).fr⟩)
             | (rw [show askA σ.v g (nI z) = mkA (σ.v (15 + g)) g (σ.v (21 + g)) (σ.v (33 + g)) by unfold askA; rw [if_neg (show ¬ nI z = nI 0 from h_27)]]
                exact ⟨rfl, hM.setTr hT2 (hF0.tr hF2), (hF0.tr hF2).fr⟩))
