/-! LADDERSPRINGS: who, rotten; rows; feed (laid by gen_ls5.py) -/
theorem Td_told {M : Mem} {r i n g z : Nat} (hr : Rw r) (hz : M.1 r 2 = nI z) (h1 : i + n ≤ z) (h2 : z ≤ 40) : Td (toldM M r (nI i) (nI n) (nI g)) r i n g z := by
  have hr' := hr
  obtain ⟨a1, a2, a3⟩ := hr'
  refine ⟨rfl, hr, ?_, ?_, ?_, ?_, h1, h2⟩
  · simp [toldM, up1_at]
  · simp [toldM, up1_at]
  · simp [toldM, up1_at]
  · unfold toldM
    rw [up1_ne _ _ _ (by omega), up1_ne _ _ _ (by omega), up1_ne _ _ _ (by omega)]
    exact hz
/-- a row's size, in naturals -/
theorem RowsW.nat {σ : Sg} (h : RowsW σ) {r : Nat} (hr : r < 8) (hm : ¬ σ.sz r = -1) : ∃ z, z ≤ 40 ∧ σ.sz r = nI z := by
  rcases (h r hr).2 with z | z
  · exact absurd z hm
  · exact z
def upF1 (f : Nat → Int32) (k : Nat) (x : Int32) : Nat → Int32 := fun j => if j = k then x else f j
def upF2 (f : Nat → Nat → Int32) (r k : Nat) (x : Int32) : Nat → Nat → Int32 := fun q j => if q = r ∧ j = k then x else f q j
def R_row (σ : Sg) (x a n : Int32) : Int32 × Sg := if inR x 8 = true ∧ inB a 0 2 = true ∧ n.toInt ≤ 40 then
    (if n.toInt < 0 then (-1000014, σ.uSt (nI 4)) else (n, σ.uRow (upF1 σ.ln (tN x) a) (upF1 σ.sz (tN x) n) (fun q j => if q = tN x then nI 0 else σ.it q j) (nI 0)))
  else (-1000001, σ)
def R_set (σ : Sg) (x i y : Int32) : Int32 × Sg := if inR x 8 = true then
    (if σ.sz (tN x) = -1 then (-1000011, σ.uSt (nI 1)) else if spn (σ.sz (tN x)) i (nI 1) = true then (asL (σ.ln (tN x)) y, σ.uRow σ.ln σ.sz (upF2 σ.it (tN x) (tN i) (asL (σ.ln (tN x)) y)) (nI 0)) else (-1000012, σ.uSt (nI 2)))
  else (-1000001, σ)
def R_copy (σ : Sg) (a i b j n : Int32) : Int32 × Sg := if inR a 8 = true ∧ inR b 8 = true then
    (if σ.sz (tN a) = -1 ∨ σ.sz (tN b) = -1 then (-1000011, σ.uSt (nI 1)) else if σ.ln (tN a) = σ.ln (tN b) then (if spn (σ.sz (tN a)) i n = true ∧ spn (σ.sz (tN b)) j n = true then (n, σ.uRow σ.ln σ.sz (fun q k => if q = tN b ∧ tN j ≤ k ∧ k < tN j + tN n then σ.it (tN a) (tN i + (k - tN j)) else σ.it q k) (nI 0)) else (-1000012, σ.uSt (nI 2))) else (-1000015, σ.uSt (nI 5)))
  else (-1000001, σ)
def R_drop (σ : Sg) (x : Int32) : Int32 × Sg := if inR x 8 = true then
    (if σ.sz (tN x) = -1 then (-1000011, σ.uSt (nI 1)) else (σ.sz (tN x), σ.uRow σ.ln (upF1 σ.sz (tN x) (-1)) σ.it (nI 0)))
  else (-1000001, σ)
def R_feed (σ : Sg) (x : Int32) : Int32 × Sg := if inB x 0 255 = true then
    (if σ.tn < 100 then (nI (σ.tn + 1), σ.uTape (σ.tn + 1) (fun k => if k = σ.tn then tN x else σ.tb k)) else (-1000003, σ))
  else (-1000001, σ)
/-- the rows change, and the finding -/
theorem IC.setRows {M M' : Mem} {σ : Sg} (h : IC M σ) {a b : Nat → Int32} {c : Nat → Nat → Int32} {x : Int32} (hr : RowsC M' (σ.uRow a b c x)) (h12 : M'.1 0 12 = x) (e0 : ∀ k, k ≠ 12 → M'.1 0 k = M.1 0 k) (e : ∀ d, ¬ (18 ≤ d ∧ d < 34) → d ≠ 0 → M'.1 d = M.1 d) : IC M' (σ.uRow a b c x) := by
  obtain ⟨h1, h2, h3, h4, h5, h6, h7, h8, h9⟩ := h
  exact ⟨hr, h12, TapeC.keep (σ := σ) h3 (fun c a b => e c (by omega) (by omega)), (e0 11 (by decide)).trans h4, h5.same (fun k hk => e _ (by omega) (by omega)), ActsC.keep (σ := σ) h6 (e0 8 (by decide)) (e0 9 (by decide)) (fun c a b => e c (by omega) (by omega)), ImgC.keep (σ := σ) h7 (e0 10 (by decide)) (fun c a b => e c (by omega) (by omega)), TrC.keep (σ := σ) h8 (fun c a b => e c (by omega) (by omega)), h9.keep (by rw [e 14 (by omega) (by omega)]) (by rw [e 14 (by omega) (by omega)]) (by rw [e 14 (by omega) (by omega)]) (e 16 (by omega) (by omega)) (fun c a b => e c (by omega) (by omega))⟩

set_option maxRecDepth 100000 in
set_option maxHeartbeats 4000000 in
theorem c_who {Ω : Om} {l : Launch} {M : Mem} {σ : Sg} (hC : IC M σ) (hW : SgW σ) {x w o r i n : Int32} : Ct Ω l yX11_who cX11_who 8 8 (some .int) [.ref (Ω.2.2 0), .int x, .int w, .int o, .int r, .int i, .int n] M (fun ro M' => ro = some (.int (R_who σ x w o r i n).1) ∧ IC M' (R_who σ x w o r i n).2 ∧ FrM M M') := by
  have hL49 : Lk 49 := Lk49
  have hL57 : Lk 57 := Lk57
  have hR := hC.lake
  have hLv : Lv σ.v := hW.2.2.1
  have hw := hLv.wv
  have hn := hw.nums
  have hL65 : Lk 65 := Lk65
  refine ct_of (by decide) (Nat.le_of_ble_eq_true rfl) ?_
  intro p e R s m args below meth c
  refine x_aload_n dX11_who_0 rfl ?_
  refine x_iload_n dX11_who_1 rfl ?_
  refine q_X11_180 (c_isGoer hR hw) dX11_who_2 rfl ?_
  rintro _ _ ⟨rfl, rfl⟩
  refine z_if_eq 44 dX11_who_5 (fun h_5 => ?_) (fun h_5 => ?_)
  · refine x_ldc dX11_who_44 k_X11_81 ?_
    refine x_iret dX11_who_46 ?_
    unfold R_who
    rw [if_neg (by simp [*])]
    exact ⟨rfl, hC, FrM.rf⟩
  · refine x_iload_n dX11_who_8 rfl ?_
    refine y_iconst (a := 0) dX11_who_9 rfl ?_
    refine y_iconst (a := 2) dX11_who_10 rfl ?_
    refine q_X11_77 (c_within (by omega) (by omega)) dX11_who_11 rfl ?_
    rintro _ _ ⟨rfl, rfl⟩
    refine z_if_eq 44 dX11_who_14 (fun h_14 => ?_) (fun h_14 => ?_)
    · refine x_ldc dX11_who_44 k_X11_81 ?_
      refine x_iret dX11_who_46 ?_
      unfold R_who
      rw [if_neg (by simp [*])]
      exact ⟨rfl, hC, FrM.rf⟩
    · refine x_aload_n dX11_who_17 rfl ?_
      refine x_iload_n dX11_who_18 rfl ?_
      refine q_X11_180 (c_isGoer hR hw) dX11_who_19 rfl ?_
      rintro _ _ ⟨rfl, rfl⟩
      refine z_if_eq 44 dX11_who_22 (fun h_22 => ?_) (fun h_22 => ?_)
      · refine x_ldc dX11_who_44 k_X11_81 ?_
        refine x_iret dX11_who_46 ?_
        unfold R_who
        rw [if_neg (by simp [*])]
        exact ⟨rfl, hC, FrM.rf⟩
      · refine x_iload dX11_who_25 rfl ?_
        refine q_X11_73 (c_isRow) dX11_who_27 rfl ?_
        rintro _ _ ⟨rfl, rfl⟩
        refine z_if_eq 44 dX11_who_30 (fun h_30 => ?_) (fun h_30 => ?_)
        · refine x_ldc dX11_who_44 k_X11_81 ?_
          refine x_iret dX11_who_46 ?_
          unfold R_who
          rw [if_neg (by simp [*])]
          exact ⟨rfl, hC, FrM.rf⟩
        · refine x_iload dX11_who_33 rfl ?_
          refine y_iconst (a := 1) dX11_who_35 rfl ?_
          refine x_bipush (v := nI 12) dX11_who_36 rfl ?_
          refine q_X11_77 (c_within (by omega) (by omega)) dX11_who_38 rfl ?_
          rintro _ _ ⟨rfl, rfl⟩
          refine z_if_ne 47 dX11_who_41 (fun h_41 => ?_) (fun h_41 => ?_)
          · obtain ⟨g, hg, rfl⟩ := inR_nI h_5 (by omega)
            obtain ⟨hI, h999⟩ := hLv.goer hg
            have tg := tN_nI (g := g) (by omega)
            have hgo := hw.goer hg
            obtain ⟨o, hgo2, rfl⟩ := inR_nI h_22 (by omega)
            have to := tN_nI (g := o) (by omega)
            obtain ⟨r, hr, rfl⟩ := inR_nI h_30 (by omega)
            have tr := tN_nI (g := r) (by omega)
            have hrw := Rw8 hr
            obtain ⟨ro1, ro2, ro3⟩ := hC.rows r hr
            obtain ⟨n0, hn0, hn1, rfl⟩ := inB_nI h_41 (by omega)
            have tn := tN_nI (g := n0) (by omega)
            obtain ⟨w0, hw0, hw1, rfl⟩ := inB_nI h_14 (by omega)
            refine x_aload_n dX11_who_47 rfl ?_
            refine g_X11_11 dX11_who_48 ?_
            refine x_iload dX11_who_51 rfl ?_
            refine x_rows hr dX11_who_53 ?_
            refine x_iload dX11_who_54 rfl ?_
            refine x_iload dX11_who_56 rfl ?_
            refine q_X11_278 (c_findingOfSpan hrw) dX11_who_58 rfl ?_
            rintro _ _ ⟨rfl, rfl⟩
            rw [ro2]
            by_cases hm : σ.sz r = -1
            · rw [if_pos hm]
              refine x_istore dX11_who_61 ?_
              refine x_iload dX11_who_63 rfl ?_
              refine x_if_eq 75 dX11_who_65 (fun h_65 => ?_) (fun h_65 => ?_)
              · exact absurd h_65 (by decide)
              · refine x_aload_n dX11_who_68 rfl ?_
                refine x_iload dX11_who_69 rfl ?_
                refine q_X11_82 (c_found) dX11_who_71 rfl ?_
                rintro _ _ ⟨rfl, rfl⟩
                refine x_iret dX11_who_74 ?_
                unfold R_who
                rw [if_pos ⟨h_5, h_14, h_22, h_30, h_41⟩, tr, if_pos hm]
                exact ⟨rfl, hC.setSt _, FrM.rf.up (by omega)⟩
            · skip
              by_cases hs : spn (σ.sz r) i (nI n0) = true
              · rw [if_neg hm, if_pos (by unfold spn at hs; exact hs)]
                obtain ⟨z, hz, hze⟩ := hW.1.nat hr hm
                have hs2 := hs
                rw [hze] at hs2
                obtain ⟨i0, hi0, rfl⟩ := spn_nat hz (by omega) hs2
                have ti := tN_nI (g := i0) (by omega)
                refine x_istore dX11_who_61 ?_
                refine x_iload dX11_who_63 rfl ?_
                refine x_if_eq 75 dX11_who_65 (fun h_65 => ?_) (fun h_65 => ?_)
                · refine x_aload_n dX11_who_75 rfl ?_
                  refine g_X11_68 dX11_who_76 ?_
                  refine x_aload_n dX11_who_79 rfl ?_
                  refine g_X11_11 dX11_who_80 ?_
                  refine x_iload dX11_who_83 rfl ?_
                  refine x_rows hr dX11_who_85 ?_
                  refine x_iload dX11_who_86 rfl ?_
                  refine x_iload dX11_who_88 rfl ?_
                  refine x_iload_n dX11_who_90 rfl ?_
                  refine q_X11_282 (c_told) dX11_who_91 rfl ?_
                  rintro _ _ ⟨rfl, rfl⟩
                  obtain ⟨hCt, hMt⟩ := hC.told (18 + 2 * r) (nI i0) (nI n0) (nI o)
                  have hTd := Td_told (g := o) hrw (ro2.trans hze) hi0 hz
                  have hit : ∀ k, k < n0 → (toldM M (18 + 2 * r) (nI i0) (nI n0) (nI o)).1 (18 + 2 * r + 1) (i0 + k) = σ.it r (i0 + k) := fun k hk => by rw [show 18 + 2 * r + 1 = 19 + 2 * r by omega]; exact (hCt.rows r hr).2.2 _ (by omega)
                  refine x_iload_n dX11_who_94 rfl ?_
                  rcases (show w0 = 0 ∨ w0 = 1 ∨ w0 = 2 by omega) with rfl | rfl | rfl
                  · refine x_lookup 120 dX11_who_95 (by decide) rfl ?_
                    refine x_aload_n dX11_who_120 rfl ?_
                    refine x_aload_n dX11_who_121 rfl ?_
                    refine g_X11_68 dX11_who_122 ?_
                    refine x_aload_n dX11_who_125 rfl ?_
                    refine g_X11_58 dX11_who_126 ?_
                    refine x_iload_n dX11_who_129 rfl ?_
                    refine q_X11_286 (c_kindsFit Lk49 (by decide) hCt.lake hI hTd hg hgo2 (by omega)) dX11_who_130 rfl ?_
                    rintro _ M1 ⟨rfl, hF1⟩
                    obtain ⟨hC1, hM1⟩ := hCt.fr65 hF1
                    rw [fitK_congr hit]
                    refine q_X11_90 (c_fine) dX11_who_133 rfl ?_
                    rintro _ _ ⟨rfl, rfl⟩
                    refine x_iret dX11_who_136 ?_
                    unfold R_who
                    rw [if_pos ⟨h_5, h_14, h_22, h_30, h_41⟩, tr, if_neg hm, if_pos hs, tg, to, tn, ti]
                    first
                      | (rw [if_pos rfl]; exact ⟨rfl, hC1.setSt _, (hMt.tr hM1).up (by omega)⟩)
                      | (rw [if_neg nid.1, if_pos rfl]; exact ⟨rfl, hC1.setSt _, (hMt.tr hM1).up (by omega)⟩)
                      | (rw [if_neg nid.2.1, if_neg nid.2.2.2.2.2.2.2.1]; exact ⟨rfl, hC1.setSt _, (hMt.tr hM1).up (by omega)⟩)
                  · refine x_lookup 137 dX11_who_95 (by decide) rfl ?_
                    refine x_aload_n dX11_who_137 rfl ?_
                    refine x_aload_n dX11_who_138 rfl ?_
                    refine g_X11_68 dX11_who_139 ?_
                    refine x_aload_n dX11_who_142 rfl ?_
                    refine g_X11_58 dX11_who_143 ?_
                    refine x_iload_n dX11_who_146 rfl ?_
                    refine q_X11_289 (c_weightsFit Lk49 (by decide) hCt.lake hI hTd hg hgo2 (by omega)) dX11_who_147 rfl ?_
                    rintro _ M1 ⟨rfl, hF1⟩
                    obtain ⟨hC1, hM1⟩ := hCt.fr65 hF1
                    rw [fitK_congr hit]
                    refine q_X11_90 (c_fine) dX11_who_150 rfl ?_
                    rintro _ _ ⟨rfl, rfl⟩
                    refine x_iret dX11_who_153 ?_
                    unfold R_who
                    rw [if_pos ⟨h_5, h_14, h_22, h_30, h_41⟩, tr, if_neg hm, if_pos hs, tg, to, tn, ti]
                    first
                      | (rw [if_pos rfl]; exact ⟨rfl, hC1.setSt _, (hMt.tr hM1).up (by omega)⟩)
                      | (rw [if_neg nid.1, if_pos rfl]; exact ⟨rfl, hC1.setSt _, (hMt.tr hM1).up (by omega)⟩)
                      | (rw [if_neg nid.2.1, if_neg nid.2.2.2.2.2.2.2.1]; exact ⟨rfl, hC1.setSt _, (hMt.tr hM1).up (by omega)⟩)
                  · refine x_lookup 154 dX11_who_95 (by decide) rfl ?_
                    refine x_aload_n dX11_who_154 rfl ?_
                    refine x_aload_n dX11_who_155 rfl ?_
                    refine g_X11_68 dX11_who_156 ?_
                    refine x_aload_n dX11_who_159 rfl ?_
                    refine g_X11_58 dX11_who_160 ?_
                    refine x_iload_n dX11_who_163 rfl ?_
                    refine q_X11_292 (c_startsFit Lk49 (by decide) hCt.lake hI hTd hg hgo2 (by omega)) dX11_who_164 rfl ?_
                    rintro _ M1 ⟨rfl, hF1⟩
                    obtain ⟨hC1, hM1⟩ := hCt.fr65 hF1
                    rw [fitK_congr hit]
                    refine q_X11_90 (c_fine) dX11_who_167 rfl ?_
                    rintro _ _ ⟨rfl, rfl⟩
                    refine x_iret dX11_who_170 ?_
                    unfold R_who
                    rw [if_pos ⟨h_5, h_14, h_22, h_30, h_41⟩, tr, if_neg hm, if_pos hs, tg, to, tn, ti]
                    first
                      | (rw [if_pos rfl]; exact ⟨rfl, hC1.setSt _, (hMt.tr hM1).up (by omega)⟩)
                      | (rw [if_neg nid.1, if_pos rfl]; exact ⟨rfl, hC1.setSt _, (hMt.tr hM1).up (by omega)⟩)
                      | (rw [if_neg nid.2.1, if_neg nid.2.2.2.2.2.2.2.1]; exact ⟨rfl, hC1.setSt _, (hMt.tr hM1).up (by omega)⟩)
                · exact absurd rfl h_65
              · rw [if_neg hm, if_neg (by unfold spn at hs; exact hs)]
                refine x_istore dX11_who_61 ?_
                refine x_iload dX11_who_63 rfl ?_
                refine x_if_eq 75 dX11_who_65 (fun h_65 => ?_) (fun h_65 => ?_)
                · exact absurd h_65 (by decide)
                · refine x_aload_n dX11_who_68 rfl ?_
                  refine x_iload dX11_who_69 rfl ?_
                  refine q_X11_82 (c_found) dX11_who_71 rfl ?_
                  rintro _ _ ⟨rfl, rfl⟩
                  refine x_iret dX11_who_74 ?_
                  unfold R_who
                  rw [if_pos ⟨h_5, h_14, h_22, h_30, h_41⟩, tr, if_neg hm, if_neg hs]
                  exact ⟨rfl, hC.setSt _, FrM.rf.up (by omega)⟩
          · refine x_ldc dX11_who_44 k_X11_81 ?_
            refine x_iret dX11_who_46 ?_
            unfold R_who
            rw [if_neg (by simp [*])]
            exact ⟨rfl, hC, FrM.rf⟩
set_option maxRecDepth 100000 in
set_option maxHeartbeats 4000000 in
theorem c_rotten {Ω : Om} {l : Launch} {M : Mem} {σ : Sg} (hC : IC M σ) (hW : SgW σ) {x r i n : Int32} : Ct Ω l yX11_rotten cX11_rotten 6 8 (some .int) [.ref (Ω.2.2 0), .int x, .int r, .int i, .int n] M (fun ro M' => ro = some (.int (R_rotten σ x r i n).1) ∧ IC M' (R_rotten σ x r i n).2 ∧ FrM M M') := by
  have hL49 : Lk 49 := Lk49
  have hL57 : Lk 57 := Lk57
  have hR := hC.lake
  have hLv : Lv σ.v := hW.2.2.1
  have hw := hLv.wv
  have hn := hw.nums
  have hL65 : Lk 65 := Lk65
  refine ct_of (by decide) (Nat.le_of_ble_eq_true rfl) ?_
  intro p e R s m args below meth c
  refine x_aload_n dX11_rotten_0 rfl ?_
  refine x_iload_n dX11_rotten_1 rfl ?_
  refine q_X11_180 (c_isGoer hR hw) dX11_rotten_2 rfl ?_
  rintro _ _ ⟨rfl, rfl⟩
  refine z_if_eq 26 dX11_rotten_5 (fun h_5 => ?_) (fun h_5 => ?_)
  · refine x_ldc dX11_rotten_26 k_X11_81 ?_
    refine x_iret dX11_rotten_28 ?_
    unfold R_rotten
    rw [if_neg (by simp [*])]
    exact ⟨rfl, hC, FrM.rf⟩
  · refine x_iload_n dX11_rotten_8 rfl ?_
    refine q_X11_73 (c_isRow) dX11_rotten_9 rfl ?_
    rintro _ _ ⟨rfl, rfl⟩
    refine z_if_eq 26 dX11_rotten_12 (fun h_12 => ?_) (fun h_12 => ?_)
    · refine x_ldc dX11_rotten_26 k_X11_81 ?_
      refine x_iret dX11_rotten_28 ?_
      unfold R_rotten
      rw [if_neg (by simp [*])]
      exact ⟨rfl, hC, FrM.rf⟩
    · refine x_iload dX11_rotten_15 rfl ?_
      refine y_iconst (a := 1) dX11_rotten_17 rfl ?_
      refine x_bipush (v := nI 12) dX11_rotten_18 rfl ?_
      refine q_X11_77 (c_within (by omega) (by omega)) dX11_rotten_20 rfl ?_
      rintro _ _ ⟨rfl, rfl⟩
      refine z_if_ne 29 dX11_rotten_23 (fun h_23 => ?_) (fun h_23 => ?_)
      · obtain ⟨g, hg, rfl⟩ := inR_nI h_5 (by omega)
        obtain ⟨hI, h999⟩ := hLv.goer hg
        have tg := tN_nI (g := g) (by omega)
        have hgo := hw.goer hg
        obtain ⟨r, hr, rfl⟩ := inR_nI h_12 (by omega)
        have tr := tN_nI (g := r) (by omega)
        have hrw := Rw8 hr
        obtain ⟨ro1, ro2, ro3⟩ := hC.rows r hr
        obtain ⟨n0, hn0, hn1, rfl⟩ := inB_nI h_23 (by omega)
        have tn := tN_nI (g := n0) (by omega)
        refine x_aload_n dX11_rotten_29 rfl ?_
        refine g_X11_11 dX11_rotten_30 ?_
        refine x_iload_n dX11_rotten_33 rfl ?_
        refine x_rows hr dX11_rotten_34 ?_
        refine x_iload_n dX11_rotten_35 rfl ?_
        refine x_iload dX11_rotten_36 rfl ?_
        refine q_X11_278 (c_findingOfSpan hrw) dX11_rotten_38 rfl ?_
        rintro _ _ ⟨rfl, rfl⟩
        rw [ro2]
        by_cases hm : σ.sz r = -1
        · rw [if_pos hm]
          refine x_istore dX11_rotten_41 ?_
          refine x_iload dX11_rotten_43 rfl ?_
          refine x_if_eq 55 dX11_rotten_45 (fun h_45 => ?_) (fun h_45 => ?_)
          · exact absurd h_45 (by decide)
          · refine x_aload_n dX11_rotten_48 rfl ?_
            refine x_iload dX11_rotten_49 rfl ?_
            refine q_X11_82 (c_found) dX11_rotten_51 rfl ?_
            rintro _ _ ⟨rfl, rfl⟩
            refine x_iret dX11_rotten_54 ?_
            unfold R_rotten
            rw [if_pos ⟨h_5, h_12, h_23⟩, tr, if_pos hm]
            exact ⟨rfl, hC.setSt _, FrM.rf.up (by omega)⟩
        · skip
          by_cases hs : spn (σ.sz r) i (nI n0) = true
          · rw [if_neg hm, if_pos (by unfold spn at hs; exact hs)]
            obtain ⟨z, hz, hze⟩ := hW.1.nat hr hm
            have hs2 := hs
            rw [hze] at hs2
            obtain ⟨i0, hi0, rfl⟩ := spn_nat hz (by omega) hs2
            have ti := tN_nI (g := i0) (by omega)
            refine x_istore dX11_rotten_41 ?_
            refine x_iload dX11_rotten_43 rfl ?_
            refine x_if_eq 55 dX11_rotten_45 (fun h_45 => ?_) (fun h_45 => ?_)
            · refine x_aload_n dX11_rotten_55 rfl ?_
              refine g_X11_68 dX11_rotten_56 ?_
              refine x_aload_n dX11_rotten_59 rfl ?_
              refine g_X11_11 dX11_rotten_60 ?_
              refine x_iload_n dX11_rotten_63 rfl ?_
              refine x_rows hr dX11_rotten_64 ?_
              refine x_iload_n dX11_rotten_65 rfl ?_
              refine x_iload dX11_rotten_66 rfl ?_
              refine x_iload_n dX11_rotten_68 rfl ?_
              refine q_X11_282 (c_told) dX11_rotten_69 rfl ?_
              rintro _ _ ⟨rfl, rfl⟩
              obtain ⟨hCt, hMt⟩ := hC.told (18 + 2 * r) (nI i0) (nI n0) (nI g)
              have hTd := Td_told (g := g) hrw (ro2.trans hze) hi0 hz
              have hit : ∀ k, k < n0 → (toldM M (18 + 2 * r) (nI i0) (nI n0) (nI g)).1 (18 + 2 * r + 1) (i0 + k) = σ.it r (i0 + k) := fun k hk => by rw [show 18 + 2 * r + 1 = 19 + 2 * r by omega]; exact (hCt.rows r hr).2.2 _ (by omega)
              refine x_aload_n dX11_rotten_72 rfl ?_
              refine x_aload_n dX11_rotten_73 rfl ?_
              refine g_X11_68 dX11_rotten_74 ?_
              refine x_aload_n dX11_rotten_77 rfl ?_
              refine g_X11_58 dX11_rotten_78 ?_
              refine q_X11_295 (c_rottenFit Lk49 (by decide) hCt.lake hI hTd hg (by omega)) dX11_rotten_81 rfl ?_
              rintro _ M1 ⟨rfl, hF1⟩
              obtain ⟨hC1, hM1⟩ := hCt.fr65 hF1
              rw [fitR_congr hit]
              refine q_X11_90 (c_fine) dX11_rotten_84 rfl ?_
              rintro _ _ ⟨rfl, rfl⟩
              refine x_iret dX11_rotten_87 ?_
              unfold R_rotten
              rw [if_pos ⟨h_5, h_12, h_23⟩, tr, if_neg hm, if_pos hs, tg, tn, ti]
              exact ⟨rfl, hC1.setSt _, (hMt.tr hM1).up (by omega)⟩
            · exact absurd rfl h_45
          · rw [if_neg hm, if_neg (by unfold spn at hs; exact hs)]
            refine x_istore dX11_rotten_41 ?_
            refine x_iload dX11_rotten_43 rfl ?_
            refine x_if_eq 55 dX11_rotten_45 (fun h_45 => ?_) (fun h_45 => ?_)
            · exact absurd h_45 (by decide)
            · refine x_aload_n dX11_rotten_48 rfl ?_
              refine x_iload dX11_rotten_49 rfl ?_
              refine q_X11_82 (c_found) dX11_rotten_51 rfl ?_
              rintro _ _ ⟨rfl, rfl⟩
              refine x_iret dX11_rotten_54 ?_
              unfold R_rotten
              rw [if_pos ⟨h_5, h_12, h_23⟩, tr, if_neg hm, if_neg hs]
              exact ⟨rfl, hC.setSt _, FrM.rf.up (by omega)⟩
      · refine x_ldc dX11_rotten_26 k_X11_81 ?_
        refine x_iret dX11_rotten_28 ?_
        unfold R_rotten
        rw [if_neg (by simp [*])]
        exact ⟨rfl, hC, FrM.rf⟩
