/-! LADDERSPRINGS: rows, feed (laid by gen_ls6.py) -/
theorem spn_nat2 {z : Nat} {i n : Int32} (hz : z ≤ 40) (h : spn (nI z) i n = true) : ∃ j m, j + m ≤ z ∧ i = nI j ∧ n = nI m := by
  simp only [spn, decide_eq_true_eq] at h
  have h0 : (nI z).toInt = z := nI_toInt (by omega)
  have hs : (nI z - n).toInt = (z : Int) - n.toInt := by
    rw [Int32.toInt_sub, h0]
    have := n.toInt_lt
    exact Int.bmod_eq_of_le (by omega) (by omega)
  rw [hs] at h
  obtain ⟨m, h1, h2⟩ := vp_in_of (x := n) (n := 41) (vp_in_iff.mpr (by omega)) (by omega)
  obtain ⟨j, h3, h4⟩ := vp_in_of (x := i) (n := 41) (vp_in_iff.mpr (by omega)) (by omega)
  subst h2
  subst h4
  rw [nI_toInt (by omega), nI_toInt (by omega)] at h
  exact ⟨j, m, by omega, rfl, rfl⟩
theorem IC.setTape {M M' : Mem} {σ : Sg} (h : IC M σ) {a : Nat} {f : Nat → Nat} (hr : TapeC M' (σ.uTape a f)) (e : ∀ d, d ≠ 2 → d ≠ 3 → M'.1 d = M.1 d) : IC M' (σ.uTape a f) := by
  obtain ⟨h1, h2, h3, h4, h5, h6, h7, h8, h9⟩ := h
  have e0 := e 0 (by omega) (by omega)
  have e14 := e 14 (by omega) (by omega)
  exact ⟨RowsC.keep (σ := σ) h1 (fun c a b => e c (by omega) (by omega)), by rw [e0]; exact h2, hr, by rw [e0]; exact h4, h5.same (fun k hk => e _ (by omega) (by omega)), ActsC.keep (σ := σ) h6 (by rw [e0]) (by rw [e0]) (fun c a b => e c (by omega) (by omega)), ImgC.keep (σ := σ) h7 (by rw [e0]) (fun c a b => e c (by omega) (by omega)), TrC.keep (σ := σ) h8 (fun c a b => e c (by omega) (by omega)), h9.keep (by rw [e14]) (by rw [e14]) (by rw [e14]) (e 16 (by omega) (by omega)) (fun c a b => e c (by omega) (by omega))⟩

set_option maxRecDepth 100000 in
set_option maxHeartbeats 4000000 in
theorem c_row {Ω : Om} {l : Launch} {M : Mem} {σ : Sg} (hC : IC M σ) (hW : SgW σ) {x a n : Int32} : Ct Ω l yX11_row cX11_row 4 3 (some .int) [.ref (Ω.2.2 0), .int x, .int a, .int n] M (fun ro M' => ro = some (.int (R_row σ x a n).1) ∧ IC M' (R_row σ x a n).2 ∧ FrM M M') := by
  have hL49 : Lk 49 := Lk49
  have hL57 : Lk 57 := Lk57
  have hR := hC.lake
  have hLv : Lv σ.v := hW.2.2.1
  have hw := hLv.wv
  have hn := hw.nums
  have hL65 : Lk 65 := Lk65
  refine ct_of (by decide) (Nat.le_of_ble_eq_true rfl) ?_
  intro p e R s m args below meth c
  refine x_iload_n dX11_row_0 rfl ?_
  refine q_X11_73 (c_isRow) dX11_row_1 rfl ?_
  rintro _ _ ⟨rfl, rfl⟩
  refine z_if_eq 22 dX11_row_4 (fun h_4 => ?_) (fun h_4 => ?_)
  · refine x_ldc dX11_row_22 k_X11_81 ?_
    refine x_iret dX11_row_24 ?_
    unfold R_row
    first
      | (rw [if_pos ⟨h_4, h_13, h_19⟩, tr]
         first
           | (rw [if_neg (by omega)]
              refine ⟨rfl, hC.setRows ?_ (by rw [up1_at, if_pos ⟨rfl, rfl⟩]) (fun k hk => by rw [up1_at, if_neg (by omega)]; rw [m6 0 (by omega) (by omega)]) (fun d h1 h2 => by rw [up1_ne _ _ _ h2]; exact m6 d (by omega) (by omega)), fun d h1 h2 => by rw [up1_ne _ _ _ (by omega)]; exact m6 d (by omega) (by omega)⟩
              intro q hq
              rw [up1_ne _ _ _ (by omega), up1_ne _ _ _ (by omega)]
              show _ = upF1 σ.ln r a q ∧ _ = upF1 σ.sz r n q ∧ ∀ j, j < 40 → _ = (if q = r then nI 0 else σ.it q j)
              by_cases e : q = r
              · subst e
                refine ⟨by simp [upF1, m3], by simp [upF1, m4], fun j hj => ?_⟩
                rw [if_pos rfl, show 19 + 2 * q = 18 + 2 * q + 1 by omega]
                exact m5 j hj
              · obtain ⟨p1, p2, p3⟩ := hC.rows q hq
                rw [m6 (18 + 2 * q) (by omega) (by omega), m6 (19 + 2 * q) (by omega) (by omega)]
                refine ⟨by simp [upF1, e, p1], by simp [upF1, e, p2], fun j hj => ?_⟩
                rw [if_neg e]
                exact p3 j hj)
           | (rw [if_pos (by omega)]
              exact ⟨rfl, hC.setSt _, FrM.rf.up (by omega)⟩))
      | (rw [if_neg (by rintro ⟨z1, z2, z3⟩; first | exact absurd (z1.symm.trans h_4) (by decide) | exact absurd (z2.symm.trans h_13) (by decide) | (rw [nI_toInt (n := 40) (by omega)] at h_19; omega))]
         exact ⟨rfl, hC, FrM.rf⟩)
  · refine x_iload_n dX11_row_7 rfl ?_
    refine y_iconst (a := 0) dX11_row_8 rfl ?_
    refine y_iconst (a := 2) dX11_row_9 rfl ?_
    refine q_X11_77 (c_within (by omega) (by omega)) dX11_row_10 rfl ?_
    rintro _ _ ⟨rfl, rfl⟩
    refine z_if_eq 22 dX11_row_13 (fun h_13 => ?_) (fun h_13 => ?_)
    · refine x_ldc dX11_row_22 k_X11_81 ?_
      refine x_iret dX11_row_24 ?_
      unfold R_row
      first
        | (rw [if_pos ⟨h_4, h_13, h_19⟩, tr]
           first
             | (rw [if_neg (by omega)]
                refine ⟨rfl, hC.setRows ?_ (by rw [up1_at, if_pos ⟨rfl, rfl⟩]) (fun k hk => by rw [up1_at, if_neg (by omega)]; rw [m6 0 (by omega) (by omega)]) (fun d h1 h2 => by rw [up1_ne _ _ _ h2]; exact m6 d (by omega) (by omega)), fun d h1 h2 => by rw [up1_ne _ _ _ (by omega)]; exact m6 d (by omega) (by omega)⟩
                intro q hq
                rw [up1_ne _ _ _ (by omega), up1_ne _ _ _ (by omega)]
                show _ = upF1 σ.ln r a q ∧ _ = upF1 σ.sz r n q ∧ ∀ j, j < 40 → _ = (if q = r then nI 0 else σ.it q j)
                by_cases e : q = r
                · subst e
                  refine ⟨by simp [upF1, m3], by simp [upF1, m4], fun j hj => ?_⟩
                  rw [if_pos rfl, show 19 + 2 * q = 18 + 2 * q + 1 by omega]
                  exact m5 j hj
                · obtain ⟨p1, p2, p3⟩ := hC.rows q hq
                  rw [m6 (18 + 2 * q) (by omega) (by omega), m6 (19 + 2 * q) (by omega) (by omega)]
                  refine ⟨by simp [upF1, e, p1], by simp [upF1, e, p2], fun j hj => ?_⟩
                  rw [if_neg e]
                  exact p3 j hj)
             | (rw [if_pos (by omega)]
                exact ⟨rfl, hC.setSt _, FrM.rf.up (by omega)⟩))
        | (rw [if_neg (by rintro ⟨z1, z2, z3⟩; first | exact absurd (z1.symm.trans h_4) (by decide) | exact absurd (z2.symm.trans h_13) (by decide) | (rw [nI_toInt (n := 40) (by omega)] at h_19; omega))]
           exact ⟨rfl, hC, FrM.rf⟩)
    · refine x_iload_n dX11_row_16 rfl ?_
      refine x_bipush (v := nI 40) dX11_row_17 rfl ?_
      refine x_icmp_le 25 dX11_row_19 (fun h_19 => ?_) (fun h_19 => ?_)
      · obtain ⟨r, hr, rfl⟩ := inR_nI h_4 (by omega)
        have tr := tN_nI (g := r) (by omega)
        have hrw := Rw8 hr
        obtain ⟨ro1, ro2, ro3⟩ := hC.rows r hr
        rw [nI_toInt (n := 40) (by omega)] at h_19
        refine x_iload_n dX11_row_25 rfl ?_
        refine x_if_ge 35 dX11_row_26 (fun h_26 => ?_) (fun h_26 => ?_)
        · refine x_aload_n dX11_row_35 rfl ?_
          refine g_X11_11 dX11_row_36 ?_
          refine x_iload_n dX11_row_39 rfl ?_
          refine x_rows hr dX11_row_40 ?_
          refine x_iload_n dX11_row_41 rfl ?_
          refine x_iload_n dX11_row_42 rfl ?_
          refine q_X11_86 (c_renew hrw) dX11_row_43 rfl ?_
          rintro _ M1 ⟨rfl, m2, m3, m4, m5, m6⟩
          refine x_aload_n dX11_row_46 rfl ?_
          refine x_iload_n dX11_row_47 rfl ?_
          refine q_X11_90 (c_fine) dX11_row_48 rfl ?_
          rintro _ _ ⟨rfl, rfl⟩
          refine x_iret dX11_row_51 ?_
          unfold R_row
          first
            | (rw [if_pos ⟨h_4, h_13, h_19⟩, tr]
               first
                 | (rw [if_neg (by omega)]
                    refine ⟨rfl, hC.setRows ?_ (by rw [up1_at, if_pos ⟨rfl, rfl⟩]) (fun k hk => by rw [up1_at, if_neg (by omega)]; rw [m6 0 (by omega) (by omega)]) (fun d h1 h2 => by rw [up1_ne _ _ _ h2]; exact m6 d (by omega) (by omega)), fun d h1 h2 => by rw [up1_ne _ _ _ (by omega)]; exact m6 d (by omega) (by omega)⟩
                    intro q hq
                    rw [up1_ne _ _ _ (by omega), up1_ne _ _ _ (by omega)]
                    show _ = upF1 σ.ln r a q ∧ _ = upF1 σ.sz r n q ∧ ∀ j, j < 40 → _ = (if q = r then nI 0 else σ.it q j)
                    by_cases e : q = r
                    · subst e
                      refine ⟨by simp [upF1, m3], by simp [upF1, m4], fun j hj => ?_⟩
                      rw [if_pos rfl, show 19 + 2 * q = 18 + 2 * q + 1 by omega]
                      exact m5 j hj
                    · obtain ⟨p1, p2, p3⟩ := hC.rows q hq
                      rw [m6 (18 + 2 * q) (by omega) (by omega), m6 (19 + 2 * q) (by omega) (by omega)]
                      refine ⟨by simp [upF1, e, p1], by simp [upF1, e, p2], fun j hj => ?_⟩
                      rw [if_neg e]
                      exact p3 j hj)
                 | (rw [if_pos (by omega)]
                    exact ⟨rfl, hC.setSt _, FrM.rf.up (by omega)⟩))
            | (rw [if_neg (by rintro ⟨z1, z2, z3⟩; first | exact absurd (z1.symm.trans h_4) (by decide) | exact absurd (z2.symm.trans h_13) (by decide) | (rw [nI_toInt (n := 40) (by omega)] at h_19; omega))]
               exact ⟨rfl, hC, FrM.rf⟩)
        · refine x_aload_n dX11_row_29 rfl ?_
          refine y_iconst (a := 4) dX11_row_30 rfl ?_
          refine q_X11_82 (c_found) dX11_row_31 rfl ?_
          rintro _ _ ⟨rfl, rfl⟩
          refine x_iret dX11_row_34 ?_
          unfold R_row
          first
            | (rw [if_pos ⟨h_4, h_13, h_19⟩, tr]
               first
                 | (rw [if_neg (by omega)]
                    refine ⟨rfl, hC.setRows ?_ (by rw [up1_at, if_pos ⟨rfl, rfl⟩]) (fun k hk => by rw [up1_at, if_neg (by omega)]; rw [m6 0 (by omega) (by omega)]) (fun d h1 h2 => by rw [up1_ne _ _ _ h2]; exact m6 d (by omega) (by omega)), fun d h1 h2 => by rw [up1_ne _ _ _ (by omega)]; exact m6 d (by omega) (by omega)⟩
                    intro q hq
                    rw [up1_ne _ _ _ (by omega), up1_ne _ _ _ (by omega)]
                    show _ = upF1 σ.ln r a q ∧ _ = upF1 σ.sz r n q ∧ ∀ j, j < 40 → _ = (if q = r then nI 0 else σ.it q j)
                    by_cases e : q = r
                    · subst e
                      refine ⟨by simp [upF1, m3], by simp [upF1, m4], fun j hj => ?_⟩
                      rw [if_pos rfl, show 19 + 2 * q = 18 + 2 * q + 1 by omega]
                      exact m5 j hj
                    · obtain ⟨p1, p2, p3⟩ := hC.rows q hq
                      rw [m6 (18 + 2 * q) (by omega) (by omega), m6 (19 + 2 * q) (by omega) (by omega)]
                      refine ⟨by simp [upF1, e, p1], by simp [upF1, e, p2], fun j hj => ?_⟩
                      rw [if_neg e]
                      exact p3 j hj)
                 | (rw [if_pos (by omega)]
                    exact ⟨rfl, hC.setSt _, FrM.rf.up (by omega)⟩))
            | (rw [if_neg (by rintro ⟨z1, z2, z3⟩; first | exact absurd (z1.symm.trans h_4) (by decide) | exact absurd (z2.symm.trans h_13) (by decide) | (rw [nI_toInt (n := 40) (by omega)] at h_19; omega))]
               exact ⟨rfl, hC, FrM.rf⟩)
      · refine x_ldc dX11_row_22 k_X11_81 ?_
        refine x_iret dX11_row_24 ?_
        unfold R_row
        first
          | (rw [if_pos ⟨h_4, h_13, h_19⟩, tr]
             first
               | (rw [if_neg (by omega)]
                  refine ⟨rfl, hC.setRows ?_ (by rw [up1_at, if_pos ⟨rfl, rfl⟩]) (fun k hk => by rw [up1_at, if_neg (by omega)]; rw [m6 0 (by omega) (by omega)]) (fun d h1 h2 => by rw [up1_ne _ _ _ h2]; exact m6 d (by omega) (by omega)), fun d h1 h2 => by rw [up1_ne _ _ _ (by omega)]; exact m6 d (by omega) (by omega)⟩
                  intro q hq
                  rw [up1_ne _ _ _ (by omega), up1_ne _ _ _ (by omega)]
                  show _ = upF1 σ.ln r a q ∧ _ = upF1 σ.sz r n q ∧ ∀ j, j < 40 → _ = (if q = r then nI 0 else σ.it q j)
                  by_cases e : q = r
                  · subst e
                    refine ⟨by simp [upF1, m3], by simp [upF1, m4], fun j hj => ?_⟩
                    rw [if_pos rfl, show 19 + 2 * q = 18 + 2 * q + 1 by omega]
                    exact m5 j hj
                  · obtain ⟨p1, p2, p3⟩ := hC.rows q hq
                    rw [m6 (18 + 2 * q) (by omega) (by omega), m6 (19 + 2 * q) (by omega) (by omega)]
                    refine ⟨by simp [upF1, e, p1], by simp [upF1, e, p2], fun j hj => ?_⟩
                    rw [if_neg e]
                    exact p3 j hj)
               | (rw [if_pos (by omega)]
                  exact ⟨rfl, hC.setSt _, FrM.rf.up (by omega)⟩))
          | (rw [if_neg (by rintro ⟨z1, z2, z3⟩; first | exact absurd (z1.symm.trans h_4) (by decide) | exact absurd (z2.symm.trans h_13) (by decide) | (rw [nI_toInt (n := 40) (by omega)] at h_19; omega))]
             exact ⟨rfl, hC, FrM.rf⟩)
set_option maxRecDepth 100000 in
set_option maxHeartbeats 4000000 in
theorem c_set {Ω : Om} {l : Launch} {M : Mem} {σ : Sg} (hC : IC M σ) (hW : SgW σ) {x i y : Int32} : Ct Ω l yX11_set cX11_set 5 3 (some .int) [.ref (Ω.2.2 0), .int x, .int i, .int y] M (fun ro M' => ro = some (.int (R_set σ x i y).1) ∧ IC M' (R_set σ x i y).2 ∧ FrM M M') := by
  have hL49 : Lk 49 := Lk49
  have hL57 : Lk 57 := Lk57
  have hR := hC.lake
  have hLv : Lv σ.v := hW.2.2.1
  have hw := hLv.wv
  have hn := hw.nums
  have hL65 : Lk 65 := Lk65
  refine ct_of (by decide) (Nat.le_of_ble_eq_true rfl) ?_
  intro p e R s m args below meth c
  refine x_iload_n dX11_set_0 rfl ?_
  refine q_X11_73 (c_isRow) dX11_set_1 rfl ?_
  rintro _ _ ⟨rfl, rfl⟩
  refine z_if_ne 10 dX11_set_4 (fun h_4 => ?_) (fun h_4 => ?_)
  · obtain ⟨r, hr, rfl⟩ := inR_nI h_4 (by omega)
    have tr := tN_nI (g := r) (by omega)
    have hrw := Rw8 hr
    obtain ⟨ro1, ro2, ro3⟩ := hC.rows r hr
    refine x_aload_n dX11_set_10 rfl ?_
    refine g_X11_11 dX11_set_11 ?_
    refine x_iload_n dX11_set_14 rfl ?_
    refine x_rows hr dX11_set_15 ?_
    refine x_astore dX11_set_16 ?_
    refine x_aload dX11_set_18 rfl ?_
    refine q_X11_93 (c_isMissing hrw) dX11_set_20 rfl ?_
    rintro _ _ ⟨rfl, rfl⟩
    rw [ro2]
    refine z_if_eq 32 dX11_set_23 (fun h_23 => ?_) (fun h_23 => ?_)
    · have hm : ¬ σ.sz r = -1 := by simpa using h_23
      refine x_aload dX11_set_32 rfl ?_
      refine x_iload_n dX11_set_34 rfl ?_
      refine y_iconst (a := 1) dX11_set_35 rfl ?_
      refine q_X11_97 (c_hasSpan hrw) dX11_set_36 rfl ?_
      rintro _ _ ⟨rfl, rfl⟩
      rw [ro2]
      refine z_if_ne 48 dX11_set_39 (fun h_39 => ?_) (fun h_39 => ?_)
      · obtain ⟨z, hz, hze⟩ := hW.1.nat hr hm
        have hs2 : spn (σ.sz r) i (nI 1) = true := h_39
        have hs3 := hs2
        rw [hze] at hs3
        obtain ⟨i0, hi0, rfl⟩ := spn_nat hz (by omega) hs3
        have ti := tN_nI (g := i0) (by omega)
        refine x_aload_n dX11_set_48 rfl ?_
        refine x_aload dX11_set_49 rfl ?_
        refine x_iload_n dX11_set_51 rfl ?_
        refine x_iload_n dX11_set_52 rfl ?_
        refine q_X11_101 (c_put hrw (by omega)) dX11_set_53 rfl ?_
        rintro _ _ ⟨rfl, rfl⟩
        rw [ro1]
        refine q_X11_90 (c_fine) dX11_set_56 rfl ?_
        rintro _ _ ⟨rfl, rfl⟩
        refine x_iret dX11_set_59 ?_
        unfold R_set
        first
          | (rw [if_neg (by rw [h_4]; decide)]
             exact ⟨rfl, hC, FrM.rf⟩)
          | (rw [if_pos h_4, tr]
             first
               | (rw [if_neg hm, if_pos hs2, ti]
                  refine ⟨rfl, hC.setRows ?_ (by rw [up1_at, if_pos ⟨rfl, rfl⟩]) (fun k hk => by rw [up1_at, if_neg (by omega), up1_ne _ _ _ (by omega)]) (fun d h1 h2 => by rw [up1_ne _ _ _ h2, up1_ne _ _ _ (by omega)]), (FrM.rf.up (by omega)).up (by omega)⟩
                  intro q hq
                  obtain ⟨p1, p2, p3⟩ := hC.rows q hq
                  rw [up1_ne _ _ _ (by omega), up1_ne _ _ _ (by omega), up1_ne _ _ _ (by omega)]
                  refine ⟨p1, p2, fun j hj => ?_⟩
                  show _ = upF2 σ.it r i0 _ q j
                  rw [up1_at]
                  unfold upF2
                  by_cases e : q = r ∧ j = i0
                  · rw [if_pos e, if_pos ⟨by omega, by omega⟩]
                  · rw [if_neg e, if_neg (by omega)]
                    exact p3 j hj)
               | (rw [if_neg hm, if_neg (by intro z; have z2 : spn (σ.sz r) i (nI 1) = false := h_39; rw [z] at z2; cases z2)]
                  exact ⟨rfl, hC.setSt _, FrM.rf.up (by omega)⟩)
               | (rw [if_pos (by simpa using h_23)]
                  exact ⟨rfl, hC.setSt _, FrM.rf.up (by omega)⟩))
      · refine x_aload_n dX11_set_42 rfl ?_
        refine y_iconst (a := 2) dX11_set_43 rfl ?_
        refine q_X11_82 (c_found) dX11_set_44 rfl ?_
        rintro _ _ ⟨rfl, rfl⟩
        refine x_iret dX11_set_47 ?_
        unfold R_set
        first
          | (rw [if_neg (by rw [h_4]; decide)]
             exact ⟨rfl, hC, FrM.rf⟩)
          | (rw [if_pos h_4, tr]
             first
               | (rw [if_neg hm, if_pos hs2, ti]
                  refine ⟨rfl, hC.setRows ?_ (by rw [up1_at, if_pos ⟨rfl, rfl⟩]) (fun k hk => by rw [up1_at, if_neg (by omega), up1_ne _ _ _ (by omega)]) (fun d h1 h2 => by rw [up1_ne _ _ _ h2, up1_ne _ _ _ (by omega)]), (FrM.rf.up (by omega)).up (by omega)⟩
                  intro q hq
                  obtain ⟨p1, p2, p3⟩ := hC.rows q hq
                  rw [up1_ne _ _ _ (by omega), up1_ne _ _ _ (by omega), up1_ne _ _ _ (by omega)]
                  refine ⟨p1, p2, fun j hj => ?_⟩
                  show _ = upF2 σ.it r i0 _ q j
                  rw [up1_at]
                  unfold upF2
                  by_cases e : q = r ∧ j = i0
                  · rw [if_pos e, if_pos ⟨by omega, by omega⟩]
                  · rw [if_neg e, if_neg (by omega)]
                    exact p3 j hj)
               | (rw [if_neg hm, if_neg (by intro z; have z2 : spn (σ.sz r) i (nI 1) = false := h_39; rw [z] at z2; cases z2)]
                  exact ⟨rfl, hC.setSt _, FrM.rf.up (by omega)⟩)
               | (rw [if_pos (by simpa using h_23)]
                  exact ⟨rfl, hC.setSt _, FrM.rf.up (by omega)⟩))
    · refine x_aload_n dX11_set_26 rfl ?_
      refine y_iconst (a := 1) dX11_set_27 rfl ?_
      refine q_X11_82 (c_found) dX11_set_28 rfl ?_
      rintro _ _ ⟨rfl, rfl⟩
      refine x_iret dX11_set_31 ?_
      unfold R_set
      first
        | (rw [if_neg (by rw [h_4]; decide)]
           exact ⟨rfl, hC, FrM.rf⟩)
        | (rw [if_pos h_4, tr]
           first
             | (rw [if_neg hm, if_pos hs2, ti]
                refine ⟨rfl, hC.setRows ?_ (by rw [up1_at, if_pos ⟨rfl, rfl⟩]) (fun k hk => by rw [up1_at, if_neg (by omega), up1_ne _ _ _ (by omega)]) (fun d h1 h2 => by rw [up1_ne _ _ _ h2, up1_ne _ _ _ (by omega)]), (FrM.rf.up (by omega)).up (by omega)⟩
                intro q hq
                obtain ⟨p1, p2, p3⟩ := hC.rows q hq
                rw [up1_ne _ _ _ (by omega), up1_ne _ _ _ (by omega), up1_ne _ _ _ (by omega)]
                refine ⟨p1, p2, fun j hj => ?_⟩
                show _ = upF2 σ.it r i0 _ q j
                rw [up1_at]
                unfold upF2
                by_cases e : q = r ∧ j = i0
                · rw [if_pos e, if_pos ⟨by omega, by omega⟩]
                · rw [if_neg e, if_neg (by omega)]
                  exact p3 j hj)
             | (rw [if_neg hm, if_neg (by intro z; have z2 : spn (σ.sz r) i (nI 1) = false := h_39; rw [z] at z2; cases z2)]
                exact ⟨rfl, hC.setSt _, FrM.rf.up (by omega)⟩)
             | (rw [if_pos (by simpa using h_23)]
                exact ⟨rfl, hC.setSt _, FrM.rf.up (by omega)⟩))
  · refine x_ldc dX11_set_7 k_X11_81 ?_
    refine x_iret dX11_set_9 ?_
    unfold R_set
    first
      | (rw [if_neg (by rw [h_4]; decide)]
         exact ⟨rfl, hC, FrM.rf⟩)
      | (rw [if_pos h_4, tr]
         first
           | (rw [if_neg hm, if_pos hs2, ti]
              refine ⟨rfl, hC.setRows ?_ (by rw [up1_at, if_pos ⟨rfl, rfl⟩]) (fun k hk => by rw [up1_at, if_neg (by omega), up1_ne _ _ _ (by omega)]) (fun d h1 h2 => by rw [up1_ne _ _ _ h2, up1_ne _ _ _ (by omega)]), (FrM.rf.up (by omega)).up (by omega)⟩
              intro q hq
              obtain ⟨p1, p2, p3⟩ := hC.rows q hq
              rw [up1_ne _ _ _ (by omega), up1_ne _ _ _ (by omega), up1_ne _ _ _ (by omega)]
              refine ⟨p1, p2, fun j hj => ?_⟩
              show _ = upF2 σ.it r i0 _ q j
              rw [up1_at]
              unfold upF2
              by_cases e : q = r ∧ j = i0
              · rw [if_pos e, if_pos ⟨by omega, by omega⟩]
              · rw [if_neg e, if_neg (by omega)]
                exact p3 j hj)
           | (rw [if_neg hm, if_neg (by intro z; have z2 : spn (σ.sz r) i (nI 1) = false := h_39; rw [z] at z2; cases z2)]
              exact ⟨rfl, hC.setSt _, FrM.rf.up (by omega)⟩)
           | (rw [if_pos (by simpa using h_23)]
              exact ⟨rfl, hC.setSt _, FrM.rf.up (by omega)⟩))
set_option maxRecDepth 100000 in
set_option maxHeartbeats 4000000 in
theorem c_drop {Ω : Om} {l : Launch} {M : Mem} {σ : Sg} (hC : IC M σ) (hW : SgW σ) {x : Int32} : Ct Ω l yX11_drop cX11_drop 4 3 (some .int) [.ref (Ω.2.2 0), .int x] M (fun ro M' => ro = some (.int (R_drop σ x).1) ∧ IC M' (R_drop σ x).2 ∧ FrM M M') := by
  have hL49 : Lk 49 := Lk49
  have hL57 : Lk 57 := Lk57
  have hR := hC.lake
  have hLv : Lv σ.v := hW.2.2.1
  have hw := hLv.wv
  have hn := hw.nums
  have hL65 : Lk 65 := Lk65
  refine ct_of (by decide) (Nat.le_of_ble_eq_true rfl) ?_
  intro p e R s m args below meth c
  refine x_iload_n dX11_drop_0 rfl ?_
  refine q_X11_73 (c_isRow) dX11_drop_1 rfl ?_
  rintro _ _ ⟨rfl, rfl⟩
  refine z_if_ne 10 dX11_drop_4 (fun h_4 => ?_) (fun h_4 => ?_)
  · obtain ⟨r, hr, rfl⟩ := inR_nI h_4 (by omega)
    have tr := tN_nI (g := r) (by omega)
    have hrw := Rw8 hr
    obtain ⟨ro1, ro2, ro3⟩ := hC.rows r hr
    refine x_aload_n dX11_drop_10 rfl ?_
    refine g_X11_11 dX11_drop_11 ?_
    refine x_iload_n dX11_drop_14 rfl ?_
    refine x_rows hr dX11_drop_15 ?_
    refine x_astore_n dX11_drop_16 ?_
    refine x_aload_n dX11_drop_17 rfl ?_
    refine q_X11_93 (c_isMissing hrw) dX11_drop_18 rfl ?_
    rintro _ _ ⟨rfl, rfl⟩
    rw [ro2]
    refine z_if_eq 30 dX11_drop_21 (fun h_21 => ?_) (fun h_21 => ?_)
    · have hm : ¬ σ.sz r = -1 := by simpa using h_21
      refine x_aload_n dX11_drop_30 rfl ?_
      refine g_X11_119 dX11_drop_31 ?_
      rw [ro2]
      refine x_istore_n dX11_drop_34 ?_
      refine x_aload_n dX11_drop_35 rfl ?_
      refine q_X11_122 (c_lose hrw) dX11_drop_36 rfl ?_
      rintro _ _ ⟨rfl, rfl⟩
      refine x_aload_n dX11_drop_39 rfl ?_
      refine x_iload_n dX11_drop_40 rfl ?_
      refine q_X11_90 (c_fine) dX11_drop_41 rfl ?_
      rintro _ _ ⟨rfl, rfl⟩
      refine x_iret dX11_drop_44 ?_
      unfold R_drop
      first
        | (rw [if_neg (by rw [h_4]; decide)]
           exact ⟨rfl, hC, FrM.rf⟩)
        | (rw [if_pos h_4, tr]
           first
             | (rw [if_neg hm]
                refine ⟨rfl, hC.setRows ?_ (by rw [up1_at, if_pos ⟨rfl, rfl⟩]) (fun k hk => by rw [up1_at, if_neg (by omega), up1_ne _ _ _ (by omega)]) (fun d h1 h2 => by rw [up1_ne _ _ _ h2, up1_ne _ _ _ (by omega)]), (FrM.rf.up (by omega)).up (by omega)⟩
                intro q hq
                obtain ⟨p1, p2, p3⟩ := hC.rows q hq
                rw [up1_ne _ _ _ (show 18 + 2 * q ≠ 0 by omega), up1_ne _ _ _ (show 19 + 2 * q ≠ 0 by omega)]
                refine ⟨?_, ?_, fun j hj => ?_⟩
                · rw [up1_at, if_neg (by omega)]; exact p1
                · show _ = upF1 σ.sz r (-1) q
                  rw [up1_at]
                  unfold upF1
                  by_cases e : q = r
                  · rw [if_pos e, if_pos ⟨by omega, rfl⟩]
                  · rw [if_neg e, if_neg (by omega)]; exact p2
                · rw [up1_ne _ _ _ (by omega)]
                  exact p3 j hj)
             | (rw [if_pos (by simpa using h_21)]
                exact ⟨rfl, hC.setSt _, FrM.rf.up (by omega)⟩))
    · refine x_aload_n dX11_drop_24 rfl ?_
      refine y_iconst (a := 1) dX11_drop_25 rfl ?_
      refine q_X11_82 (c_found) dX11_drop_26 rfl ?_
      rintro _ _ ⟨rfl, rfl⟩
      refine x_iret dX11_drop_29 ?_
      unfold R_drop
      first
        | (rw [if_neg (by rw [h_4]; decide)]
           exact ⟨rfl, hC, FrM.rf⟩)
        | (rw [if_pos h_4, tr]
           first
             | (rw [if_neg hm]
                refine ⟨rfl, hC.setRows ?_ (by rw [up1_at, if_pos ⟨rfl, rfl⟩]) (fun k hk => by rw [up1_at, if_neg (by omega), up1_ne _ _ _ (by omega)]) (fun d h1 h2 => by rw [up1_ne _ _ _ h2, up1_ne _ _ _ (by omega)]), (FrM.rf.up (by omega)).up (by omega)⟩
                intro q hq
                obtain ⟨p1, p2, p3⟩ := hC.rows q hq
                rw [up1_ne _ _ _ (show 18 + 2 * q ≠ 0 by omega), up1_ne _ _ _ (show 19 + 2 * q ≠ 0 by omega)]
                refine ⟨?_, ?_, fun j hj => ?_⟩
                · rw [up1_at, if_neg (by omega)]; exact p1
                · show _ = upF1 σ.sz r (-1) q
                  rw [up1_at]
                  unfold upF1
                  by_cases e : q = r
                  · rw [if_pos e, if_pos ⟨by omega, rfl⟩]
                  · rw [if_neg e, if_neg (by omega)]; exact p2
                · rw [up1_ne _ _ _ (by omega)]
                  exact p3 j hj)
             | (rw [if_pos (by simpa using h_21)]
                exact ⟨rfl, hC.setSt _, FrM.rf.up (by omega)⟩))
  · refine x_ldc dX11_drop_7 k_X11_81 ?_
    refine x_iret dX11_drop_9 ?_
    unfold R_drop
    first
      | (rw [if_neg (by rw [h_4]; decide)]
         exact ⟨rfl, hC, FrM.rf⟩)
      | (rw [if_pos h_4, tr]
         first
           | (rw [if_neg hm]
              refine ⟨rfl, hC.setRows ?_ (by rw [up1_at, if_pos ⟨rfl, rfl⟩]) (fun k hk => by rw [up1_at, if_neg (by omega), up1_ne _ _ _ (by omega)]) (fun d h1 h2 => by rw [up1_ne _ _ _ h2, up1_ne _ _ _ (by omega)]), (FrM.rf.up (by omega)).up (by omega)⟩
              intro q hq
              obtain ⟨p1, p2, p3⟩ := hC.rows q hq
              rw [up1_ne _ _ _ (show 18 + 2 * q ≠ 0 by omega), up1_ne _ _ _ (show 19 + 2 * q ≠ 0 by omega)]
              refine ⟨?_, ?_, fun j hj => ?_⟩
              · rw [up1_at, if_neg (by omega)]; exact p1
              · show _ = upF1 σ.sz r (-1) q
                rw [up1_at]
                unfold upF1
                by_cases e : q = r
                · rw [if_pos e, if_pos ⟨by omega, rfl⟩]
                · rw [if_neg e, if_neg (by omega)]; exact p2
              · rw [up1_ne _ _ _ (by omega)]
                exact p3 j hj)
           | (rw [if_pos (by simpa using h_21)]
              exact ⟨rfl, hC.setSt _, FrM.rf.up (by omega)⟩))
theorem kdR {r : Nat} (h : r < 8) : kd (18 + 2 * r + 1) = 12 := (by decide : ∀ r, r < 8 → kd (18 + 2 * r + 1) = 12) r h
theorem lnR {r : Nat} (h : r < 8) : ln (18 + 2 * r + 1) = 40 := (by decide : ∀ r, r < 8 → ln (18 + 2 * r + 1) = 40) r h
set_option maxRecDepth 100000 in
set_option maxHeartbeats 4000000 in
theorem c_copy {Ω : Om} {l : Launch} {M : Mem} {σ : Sg} (hC : IC M σ) (hW : SgW σ) {x i y j n : Int32} : Ct Ω l yX11_copy cX11_copy 8 3 (some .int) [.ref (Ω.2.2 0), .int x, .int i, .int y, .int j, .int n] M (fun ro M' => ro = some (.int (R_copy σ x i y j n).1) ∧ IC M' (R_copy σ x i y j n).2 ∧ FrM M M') := by
  have hL49 : Lk 49 := Lk49
  have hL57 : Lk 57 := Lk57
  have hR := hC.lake
  have hLv : Lv σ.v := hW.2.2.1
  have hw := hLv.wv
  have hn := hw.nums
  have hL65 : Lk 65 := Lk65
  refine ct_of (by decide) (Nat.le_of_ble_eq_true rfl) ?_
  intro p e R s m args below meth c
  refine x_iload_n dX11_copy_0 rfl ?_
  refine q_X11_73 (c_isRow) dX11_copy_1 rfl ?_
  rintro _ _ ⟨rfl, rfl⟩
  refine z_if_eq 14 dX11_copy_4 (fun h_4 => ?_) (fun h_4 => ?_)
  · refine x_ldc dX11_copy_14 k_X11_81 ?_
    refine x_iret dX11_copy_16 ?_
    unfold R_copy
    first
      | (rw [if_neg (by simp [*])]
         exact ⟨rfl, hC, FrM.rf⟩)
      | (rw [if_pos ⟨h_4, h_11⟩, tr, tq]
         first
           | (rw [if_pos hm]
              exact ⟨rfl, hC.setSt _, FrM.rf.up (by omega)⟩)
           | (rw [if_neg (by rintro (z | z); exact hm1 z; exact hm2 z)]
              first
                | (rw [if_pos h_65, if_pos ⟨hs1, hs2⟩, ti, tj, tn]
                   refine ⟨rfl, hC.setRows ?_ (by rw [up1_at, if_pos ⟨rfl, rfl⟩]) (fun k hk => by rw [up1_at, if_neg (by omega), upR_ne _ _ (by omega)]) (fun d h1 h2 => by rw [up1_ne _ _ _ h2, upR_ne _ _ (by omega)]), fun d h1 h2 => by rw [up1_ne _ _ _ (by omega), upR_ne _ _ (by omega)]⟩
                   intro s hs
                   obtain ⟨p1, p2, p3⟩ := hC.rows s hs
                   rw [up1_ne _ _ _ (by omega), up1_ne _ _ _ (by omega), upR_ne _ _ (by omega)]
                   refine ⟨p1, p2, fun k hk => ?_⟩
                   show _ = (if s = q ∧ j0 ≤ k ∧ k < j0 + n0 then σ.it r (i0 + (k - j0)) else σ.it s k)
                   by_cases e : s = q
                   · subst e
                     rw [show 18 + 2 * s + 1 = 19 + 2 * s by omega, upR_row]
                     unfold va_cpy
                     by_cases e2 : j0 ≤ k ∧ k < j0 + n0
                     · rw [if_pos e2, if_pos ⟨rfl, e2⟩, show 18 + 2 * r + 1 = 19 + 2 * r by omega]
                       exact ro3 _ (by omega)
                     · rw [if_neg e2, if_neg (by omega)]
                       exact p3 k hk
                   · rw [upR_ne _ _ (by omega), if_neg (by omega)]
                     exact p3 k hk)
                | (rw [if_pos h_65, if_neg (by rintro ⟨y1, y2⟩; first | (have y3 : spn (σ.sz r) i n = false := h_82; rw [y1] at y3; cases y3) | (have y3 : spn (σ.sz q) j n = false := h_94; rw [y2] at y3; cases y3))]
                   exact ⟨rfl, hC.setSt _, FrM.rf.up (by omega)⟩)
                | (rw [if_neg h_65]
                   exact ⟨rfl, hC.setSt _, FrM.rf.up (by omega)⟩)))
  · refine x_iload_n dX11_copy_7 rfl ?_
    refine q_X11_73 (c_isRow) dX11_copy_8 rfl ?_
    rintro _ _ ⟨rfl, rfl⟩
    refine z_if_ne 17 dX11_copy_11 (fun h_11 => ?_) (fun h_11 => ?_)
    · obtain ⟨r, hr, rfl⟩ := inR_nI h_4 (by omega)
      obtain ⟨q, hq, rfl⟩ := inR_nI h_11 (by omega)
      have tr := tN_nI (g := r) (by omega)
      have tq := tN_nI (g := q) (by omega)
      have hrw := Rw8 hr
      have hqw := Rw8 hq
      obtain ⟨ro1, ro2, ro3⟩ := hC.rows r hr
      obtain ⟨qo1, qo2, qo3⟩ := hC.rows q hq
      refine x_aload_n dX11_copy_17 rfl ?_
      refine g_X11_11 dX11_copy_18 ?_
      refine x_iload_n dX11_copy_21 rfl ?_
      refine x_rows hr dX11_copy_22 ?_
      refine x_astore dX11_copy_23 ?_
      refine x_aload_n dX11_copy_25 rfl ?_
      refine g_X11_11 dX11_copy_26 ?_
      refine x_iload_n dX11_copy_29 rfl ?_
      refine x_rows hq dX11_copy_30 ?_
      refine x_astore dX11_copy_31 ?_
      refine x_aload dX11_copy_33 rfl ?_
      refine q_X11_93 (c_isMissing hrw) dX11_copy_35 rfl ?_
      rintro _ _ ⟨rfl, rfl⟩
      rw [ro2]
      refine z_if_ne 49 dX11_copy_38 (fun h_38 => ?_) (fun h_38 => ?_)
      · have hm : σ.sz r = -1 ∨ σ.sz q = -1 := by first | (left; simpa using h_38) | (right; simpa using h_46)
        refine x_aload_n dX11_copy_49 rfl ?_
        refine y_iconst (a := 1) dX11_copy_50 rfl ?_
        refine q_X11_82 (c_found) dX11_copy_51 rfl ?_
        rintro _ _ ⟨rfl, rfl⟩
        refine x_iret dX11_copy_54 ?_
        unfold R_copy
        first
          | (rw [if_neg (by simp [*])]
             exact ⟨rfl, hC, FrM.rf⟩)
          | (rw [if_pos ⟨h_4, h_11⟩, tr, tq]
             first
               | (rw [if_pos hm]
                  exact ⟨rfl, hC.setSt _, FrM.rf.up (by omega)⟩)
               | (rw [if_neg (by rintro (z | z); exact hm1 z; exact hm2 z)]
                  first
                    | (rw [if_pos h_65, if_pos ⟨hs1, hs2⟩, ti, tj, tn]
                       refine ⟨rfl, hC.setRows ?_ (by rw [up1_at, if_pos ⟨rfl, rfl⟩]) (fun k hk => by rw [up1_at, if_neg (by omega), upR_ne _ _ (by omega)]) (fun d h1 h2 => by rw [up1_ne _ _ _ h2, upR_ne _ _ (by omega)]), fun d h1 h2 => by rw [up1_ne _ _ _ (by omega), upR_ne _ _ (by omega)]⟩
                       intro s hs
                       obtain ⟨p1, p2, p3⟩ := hC.rows s hs
                       rw [up1_ne _ _ _ (by omega), up1_ne _ _ _ (by omega), upR_ne _ _ (by omega)]
                       refine ⟨p1, p2, fun k hk => ?_⟩
                       show _ = (if s = q ∧ j0 ≤ k ∧ k < j0 + n0 then σ.it r (i0 + (k - j0)) else σ.it s k)
                       by_cases e : s = q
                       · subst e
                         rw [show 18 + 2 * s + 1 = 19 + 2 * s by omega, upR_row]
                         unfold va_cpy
                         by_cases e2 : j0 ≤ k ∧ k < j0 + n0
                         · rw [if_pos e2, if_pos ⟨rfl, e2⟩, show 18 + 2 * r + 1 = 19 + 2 * r by omega]
                           exact ro3 _ (by omega)
                         · rw [if_neg e2, if_neg (by omega)]
                           exact p3 k hk
                       · rw [upR_ne _ _ (by omega), if_neg (by omega)]
                         exact p3 k hk)
                    | (rw [if_pos h_65, if_neg (by rintro ⟨y1, y2⟩; first | (have y3 : spn (σ.sz r) i n = false := h_82; rw [y1] at y3; cases y3) | (have y3 : spn (σ.sz q) j n = false := h_94; rw [y2] at y3; cases y3))]
                       exact ⟨rfl, hC.setSt _, FrM.rf.up (by omega)⟩)
                    | (rw [if_neg h_65]
                       exact ⟨rfl, hC.setSt _, FrM.rf.up (by omega)⟩)))
      · refine x_aload dX11_copy_41 rfl ?_
        refine q_X11_93 (c_isMissing hqw) dX11_copy_43 rfl ?_
        rintro _ _ ⟨rfl, rfl⟩
        rw [qo2]
        refine z_if_eq 55 dX11_copy_46 (fun h_46 => ?_) (fun h_46 => ?_)
        · have hm1 : ¬ σ.sz r = -1 := by simpa using h_38
          have hm2 : ¬ σ.sz q = -1 := by simpa using h_46
          refine x_aload dX11_copy_55 rfl ?_
          refine g_X11_105 dX11_copy_57 ?_
          rw [ro1]
          refine x_aload dX11_copy_60 rfl ?_
          refine g_X11_105 dX11_copy_62 ?_
          rw [qo1]
          refine x_icmp_eq 74 dX11_copy_65 (fun h_65 => ?_) (fun h_65 => ?_)
          · refine x_aload dX11_copy_74 rfl ?_
            refine x_iload_n dX11_copy_76 rfl ?_
            refine x_iload dX11_copy_77 rfl ?_
            refine q_X11_97 (c_hasSpan hrw) dX11_copy_79 rfl ?_
            rintro _ _ ⟨rfl, rfl⟩
            rw [ro2]
            refine z_if_eq 97 dX11_copy_82 (fun h_82 => ?_) (fun h_82 => ?_)
            · refine x_aload_n dX11_copy_97 rfl ?_
              refine y_iconst (a := 2) dX11_copy_98 rfl ?_
              refine q_X11_82 (c_found) dX11_copy_99 rfl ?_
              rintro _ _ ⟨rfl, rfl⟩
              refine x_iret dX11_copy_102 ?_
              unfold R_copy
              first
                | (rw [if_neg (by simp [*])]
                   exact ⟨rfl, hC, FrM.rf⟩)
                | (rw [if_pos ⟨h_4, h_11⟩, tr, tq]
                   first
                     | (rw [if_pos hm]
                        exact ⟨rfl, hC.setSt _, FrM.rf.up (by omega)⟩)
                     | (rw [if_neg (by rintro (z | z); exact hm1 z; exact hm2 z)]
                        first
                          | (rw [if_pos h_65, if_pos ⟨hs1, hs2⟩, ti, tj, tn]
                             refine ⟨rfl, hC.setRows ?_ (by rw [up1_at, if_pos ⟨rfl, rfl⟩]) (fun k hk => by rw [up1_at, if_neg (by omega), upR_ne _ _ (by omega)]) (fun d h1 h2 => by rw [up1_ne _ _ _ h2, upR_ne _ _ (by omega)]), fun d h1 h2 => by rw [up1_ne _ _ _ (by omega), upR_ne _ _ (by omega)]⟩
                             intro s hs
                             obtain ⟨p1, p2, p3⟩ := hC.rows s hs
                             rw [up1_ne _ _ _ (by omega), up1_ne _ _ _ (by omega), upR_ne _ _ (by omega)]
                             refine ⟨p1, p2, fun k hk => ?_⟩
                             show _ = (if s = q ∧ j0 ≤ k ∧ k < j0 + n0 then σ.it r (i0 + (k - j0)) else σ.it s k)
                             by_cases e : s = q
                             · subst e
                               rw [show 18 + 2 * s + 1 = 19 + 2 * s by omega, upR_row]
                               unfold va_cpy
                               by_cases e2 : j0 ≤ k ∧ k < j0 + n0
                               · rw [if_pos e2, if_pos ⟨rfl, e2⟩, show 18 + 2 * r + 1 = 19 + 2 * r by omega]
                                 exact ro3 _ (by omega)
                               · rw [if_neg e2, if_neg (by omega)]
                                 exact p3 k hk
                             · rw [upR_ne _ _ (by omega), if_neg (by omega)]
                               exact p3 k hk)
                          | (rw [if_pos h_65, if_neg (by rintro ⟨y1, y2⟩; first | (have y3 : spn (σ.sz r) i n = false := h_82; rw [y1] at y3; cases y3) | (have y3 : spn (σ.sz q) j n = false := h_94; rw [y2] at y3; cases y3))]
                             exact ⟨rfl, hC.setSt _, FrM.rf.up (by omega)⟩)
                          | (rw [if_neg h_65]
                             exact ⟨rfl, hC.setSt _, FrM.rf.up (by omega)⟩)))
            · refine x_aload dX11_copy_85 rfl ?_
              refine x_iload dX11_copy_87 rfl ?_
              refine x_iload dX11_copy_89 rfl ?_
              refine q_X11_97 (c_hasSpan hqw) dX11_copy_91 rfl ?_
              rintro _ _ ⟨rfl, rfl⟩
              rw [qo2]
              refine z_if_ne 103 dX11_copy_94 (fun h_94 => ?_) (fun h_94 => ?_)
              · obtain ⟨z, hz, hze⟩ := hW.1.nat hr hm1
                obtain ⟨z2, hz2, hze2⟩ := hW.1.nat hq hm2
                have hs1 : spn (σ.sz r) i n = true := h_82
                have hs2 : spn (σ.sz q) j n = true := h_94
                have hs3 := hs1
                have hs4 := hs2
                rw [hze] at hs3
                rw [hze2] at hs4
                obtain ⟨i0, n0, hi0, rfl, rfl⟩ := spn_nat2 hz hs3
                obtain ⟨j0, hj0, rfl⟩ := spn_nat hz2 (by omega) hs4
                have ti := tN_nI (g := i0) (by omega)
                have tj := tN_nI (g := j0) (by omega)
                have tn := tN_nI (g := n0) (by omega)
                refine x_aload dX11_copy_103 rfl ?_
                refine g_X11_109 dX11_copy_105 ?_
                refine x_iload_n dX11_copy_108 rfl ?_
                refine x_aload dX11_copy_109 rfl ?_
                refine g_X11_109 dX11_copy_111 ?_
                refine x_iload dX11_copy_114 rfl ?_
                refine x_iload dX11_copy_116 rfl ?_
                refine x_copy dX11_copy_118 q_X11_113 (by show _ < 289; omega) (by show _ < 289; omega) (kdR hr) (kdR hq) (nI_pos (by omega)) (nI_pos (by omega)) (nI_pos (by omega)) (by rw [nI_clamp (by omega), nI_clamp (by omega), lnR hr]; omega) (by rw [nI_clamp (by omega), nI_clamp (by omega), lnR hq]; omega) (by decide) (by decide) ?_
                rw [nI_clamp (by omega), nI_clamp (by omega), nI_clamp (by omega)]
                refine x_aload_n dX11_copy_121 rfl ?_
                refine x_iload dX11_copy_122 rfl ?_
                refine q_X11_90 (c_fine) dX11_copy_124 rfl ?_
                rintro _ _ ⟨rfl, rfl⟩
                refine x_iret dX11_copy_127 ?_
                unfold R_copy
                first
                  | (rw [if_neg (by simp [*])]
                     exact ⟨rfl, hC, FrM.rf⟩)
                  | (rw [if_pos ⟨h_4, h_11⟩, tr, tq]
                     first
                       | (rw [if_pos hm]
                          exact ⟨rfl, hC.setSt _, FrM.rf.up (by omega)⟩)
                       | (rw [if_neg (by rintro (z | z); exact hm1 z; exact hm2 z)]
                          first
                            | (rw [if_pos h_65, if_pos ⟨hs1, hs2⟩, ti, tj, tn]
                               refine ⟨rfl, hC.setRows ?_ (by rw [up1_at, if_pos ⟨rfl, rfl⟩]) (fun k hk => by rw [up1_at, if_neg (by omega), upR_ne _ _ (by omega)]) (fun d h1 h2 => by rw [up1_ne _ _ _ h2, upR_ne _ _ (by omega)]), fun d h1 h2 => by rw [up1_ne _ _ _ (by omega), upR_ne _ _ (by omega)]⟩
                               intro s hs
                               obtain ⟨p1, p2, p3⟩ := hC.rows s hs
                               rw [up1_ne _ _ _ (by omega), up1_ne _ _ _ (by omega), upR_ne _ _ (by omega)]
                               refine ⟨p1, p2, fun k hk => ?_⟩
                               show _ = (if s = q ∧ j0 ≤ k ∧ k < j0 + n0 then σ.it r (i0 + (k - j0)) else σ.it s k)
                               by_cases e : s = q
                               · subst e
                                 rw [show 18 + 2 * s + 1 = 19 + 2 * s by omega, upR_row]
                                 unfold va_cpy
                                 by_cases e2 : j0 ≤ k ∧ k < j0 + n0
                                 · rw [if_pos e2, if_pos ⟨rfl, e2⟩, show 18 + 2 * r + 1 = 19 + 2 * r by omega]
                                   exact ro3 _ (by omega)
                                 · rw [if_neg e2, if_neg (by omega)]
                                   exact p3 k hk
                               · rw [upR_ne _ _ (by omega), if_neg (by omega)]
                                 exact p3 k hk)
                            | (rw [if_pos h_65, if_neg (by rintro ⟨y1, y2⟩; first | (have y3 : spn (σ.sz r) i n = false := h_82; rw [y1] at y3; cases y3) | (have y3 : spn (σ.sz q) j n = false := h_94; rw [y2] at y3; cases y3))]
                               exact ⟨rfl, hC.setSt _, FrM.rf.up (by omega)⟩)
                            | (rw [if_neg h_65]
                               exact ⟨rfl, hC.setSt _, FrM.rf.up (by omega)⟩)))
              · refine x_aload_n dX11_copy_97 rfl ?_
                refine y_iconst (a := 2) dX11_copy_98 rfl ?_
                refine q_X11_82 (c_found) dX11_copy_99 rfl ?_
                rintro _ _ ⟨rfl, rfl⟩
                refine x_iret dX11_copy_102 ?_
                unfold R_copy
                first
                  | (rw [if_neg (by simp [*])]
                     exact ⟨rfl, hC, FrM.rf⟩)
                  | (rw [if_pos ⟨h_4, h_11⟩, tr, tq]
                     first
                       | (rw [if_pos hm]
                          exact ⟨rfl, hC.setSt _, FrM.rf.up (by omega)⟩)
                       | (rw [if_neg (by rintro (z | z); exact hm1 z; exact hm2 z)]
                          first
                            | (rw [if_pos h_65, if_pos ⟨hs1, hs2⟩, ti, tj, tn]
                               refine ⟨rfl, hC.setRows ?_ (by rw [up1_at, if_pos ⟨rfl, rfl⟩]) (fun k hk => by rw [up1_at, if_neg (by omega), upR_ne _ _ (by omega)]) (fun d h1 h2 => by rw [up1_ne _ _ _ h2, upR_ne _ _ (by omega)]), fun d h1 h2 => by rw [up1_ne _ _ _ (by omega), upR_ne _ _ (by omega)]⟩
                               intro s hs
                               obtain ⟨p1, p2, p3⟩ := hC.rows s hs
                               rw [up1_ne _ _ _ (by omega), up1_ne _ _ _ (by omega), upR_ne _ _ (by omega)]
                               refine ⟨p1, p2, fun k hk => ?_⟩
                               show _ = (if s = q ∧ j0 ≤ k ∧ k < j0 + n0 then σ.it r (i0 + (k - j0)) else σ.it s k)
                               by_cases e : s = q
                               · subst e
                                 rw [show 18 + 2 * s + 1 = 19 + 2 * s by omega, upR_row]
                                 unfold va_cpy
                                 by_cases e2 : j0 ≤ k ∧ k < j0 + n0
                                 · rw [if_pos e2, if_pos ⟨rfl, e2⟩, show 18 + 2 * r + 1 = 19 + 2 * r by omega]
                                   exact ro3 _ (by omega)
                                 · rw [if_neg e2, if_neg (by omega)]
                                   exact p3 k hk
                               · rw [upR_ne _ _ (by omega), if_neg (by omega)]
                                 exact p3 k hk)
                            | (rw [if_pos h_65, if_neg (by rintro ⟨y1, y2⟩; first | (have y3 : spn (σ.sz r) i n = false := h_82; rw [y1] at y3; cases y3) | (have y3 : spn (σ.sz q) j n = false := h_94; rw [y2] at y3; cases y3))]
                               exact ⟨rfl, hC.setSt _, FrM.rf.up (by omega)⟩)
                            | (rw [if_neg h_65]
                               exact ⟨rfl, hC.setSt _, FrM.rf.up (by omega)⟩)))
          · refine x_aload_n dX11_copy_68 rfl ?_
            refine y_iconst (a := 5) dX11_copy_69 rfl ?_
            refine q_X11_82 (c_found) dX11_copy_70 rfl ?_
            rintro _ _ ⟨rfl, rfl⟩
            refine x_iret dX11_copy_73 ?_
            unfold R_copy
            first
              | (rw [if_neg (by simp [*])]
                 exact ⟨rfl, hC, FrM.rf⟩)
              | (rw [if_pos ⟨h_4, h_11⟩, tr, tq]
                 first
                   | (rw [if_pos hm]
                      exact ⟨rfl, hC.setSt _, FrM.rf.up (by omega)⟩)
                   | (rw [if_neg (by rintro (z | z); exact hm1 z; exact hm2 z)]
                      first
                        | (rw [if_pos h_65, if_pos ⟨hs1, hs2⟩, ti, tj, tn]
                           refine ⟨rfl, hC.setRows ?_ (by rw [up1_at, if_pos ⟨rfl, rfl⟩]) (fun k hk => by rw [up1_at, if_neg (by omega), upR_ne _ _ (by omega)]) (fun d h1 h2 => by rw [up1_ne _ _ _ h2, upR_ne _ _ (by omega)]), fun d h1 h2 => by rw [up1_ne _ _ _ (by omega), upR_ne _ _ (by omega)]⟩
                           intro s hs
                           obtain ⟨p1, p2, p3⟩ := hC.rows s hs
                           rw [up1_ne _ _ _ (by omega), up1_ne _ _ _ (by omega), upR_ne _ _ (by omega)]
                           refine ⟨p1, p2, fun k hk => ?_⟩
                           show _ = (if s = q ∧ j0 ≤ k ∧ k < j0 + n0 then σ.it r (i0 + (k - j0)) else σ.it s k)
                           by_cases e : s = q
                           · subst e
                             rw [show 18 + 2 * s + 1 = 19 + 2 * s by omega, upR_row]
                             unfold va_cpy
                             by_cases e2 : j0 ≤ k ∧ k < j0 + n0
                             · rw [if_pos e2, if_pos ⟨rfl, e2⟩, show 18 + 2 * r + 1 = 19 + 2 * r by omega]
                               exact ro3 _ (by omega)
                             · rw [if_neg e2, if_neg (by omega)]
                               exact p3 k hk
                           · rw [upR_ne _ _ (by omega), if_neg (by omega)]
                             exact p3 k hk)
                        | (rw [if_pos h_65, if_neg (by rintro ⟨y1, y2⟩; first | (have y3 : spn (σ.sz r) i n = false := h_82; rw [y1] at y3; cases y3) | (have y3 : spn (σ.sz q) j n = false := h_94; rw [y2] at y3; cases y3))]
                           exact ⟨rfl, hC.setSt _, FrM.rf.up (by omega)⟩)
                        | (rw [if_neg h_65]
                           exact ⟨rfl, hC.setSt _, FrM.rf.up (by omega)⟩)))
        · have hm : σ.sz r = -1 ∨ σ.sz q = -1 := by first | (left; simpa using h_38) | (right; simpa using h_46)
          refine x_aload_n dX11_copy_49 rfl ?_
          refine y_iconst (a := 1) dX11_copy_50 rfl ?_
          refine q_X11_82 (c_found) dX11_copy_51 rfl ?_
          rintro _ _ ⟨rfl, rfl⟩
          refine x_iret dX11_copy_54 ?_
          unfold R_copy
          first
            | (rw [if_neg (by simp [*])]
               exact ⟨rfl, hC, FrM.rf⟩)
            | (rw [if_pos ⟨h_4, h_11⟩, tr, tq]
               first
                 | (rw [if_pos hm]
                    exact ⟨rfl, hC.setSt _, FrM.rf.up (by omega)⟩)
                 | (rw [if_neg (by rintro (z | z); exact hm1 z; exact hm2 z)]
                    first
                      | (rw [if_pos h_65, if_pos ⟨hs1, hs2⟩, ti, tj, tn]
                         refine ⟨rfl, hC.setRows ?_ (by rw [up1_at, if_pos ⟨rfl, rfl⟩]) (fun k hk => by rw [up1_at, if_neg (by omega), upR_ne _ _ (by omega)]) (fun d h1 h2 => by rw [up1_ne _ _ _ h2, upR_ne _ _ (by omega)]), fun d h1 h2 => by rw [up1_ne _ _ _ (by omega), upR_ne _ _ (by omega)]⟩
                         intro s hs
                         obtain ⟨p1, p2, p3⟩ := hC.rows s hs
                         rw [up1_ne _ _ _ (by omega), up1_ne _ _ _ (by omega), upR_ne _ _ (by omega)]
                         refine ⟨p1, p2, fun k hk => ?_⟩
                         show _ = (if s = q ∧ j0 ≤ k ∧ k < j0 + n0 then σ.it r (i0 + (k - j0)) else σ.it s k)
                         by_cases e : s = q
                         · subst e
                           rw [show 18 + 2 * s + 1 = 19 + 2 * s by omega, upR_row]
                           unfold va_cpy
                           by_cases e2 : j0 ≤ k ∧ k < j0 + n0
                           · rw [if_pos e2, if_pos ⟨rfl, e2⟩, show 18 + 2 * r + 1 = 19 + 2 * r by omega]
                             exact ro3 _ (by omega)
                           · rw [if_neg e2, if_neg (by omega)]
                             exact p3 k hk
                         · rw [upR_ne _ _ (by omega), if_neg (by omega)]
                           exact p3 k hk)
                      | (rw [if_pos h_65, if_neg (by rintro ⟨y1, y2⟩; first | (have y3 : spn (σ.sz r) i n = false := h_82; rw [y1] at y3; cases y3) | (have y3 : spn (σ.sz q) j n = false := h_94; rw [y2] at y3; cases y3))]
                         exact ⟨rfl, hC.setSt _, FrM.rf.up (by omega)⟩)
                      | (rw [if_neg h_65]
                         exact ⟨rfl, hC.setSt _, FrM.rf.up (by omega)⟩)))
    · refine x_ldc dX11_copy_14 k_X11_81 ?_
      refine x_iret dX11_copy_16 ?_
      unfold R_copy
      first
        | (rw [if_neg (by simp [*])]
           exact ⟨rfl, hC, FrM.rf⟩)
        | (rw [if_pos ⟨h_4, h_11⟩, tr, tq]
           first
             | (rw [if_pos hm]
                exact ⟨rfl, hC.setSt _, FrM.rf.up (by omega)⟩)
             | (rw [if_neg (by rintro (z | z); exact hm1 z; exact hm2 z)]
                first
                  | (rw [if_pos h_65, if_pos ⟨hs1, hs2⟩, ti, tj, tn]
                     refine ⟨rfl, hC.setRows ?_ (by rw [up1_at, if_pos ⟨rfl, rfl⟩]) (fun k hk => by rw [up1_at, if_neg (by omega), upR_ne _ _ (by omega)]) (fun d h1 h2 => by rw [up1_ne _ _ _ h2, upR_ne _ _ (by omega)]), fun d h1 h2 => by rw [up1_ne _ _ _ (by omega), upR_ne _ _ (by omega)]⟩
                     intro s hs
                     obtain ⟨p1, p2, p3⟩ := hC.rows s hs
                     rw [up1_ne _ _ _ (by omega), up1_ne _ _ _ (by omega), upR_ne _ _ (by omega)]
                     refine ⟨p1, p2, fun k hk => ?_⟩
                     show _ = (if s = q ∧ j0 ≤ k ∧ k < j0 + n0 then σ.it r (i0 + (k - j0)) else σ.it s k)
                     by_cases e : s = q
                     · subst e
                       rw [show 18 + 2 * s + 1 = 19 + 2 * s by omega, upR_row]
                       unfold va_cpy
                       by_cases e2 : j0 ≤ k ∧ k < j0 + n0
                       · rw [if_pos e2, if_pos ⟨rfl, e2⟩, show 18 + 2 * r + 1 = 19 + 2 * r by omega]
                         exact ro3 _ (by omega)
                       · rw [if_neg e2, if_neg (by omega)]
                         exact p3 k hk
                     · rw [upR_ne _ _ (by omega), if_neg (by omega)]
                       exact p3 k hk)
                  | (rw [if_pos h_65, if_neg (by rintro ⟨y1, y2⟩; first | (have y3 : spn (σ.sz r) i n = false := h_82; rw [y1] at y3; cases y3) | (have y3 : spn (σ.sz q) j n = false := h_94; rw [y2] at y3; cases y3))]
                     exact ⟨rfl, hC.setSt _, FrM.rf.up (by omega)⟩)
                  | (rw [if_neg h_65]
                     exact ⟨rfl, hC.setSt _, FrM.rf.up (by omega)⟩)))
set_option maxRecDepth 100000 in
set_option maxHeartbeats 4000000 in
theorem c_take {Ω : Om} {l : Launch} {M : Mem} {n : Nat} (hn : n < 100) (h1 : M.1 2 1 = nI n) {x : Int32} : Ct Ω l yX10_take cX10_take 2 1 (some .int) [.ref (Ω.2.2 2), .int x] M (fun ro M' => ro = some (.int (nI (n + 1))) ∧ M' = up1 (up1 M 3 n x) 2 1 (nI (n + 1))) := by
  have hL49 : Lk 49 := Lk49
  have hL57 : Lk 57 := Lk57
  refine ct_of (by decide) (Nat.le_of_ble_eq_true rfl) ?_
  intro p e R s m args below meth c
  refine x_aload_n dX10_take_0 rfl ?_
  refine g_X10_9 dX10_take_1 ?_
  refine x_aload_n dX10_take_4 rfl ?_
  refine g_X10_15 dX10_take_5 ?_
  rw [h1]
  refine x_iload_n dX10_take_8 rfl ?_
  refine x_ias dX10_take_9 (⟨by decide, rfl, rfl, by decide⟩ : Ar 3 100) (by omega) ?_
  refine x_aload_n dX10_take_10 rfl ?_
  refine x_dup dX10_take_11 rfl ?_
  refine g_X10_15 dX10_take_12 ?_
  rw [up1_ne _ _ _ (by omega), h1]
  refine y_iconst (a := 1) dX10_take_15 rfl ?_
  refine y_iadd dX10_take_16 ?_
  refine p_X10_15 dX10_take_17 ?_
  refine x_aload_n dX10_take_20 rfl ?_
  refine g_X10_15 dX10_take_21 ?_
  rw [up1_at, if_pos ⟨rfl, rfl⟩]
  refine x_iret dX10_take_24 ?_
  exact ⟨rfl, rfl⟩
set_option maxRecDepth 100000 in
set_option maxHeartbeats 4000000 in
theorem c_feed {Ω : Om} {l : Launch} {M : Mem} {σ : Sg} (hC : IC M σ) (hW : SgW σ) {x : Int32} : Ct Ω l yX11_feed cX11_feed 2 2 (some .int) [.ref (Ω.2.2 0), .int x] M (fun ro M' => ro = some (.int (R_feed σ x).1) ∧ IC M' (R_feed σ x).2 ∧ FrM M M') := by
  have hL49 : Lk 49 := Lk49
  have hL57 : Lk 57 := Lk57
  have hR := hC.lake
  have hLv : Lv σ.v := hW.2.2.1
  have hw := hLv.wv
  have hn := hw.nums
  have hL65 : Lk 65 := Lk65
  refine ct_of (by decide) (Nat.le_of_ble_eq_true rfl) ?_
  intro p e R s m args below meth c
  refine x_iload_n dX11_feed_0 rfl ?_
  refine y_iconst (a := 0) dX11_feed_1 rfl ?_
  refine x_sipush (v := nI 255) dX11_feed_2 rfl ?_
  refine q_X11_77 (c_within (by omega) (by omega)) dX11_feed_5 rfl ?_
  rintro _ _ ⟨rfl, rfl⟩
  refine z_if_ne 14 dX11_feed_8 (fun h_8 => ?_) (fun h_8 => ?_)
  · obtain ⟨x0, hx0, hx1, rfl⟩ := inB_nI h_8 (by omega)
    have tx := tN_nI (g := x0) (by omega)
    have ht1 := hC.tape.1
    have ht100 := hW.2.1.1
    refine x_aload_n dX11_feed_14 rfl ?_
    refine g_X11_18 dX11_feed_15 ?_
    refine g_X11_125 dX11_feed_18 ?_
    rw [ht1]
    refine x_bipush (v := nI 100) dX11_feed_21 rfl ?_
    refine y_icmp_lt 29 dX11_feed_23 (by omega) (by omega) (fun h_23 => ?_) (fun h_23 => ?_)
    · refine x_aload_n dX11_feed_29 rfl ?_
      refine g_X11_18 dX11_feed_30 ?_
      refine x_iload_n dX11_feed_33 rfl ?_
      refine q_X11_127 (c_take h_23 ht1) dX11_feed_34 rfl ?_
      rintro _ _ ⟨rfl, rfl⟩
      refine x_iret dX11_feed_37 ?_
      unfold R_feed
      first
        | (rw [if_neg (by rw [h_8]; decide)]
           exact ⟨rfl, hC, FrM.rf⟩)
        | (rw [if_pos h_8]
           first
             | (rw [if_pos h_23, tx]
                refine ⟨rfl, hC.setTape ⟨?_, fun j hj => ?_⟩ (fun d h1 h2 => by rw [up1_ne _ _ _ h1, up1_ne _ _ _ h2]), (FrM.rf.up (by omega)).up (by omega)⟩
                · rw [up1_at, if_pos ⟨rfl, rfl⟩]; rfl
                · have hj2 : j < σ.tn + 1 := hj
                  show _ = nI (if j = σ.tn then x0 else σ.tb j)
                  rw [up1_ne _ _ _ (by omega), up1_at]
                  by_cases e : j = σ.tn
                  · rw [if_pos e, if_pos ⟨rfl, e⟩]
                  · rw [if_neg e, if_neg (by omega)]
                    exact hC.tape.2 j (by omega))
             | (rw [if_neg (by omega)]
                exact ⟨rfl, hC, FrM.rf⟩))
    · refine x_ldc dX11_feed_26 k_X11_126 ?_
      refine x_iret dX11_feed_28 ?_
      unfold R_feed
      first
        | (rw [if_neg (by rw [h_8]; decide)]
           exact ⟨rfl, hC, FrM.rf⟩)
        | (rw [if_pos h_8]
           first
             | (rw [if_pos h_23, tx]
                refine ⟨rfl, hC.setTape ⟨?_, fun j hj => ?_⟩ (fun d h1 h2 => by rw [up1_ne _ _ _ h1, up1_ne _ _ _ h2]), (FrM.rf.up (by omega)).up (by omega)⟩
                · rw [up1_at, if_pos ⟨rfl, rfl⟩]; rfl
                · have hj2 : j < σ.tn + 1 := hj
                  show _ = nI (if j = σ.tn then x0 else σ.tb j)
                  rw [up1_ne _ _ _ (by omega), up1_at]
                  by_cases e : j = σ.tn
                  · rw [if_pos e, if_pos ⟨rfl, e⟩]
                  · rw [if_neg e, if_neg (by omega)]
                    exact hC.tape.2 j (by omega))
             | (rw [if_neg (by omega)]
                exact ⟨rfl, hC, FrM.rf⟩))
  · refine x_ldc dX11_feed_11 k_X11_81 ?_
    refine x_iret dX11_feed_13 ?_
    unfold R_feed
    first
      | (rw [if_neg (by rw [h_8]; decide)]
         exact ⟨rfl, hC, FrM.rf⟩)
      | (rw [if_pos h_8]
         first
           | (rw [if_pos h_23, tx]
              refine ⟨rfl, hC.setTape ⟨?_, fun j hj => ?_⟩ (fun d h1 h2 => by rw [up1_ne _ _ _ h1, up1_ne _ _ _ h2]), (FrM.rf.up (by omega)).up (by omega)⟩
              · rw [up1_at, if_pos ⟨rfl, rfl⟩]; rfl
              · have hj2 : j < σ.tn + 1 := hj
                show _ = nI (if j = σ.tn then x0 else σ.tb j)
                rw [up1_ne _ _ _ (by omega), up1_at]
                by_cases e : j = σ.tn
                · rw [if_pos e, if_pos ⟨rfl, e⟩]
                · rw [if_neg e, if_neg (by omega)]
                  exact hC.tape.2 j (by omega))
           | (rw [if_neg (by omega)]
              exact ⟨rfl, hC, FrM.rf⟩))
