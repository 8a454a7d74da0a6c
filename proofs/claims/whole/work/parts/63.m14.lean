/-! THE REFERENCE: the reading (laid by gen_m14.py) -/
def TbM (M : Mem) (T : Tp) : Prop := M.1 34 8 = nI T.1 ∧ ∀ j, j < T.1 → M.1 40 j = nI (T.2 j)
def tkv (c : Nat) : Nat := if c = 256 then 3 else if c = 257 then 2 else if c = 258 then 0 else if (97 ≤ c ∧ c ≤ 122) ∨ c = 44 ∨ c = 59 then 1 else 0
def TkM (M : Mem) (T : Tp) (a : Nat) : Prop := TbM M T ∧ M.1 34 13 = nI a ∧ a ≤ T.1 ∧ M.1 34 11 = nI (tkv (tcd T a)) ∧ (tcd T a < 256 → M.1 34 12 = nI (tcd T a)) ∧ (tcd T a = 257 → M.1 34 12 = nI (tvl T a)) ∧ (¬ tcd T a = 258 → M.1 34 10 = nI (nx T a))
def ErM (M : Mem) (e : Nat × Nat) : Prop := M.1 34 14 = nI e.1 ∧ M.1 34 13 = nI e.2
/-- what tokens may change -/
def FTn (M M' : Mem) : Prop := M'.2 = M.2 ∧ (∀ c, c ≠ 34 → M'.1 c = M.1 c) ∧ ∀ k, ¬ (10 ≤ k ∧ k ≤ 14) → M'.1 34 k = M.1 34 k
theorem FTn.rf {M : Mem} : FTn M M := ⟨rfl, fun _ _ => rfl, fun _ _ => rfl⟩
theorem FTn.tr {M M1 M2 : Mem} (h : FTn M M1) (h2 : FTn M1 M2) : FTn M M2 := ⟨h2.1.trans h.1, fun c a => (h2.2.1 c a).trans (h.2.1 c a), fun k hk => (h2.2.2 k hk).trans (h.2.2 k hk)⟩
theorem FTn.up {M M1 : Mem} (h : FTn M M1) {k : Nat} {x : Int32} (hk : 10 ≤ k ∧ k ≤ 14) : FTn M (up1 M1 34 k x) := ⟨h.1, fun c hc => by rw [up1_ne _ _ _ hc]; exact h.2.1 c hc, fun j hj => by rw [up1_at, if_neg (by omega)]; exact h.2.2 j hj⟩
theorem TbM.ft {M M' : Mem} {T : Tp} (h : TbM M T) (hF : FTn M M') : TbM M' T := ⟨by rw [hF.2.2 8 (by omega)]; exact h.1, fun j hj => by rw [hF.2.1 40 (by decide)]; exact h.2 j hj⟩
/-- what the reading may change -/
def FTp (M M' : Mem) : Prop := M'.2 = M.2 ∧ (∀ c, c ≠ 34 → c ≠ 41 → M'.1 c = M.1 c) ∧ ∀ k, ¬ (10 ≤ k ∧ k ≤ 16) → M'.1 34 k = M.1 34 k
theorem FTp.rf {M : Mem} : FTp M M := ⟨rfl, fun _ _ _ => rfl, fun _ _ => rfl⟩
theorem FTp.n {M M1 M2 : Mem} (h : FTp M M1) (h2 : FTn M1 M2) : FTp M M2 := ⟨h2.1.trans h.1, fun c a b => (h2.2.1 c a).trans (h.2.1 c a b), fun k hk => (h2.2.2 k (by omega)).trans (h.2.2 k hk)⟩
theorem FTp.tr {M M1 M2 : Mem} (h : FTp M M1) (h2 : FTp M1 M2) : FTp M M2 := ⟨h2.1.trans h.1, fun c a b => (h2.2.1 c a b).trans (h.2.1 c a b), fun k hk => (h2.2.2 k hk).trans (h.2.2 k hk)⟩
theorem FTp.u41 {M M1 : Mem} (h : FTp M M1) {k : Nat} {x : Int32} : FTp M (up1 M1 41 k x) := ⟨h.1, fun c a b => by rw [up1_ne _ _ _ b]; exact h.2.1 c a b, fun j hj => by rw [up1_ne _ _ _ (by decide)]; exact h.2.2 j hj⟩
theorem FTp.u34 {M M1 : Mem} (h : FTp M M1) {k : Nat} {x : Int32} (hk : 10 ≤ k ∧ k ≤ 16) : FTp M (up1 M1 34 k x) := ⟨h.1, fun c a b => by rw [up1_ne _ _ _ a]; exact h.2.1 c a b, fun j hj => by rw [up1_at, if_neg (by omega)]; exact h.2.2 j hj⟩
theorem TbM.u41 {M : Mem} {T : Tp} (h : TbM M T) {k : Nat} {x : Int32} : TbM (up1 M 41 k x) T := ⟨by rw [up1_ne _ _ _ (by decide)]; exact h.1, fun j hj => by rw [up1_ne _ _ _ (by decide)]; exact h.2 j hj⟩
theorem TkM.u41 {M : Mem} {T : Tp} {a : Nat} (h : TkM M T a) {k : Nat} {x : Int32} : TkM (up1 M 41 k x) T a := by
  obtain ⟨h1, h2, h3, h4, h5, h6, h7⟩ := h
  refine ⟨h1.u41, ?_, h3, ?_, ?_, ?_, ?_⟩ <;> rw [up1_ne _ _ _ (by decide)] <;> assumption
theorem TkM.u16 {M : Mem} {T : Tp} {a : Nat} (h : TkM M T a) {x : Int32} : TkM (up1 M 34 16 x) T a := by
  obtain ⟨⟨h1, h1'⟩, h2, h3, h4, h5, h6, h7⟩ := h
  refine ⟨⟨by rw [up1_at, if_neg (by decide)]; exact h1, fun j hj => by rw [up1_ne _ _ _ (by decide)]; exact h1' j hj⟩, ?_, h3, ?_, ?_, ?_, ?_⟩ <;> rw [up1_at, if_neg (by decide)] <;> assumption
theorem tkv_1 {c : Nat} (h : tkv c = 1) : c < 256 := by
  unfold tkv at h
  split at h
  · omega
  split at h
  · omega
  split at h
  · omega
  split at h
  · omega
  · omega
theorem tkv_le (c : Nat) : tkv c ≤ 3 := by
  unfold tkv
  repeat' split
  all_goals omega
theorem tkv_3 {c : Nat} : tkv c = 3 ↔ c = 256 := by
  unfold tkv
  repeat' split
  all_goals omega
theorem tkv_2 {c : Nat} : tkv c = 2 ↔ c = 257 := by
  unfold tkv
  repeat' split
  all_goals omega
theorem tkv_l {c : Nat} (h : (97 ≤ c ∧ c ≤ 122) ∨ c = 44 ∨ c = 59) : tkv c = 1 := by
  unfold tkv
  repeat' split
  all_goals omega
theorem fg_dec {T : Tp} {i : Nat} (h : i < T.1) : fg T i = decide (48 ≤ T.2 i ∧ T.2 i ≤ 57) := by
  unfold fg
  simp [h]

set_option maxRecDepth 100000 in
set_option maxHeartbeats 4000000 in
theorem m_nextToken {Ω : Om} {l : Launch} {M : Mem} {T : Tp} {a : Nat} (hb : TbM M T) (hTW : TW T) (hp : M.1 34 10 = nI a) (ha : a ≤ T.1) : Ct Ω l yX12_nextToken cX12_nextToken 1 2 none [.ref (Ω.2.2 34)] M (fun ro M' => ro = none ∧ TkM M' T a ∧ FTn M M') := by
  have h100 := hTW.1
  refine ct_of (by decide) (Nat.le_of_ble_eq_true rfl) ?_
  intro p e R s m args below meth c
  have key : ∀ (k j w : Nat) (M1 : Mem), a + j + k = T.1 → (∀ i, i < j → fg T (a + i) = true) → w ≤ 999 → (j ≤ 2 → w = vl T a j) → M1.1 34 10 = nI (a + j) → M1.1 34 13 = nI a → M1.1 34 12 = nI w → M1.1 34 11 = nI (if a = T.1 then 3 else 0) → FTn M M1 → X (mkG p l e R s m args below meth c Ω (fun ro M' => ro = none ∧ TkM M' T a ∧ FTn M M')) Ω RX12 cX12_nextToken 1 2 none 33 [some (.ref (Ω.2.2 34))] [] M1 := by
    intro k
    induction k with
    | zero =>
      intro j w M1 hk hfg hw9 hwv p10 p13 p12 p11 hF
      have hb1 := hb.ft hF
      have p8 := hb1.1
      have p40 := hb1.2
      refine x_aload_n dX12_nextToken_33 rfl ?_
      refine g_X12_88 dX12_nextToken_34 ?_
      first
        | rw [p10]
        | rw [up1_at, if_pos ⟨rfl, rfl⟩]
        | rw [up1_at, if_neg (by decide), p10]
        | rw [up1_at, if_neg (by decide), up1_at, if_pos ⟨rfl, rfl⟩]
        | rw [up1_at, if_neg (by decide), up1_at, if_neg (by decide), p10]
        | rw [up1_at, if_neg (by decide), up1_at, if_neg (by decide), up1_at, if_pos ⟨rfl, rfl⟩]
        | rw [up1_at, if_neg (by decide), up1_at, if_neg (by decide), up1_at, if_neg (by decide), p10]
      refine x_aload_n dX12_nextToken_37 rfl ?_
      refine g_X12_84 dX12_nextToken_38 ?_
      first
        | rw [p8]
        | rw [up1_at, if_pos ⟨rfl, rfl⟩]
        | rw [up1_at, if_neg (by decide), p8]
        | rw [up1_at, if_neg (by decide), up1_at, if_pos ⟨rfl, rfl⟩]
        | rw [up1_at, if_neg (by decide), up1_at, if_neg (by decide), p8]
        | rw [up1_at, if_neg (by decide), up1_at, if_neg (by decide), up1_at, if_pos ⟨rfl, rfl⟩]
        | rw [up1_at, if_neg (by decide), up1_at, if_neg (by decide), up1_at, if_neg (by decide), p8]
      refine y_icmp_ge 119 dX12_nextToken_41 (by omega) (by omega) (fun h_41 => ?_) (fun h_41 => ?_)
      · have hnf : fg T (a + j) = false := by
          first
            | (rw [fg_dec (by omega)]; rw [inB_n (by omega)] at h_63; exact h_63)
            | (unfold fg; simp; omega)
        refine x_aload_n dX12_nextToken_119 rfl ?_
        refine g_X12_88 dX12_nextToken_120 ?_
        first
          | rw [p10]
          | rw [up1_at, if_pos ⟨rfl, rfl⟩]
          | rw [up1_at, if_neg (by decide), p10]
          | rw [up1_at, if_neg (by decide), up1_at, if_pos ⟨rfl, rfl⟩]
          | rw [up1_at, if_neg (by decide), up1_at, if_neg (by decide), p10]
          | rw [up1_at, if_neg (by decide), up1_at, if_neg (by decide), up1_at, if_pos ⟨rfl, rfl⟩]
          | rw [up1_at, if_neg (by decide), up1_at, if_neg (by decide), up1_at, if_neg (by decide), p10]
        refine x_aload_n dX12_nextToken_123 rfl ?_
        refine g_X12_91 dX12_nextToken_124 ?_
        first
          | rw [p13]
          | rw [up1_at, if_pos ⟨rfl, rfl⟩]
          | rw [up1_at, if_neg (by decide), p13]
          | rw [up1_at, if_neg (by decide), up1_at, if_pos ⟨rfl, rfl⟩]
          | rw [up1_at, if_neg (by decide), up1_at, if_neg (by decide), p13]
          | rw [up1_at, if_neg (by decide), up1_at, if_neg (by decide), up1_at, if_pos ⟨rfl, rfl⟩]
          | rw [up1_at, if_neg (by decide), up1_at, if_neg (by decide), up1_at, if_neg (by decide), p13]
        refine y_icmp_le 155 dX12_nextToken_127 (by omega) (by omega) (fun h_127 => ?_) (fun h_127 => ?_)
        · refine x_aload_n dX12_nextToken_155 rfl ?_
          refine g_X12_94 dX12_nextToken_156 ?_
          first
            | rw [p11]
            | rw [up1_at, if_pos ⟨rfl, rfl⟩]
            | rw [up1_at, if_neg (by decide), p11]
            | rw [up1_at, if_neg (by decide), up1_at, if_pos ⟨rfl, rfl⟩]
            | rw [up1_at, if_neg (by decide), up1_at, if_neg (by decide), p11]
            | rw [up1_at, if_neg (by decide), up1_at, if_neg (by decide), up1_at, if_pos ⟨rfl, rfl⟩]
            | rw [up1_at, if_neg (by decide), up1_at, if_neg (by decide), up1_at, if_neg (by decide), p11]
          have hspl : (if a = T.1 then 3 else 0) < 2 ^ 31 := by split <;> omega
          refine y_if_ne 229 dX12_nextToken_159 (by omega) (fun h_159 => ?_) (fun h_159 => ?_)
          · refine x_vret dX12_nextToken_229 ?_
            first
              | (exfalso; omega)
              | (have hj : j = 0 := by omega
                 subst hj
                 have e : a = T.1 := by
                   rcases Nat.lt_or_ge a T.1 with q | q
                   · rw [if_neg (by omega)] at h_159; exact absurd rfl h_159
                   · omega
                 have ec : tcd T a = 256 := by unfold tcd; rw [if_pos (by omega)]
                 exact ⟨rfl, ⟨hb1, p13, by omega, by rw [p11, ec, if_pos e]; rfl, fun z => by rw [ec] at z; omega, fun z => by rw [ec] at z; omega, fun _ => by rw [p10]; unfold nx tln; rw [if_pos (by omega)]⟩, hF⟩)
              | (subst hj
                 try simp only [Nat.add_zero] at hnf
                 try simp only [Nat.add_zero] at h_190
                 try simp only [Nat.add_zero] at h_199
                 try simp only [Nat.add_zero] at h_208
                 have e : ¬ a = T.1 := fun q => by rw [if_pos q] at h_159; omega
                 have hf0 : fgn T a = 0 := fgn_0 (by first | exact hnf | simpa using hnf)
                 have ec : tcd T a = T.2 a := by unfold tcd; rw [if_neg (by omega), if_pos hf0]
                 have hc := hTW.2 a (by omega)
                 have ek : tkv (T.2 a) = (if (97 ≤ T.2 a ∧ T.2 a ≤ 122) ∨ T.2 a = 44 ∨ T.2 a = 59 then 1 else 0) := by
                   unfold tkv; rw [if_neg (by omega), if_neg (by omega), if_neg (by omega)]
                 refine ⟨rfl, ⟨?_, ?_, by omega, ?_, fun _ => ?_, fun z => ?_, fun _ => ?_⟩, ?_⟩
                 · exact ⟨by rw [up1_at, if_neg (by decide), up1_at, if_neg (by decide), up1_at, if_neg (by decide)]; exact p8, fun i hi => by rw [up1_ne _ _ _ (by decide), up1_ne _ _ _ (by decide), up1_ne _ _ _ (by decide)]; exact p40 i hi⟩
                 · rw [up1_at, if_neg (by decide), up1_at, if_neg (by decide), up1_at, if_neg (by decide)]; exact p13
                 · rw [up1_at, if_neg (by decide), up1_at, if_pos ⟨rfl, rfl⟩, ec, ek]
                   first
                     | (rw [inB_n (by omega)] at h_190
                        simp only [decide_eq_true_eq] at h_190
                        rw [if_pos (by omega)])
                     | (rw [if_pos (by omega)])
                     | (rw [inB_n (by omega)] at h_190
                        simp only [decide_eq_false_iff_not] at h_190
                        rw [if_neg (by omega)])
                 · rw [up1_at, if_neg (by decide), up1_at, if_neg (by decide), up1_at, if_pos ⟨rfl, rfl⟩, ec]
                   try rfl
                 · rw [ec] at z; omega
                 · rw [up1_at, if_pos ⟨rfl, rfl⟩]
                   unfold nx tln
                   rw [if_neg (by omega), if_pos hf0]
                   try rfl
                 · exact ((hF.up (by decide)).up (by decide)).up (by decide))
              | (have hle : j ≤ 2 → fgn T a = j := fun h2 => fgn_eq (by omega) hfg (Or.inr hnf)
                 have h3 : 3 ≤ j → fgn T a = 3 := fun h2 => fgn_eq (Nat.le_refl _) (fun i hi => hfg i (by omega)) (Or.inl rfl)
                 have haT : ¬ T.1 ≤ a := by have := (fg_lt (hfg 0 (by omega))).1; omega
                 have hj0 : 1 ≤ j := by omega
                 have et : tcd T a = if 3 ≤ j then 258 else 257 := by
                   unfold tcd
                   rw [if_neg haT]
                   by_cases q : 3 ≤ j
                   · rw [h3 q, if_neg (by decide), if_pos rfl, if_pos q]
                   · rw [hle (by omega), if_neg (by omega), if_neg (by omega), if_neg q]
                 refine ⟨rfl, ⟨?_, ?_, by omega, ?_, fun z => ?_, fun z => ?_, fun z => ?_⟩, hF.up (by decide)⟩
                 · exact ⟨by rw [up1_at, if_neg (by decide)]; exact p8, fun i hi => by rw [up1_ne _ _ _ (by decide)]; exact p40 i hi⟩
                 · rw [up1_at, if_neg (by decide)]; exact p13
                 · rw [up1_at, if_pos ⟨rfl, rfl⟩, et]
                   first
                     | (rw [if_pos (by omega)]; rfl)
                     | (rw [if_neg (by omega)]; rfl)
                 · rw [et] at z; split at z <;> omega
                 · rw [et] at z
                   rw [up1_at, if_neg (by decide), p12]
                   have hj2 : j ≤ 2 := by
                     rcases Nat.lt_or_ge 2 j with q | q
                     · rw [if_pos (by omega)] at z; omega
                     · exact q
                   unfold tvl
                   rw [hle hj2, hwv hj2]
                 · rw [et] at z
                   have hj2 : j ≤ 2 := by
                     rcases Nat.lt_or_ge 2 j with q | q
                     · rw [if_pos (by omega)] at z; omega
                     · exact q
                   rw [up1_at, if_neg (by decide), p10]
                   unfold nx tln
                   rw [if_neg haT, hle hj2, if_neg (by omega)])
          · refine x_aload_n dX12_nextToken_162 rfl ?_
            refine x_aload_n dX12_nextToken_163 rfl ?_
            refine g_X12_25 dX12_nextToken_164 ?_
            refine x_aload_n dX12_nextToken_167 rfl ?_
            refine g_X12_88 dX12_nextToken_168 ?_
            first
              | rw [p10]
              | rw [up1_at, if_pos ⟨rfl, rfl⟩]
              | rw [up1_at, if_neg (by decide), p10]
              | rw [up1_at, if_neg (by decide), up1_at, if_pos ⟨rfl, rfl⟩]
              | rw [up1_at, if_neg (by decide), up1_at, if_neg (by decide), p10]
              | rw [up1_at, if_neg (by decide), up1_at, if_neg (by decide), up1_at, if_pos ⟨rfl, rfl⟩]
              | rw [up1_at, if_neg (by decide), up1_at, if_neg (by decide), up1_at, if_neg (by decide), p10]
            have hj : j = 0 := by omega
            have haT : a < T.1 := by
              rcases Nat.lt_or_ge a T.1 with q | q
              · exact q
              · rw [if_pos (by omega)] at h_159; omega
            have hc := hTW.2 a haT
            have hcj : T.2 (a + j) < 256 := hTW.2 _ (by omega)
            refine x_ial dX12_nextToken_171 (⟨by decide, rfl, rfl, by decide⟩ : Ar 40 100) (by omega) ?_
            rw [p40 _ (by omega)]
            refine p_X12_97 dX12_nextToken_172 ?_
            refine x_aload_n dX12_nextToken_175 rfl ?_
            refine x_aload_n dX12_nextToken_176 rfl ?_
            refine g_X12_97 dX12_nextToken_177 ?_
            first
              | rw [p12]
              | rw [up1_at, if_pos ⟨rfl, rfl⟩]
              | rw [up1_at, if_neg (by decide), p12]
              | rw [up1_at, if_neg (by decide), up1_at, if_pos ⟨rfl, rfl⟩]
              | rw [up1_at, if_neg (by decide), up1_at, if_neg (by decide), p12]
              | rw [up1_at, if_neg (by decide), up1_at, if_neg (by decide), up1_at, if_pos ⟨rfl, rfl⟩]
              | rw [up1_at, if_neg (by decide), up1_at, if_neg (by decide), up1_at, if_neg (by decide), p12]
            refine x_i2l dX12_nextToken_180 ?_
            refine x_ldc2 (v := lN 97) dX12_nextToken_181 k_X12_104 ?_
            refine x_ldc2 (v := lN 122) dX12_nextToken_184 k_X12_106 ?_
            refine q_X12_60 (m_inB (by decide) (by decide)) dX12_nextToken_187 rfl ?_
            rintro _ _ ⟨rfl, rfl⟩
            refine z_if_ne 211 dX12_nextToken_190 (fun h_190 => ?_) (fun h_190 => ?_)
            · refine y_iconst (a := 1) dX12_nextToken_211 rfl ?_
              refine x_goto 216 dX12_nextToken_212 ?_
              refine p_X12_94 dX12_nextToken_216 ?_
              refine x_aload_n dX12_nextToken_219 rfl ?_
              refine x_dup dX12_nextToken_220 rfl ?_
              refine g_X12_88 dX12_nextToken_221 ?_
              first
                | rw [p10]
                | rw [up1_at, if_pos ⟨rfl, rfl⟩]
                | rw [up1_at, if_neg (by decide), p10]
                | rw [up1_at, if_neg (by decide), up1_at, if_pos ⟨rfl, rfl⟩]
                | rw [up1_at, if_neg (by decide), up1_at, if_neg (by decide), p10]
                | rw [up1_at, if_neg (by decide), up1_at, if_neg (by decide), up1_at, if_pos ⟨rfl, rfl⟩]
                | rw [up1_at, if_neg (by decide), up1_at, if_neg (by decide), up1_at, if_neg (by decide), p10]
              refine y_iconst (a := 1) dX12_nextToken_224 rfl ?_
              refine y_iadd dX12_nextToken_225 ?_
              refine p_X12_88 dX12_nextToken_226 ?_
              refine x_vret dX12_nextToken_229 ?_
              first
                | (exfalso; omega)
                | (have hj : j = 0 := by omega
                   subst hj
                   have e : a = T.1 := by
                     rcases Nat.lt_or_ge a T.1 with q | q
                     · rw [if_neg (by omega)] at h_159; exact absurd rfl h_159
                     · omega
                   have ec : tcd T a = 256 := by unfold tcd; rw [if_pos (by omega)]
                   exact ⟨rfl, ⟨hb1, p13, by omega, by rw [p11, ec, if_pos e]; rfl, fun z => by rw [ec] at z; omega, fun z => by rw [ec] at z; omega, fun _ => by rw [p10]; unfold nx tln; rw [if_pos (by omega)]⟩, hF⟩)
                | (subst hj
                   try simp only [Nat.add_zero] at hnf
                   try simp only [Nat.add_zero] at h_190
                   try simp only [Nat.add_zero] at h_199
                   try simp only [Nat.add_zero] at h_208
                   have e : ¬ a = T.1 := fun q => by rw [if_pos q] at h_159; omega
                   have hf0 : fgn T a = 0 := fgn_0 (by first | exact hnf | simpa using hnf)
                   have ec : tcd T a = T.2 a := by unfold tcd; rw [if_neg (by omega), if_pos hf0]
                   have hc := hTW.2 a (by omega)
                   have ek : tkv (T.2 a) = (if (97 ≤ T.2 a ∧ T.2 a ≤ 122) ∨ T.2 a = 44 ∨ T.2 a = 59 then 1 else 0) := by
                     unfold tkv; rw [if_neg (by omega), if_neg (by omega), if_neg (by omega)]
                   refine ⟨rfl, ⟨?_, ?_, by omega, ?_, fun _ => ?_, fun z => ?_, fun _ => ?_⟩, ?_⟩
                   · exact ⟨by rw [up1_at, if_neg (by decide), up1_at, if_neg (by decide), up1_at, if_neg (by decide)]; exact p8, fun i hi => by rw [up1_ne _ _ _ (by decide), up1_ne _ _ _ (by decide), up1_ne _ _ _ (by decide)]; exact p40 i hi⟩
                   · rw [up1_at, if_neg (by decide), up1_at, if_neg (by decide), up1_at, if_neg (by decide)]; exact p13
                   · rw [up1_at, if_neg (by decide), up1_at, if_pos ⟨rfl, rfl⟩, ec, ek]
                     first
                       | (rw [inB_n (by omega)] at h_190
                          simp only [decide_eq_true_eq] at h_190
                          rw [if_pos (by omega)])
                       | (rw [if_pos (by omega)])
                       | (rw [inB_n (by omega)] at h_190
                          simp only [decide_eq_false_iff_not] at h_190
                          rw [if_neg (by omega)])
                   · rw [up1_at, if_neg (by decide), up1_at, if_neg (by decide), up1_at, if_pos ⟨rfl, rfl⟩, ec]
                     try rfl
                   · rw [ec] at z; omega
                   · rw [up1_at, if_pos ⟨rfl, rfl⟩]
                     unfold nx tln
                     rw [if_neg (by omega), if_pos hf0]
                     try rfl
                   · exact ((hF.up (by decide)).up (by decide)).up (by decide))
                | (have hle : j ≤ 2 → fgn T a = j := fun h2 => fgn_eq (by omega) hfg (Or.inr hnf)
                   have h3 : 3 ≤ j → fgn T a = 3 := fun h2 => fgn_eq (Nat.le_refl _) (fun i hi => hfg i (by omega)) (Or.inl rfl)
                   have haT : ¬ T.1 ≤ a := by have := (fg_lt (hfg 0 (by omega))).1; omega
                   have hj0 : 1 ≤ j := by omega
                   have et : tcd T a = if 3 ≤ j then 258 else 257 := by
                     unfold tcd
                     rw [if_neg haT]
                     by_cases q : 3 ≤ j
                     · rw [h3 q, if_neg (by decide), if_pos rfl, if_pos q]
                     · rw [hle (by omega), if_neg (by omega), if_neg (by omega), if_neg q]
                   refine ⟨rfl, ⟨?_, ?_, by omega, ?_, fun z => ?_, fun z => ?_, fun z => ?_⟩, hF.up (by decide)⟩
                   · exact ⟨by rw [up1_at, if_neg (by decide)]; exact p8, fun i hi => by rw [up1_ne _ _ _ (by decide)]; exact p40 i hi⟩
                   · rw [up1_at, if_neg (by decide)]; exact p13
                   · rw [up1_at, if_pos ⟨rfl, rfl⟩, et]
                     first
                       | (rw [if_pos (by omega)]; rfl)
                       | (rw [if_neg (by omega)]; rfl)
                   · rw [et] at z; split at z <;> omega
                   · rw [et] at z
                     rw [up1_at, if_neg (by decide), p12]
                     have hj2 : j ≤ 2 := by
                       rcases Nat.lt_or_ge 2 j with q | q
                       · rw [if_pos (by omega)] at z; omega
                       · exact q
                     unfold tvl
                     rw [hle hj2, hwv hj2]
                   · rw [et] at z
                     have hj2 : j ≤ 2 := by
                       rcases Nat.lt_or_ge 2 j with q | q
                       · rw [if_pos (by omega)] at z; omega
                       · exact q
                     rw [up1_at, if_neg (by decide), p10]
                     unfold nx tln
                     rw [if_neg haT, hle hj2, if_neg (by omega)])
            · refine x_aload_n dX12_nextToken_193 rfl ?_
              refine g_X12_97 dX12_nextToken_194 ?_
              first
                | rw [p12]
                | rw [up1_at, if_pos ⟨rfl, rfl⟩]
                | rw [up1_at, if_neg (by decide), p12]
                | rw [up1_at, if_neg (by decide), up1_at, if_pos ⟨rfl, rfl⟩]
                | rw [up1_at, if_neg (by decide), up1_at, if_neg (by decide), p12]
                | rw [up1_at, if_neg (by decide), up1_at, if_neg (by decide), up1_at, if_pos ⟨rfl, rfl⟩]
                | rw [up1_at, if_neg (by decide), up1_at, if_neg (by decide), up1_at, if_neg (by decide), p12]
              refine x_bipush (v := nI 44) dX12_nextToken_197 rfl ?_
              refine y_icmp_eq 211 dX12_nextToken_199 (by omega) (by omega) (fun h_199 => ?_) (fun h_199 => ?_)
              · refine y_iconst (a := 1) dX12_nextToken_211 rfl ?_
                refine x_goto 216 dX12_nextToken_212 ?_
                refine p_X12_94 dX12_nextToken_216 ?_
                refine x_aload_n dX12_nextToken_219 rfl ?_
                refine x_dup dX12_nextToken_220 rfl ?_
                refine g_X12_88 dX12_nextToken_221 ?_
                first
                  | rw [p10]
                  | rw [up1_at, if_pos ⟨rfl, rfl⟩]
                  | rw [up1_at, if_neg (by decide), p10]
                  | rw [up1_at, if_neg (by decide), up1_at, if_pos ⟨rfl, rfl⟩]
                  | rw [up1_at, if_neg (by decide), up1_at, if_neg (by decide), p10]
                  | rw [up1_at, if_neg (by decide), up1_at, if_neg (by decide), up1_at, if_pos ⟨rfl, rfl⟩]
                  | rw [up1_at, if_neg (by decide), up1_at, if_neg (by decide), up1_at, if_neg (by decide), p10]
                refine y_iconst (a := 1) dX12_nextToken_224 rfl ?_
                refine y_iadd dX12_nextToken_225 ?_
                refine p_X12_88 dX12_nextToken_226 ?_
                refine x_vret dX12_nextToken_229 ?_
                first
                  | (exfalso; omega)
                  | (have hj : j = 0 := by omega
                     subst hj
                     have e : a = T.1 := by
                       rcases Nat.lt_or_ge a T.1 with q | q
                       · rw [if_neg (by omega)] at h_159; exact absurd rfl h_159
                       · omega
                     have ec : tcd T a = 256 := by unfold tcd; rw [if_pos (by omega)]
                     exact ⟨rfl, ⟨hb1, p13, by omega, by rw [p11, ec, if_pos e]; rfl, fun z => by rw [ec] at z; omega, fun z => by rw [ec] at z; omega, fun _ => by rw [p10]; unfold nx tln; rw [if_pos (by omega)]⟩, hF⟩)
                  | (subst hj
                     try simp only [Nat.add_zero] at hnf
                     try simp only [Nat.add_zero] at h_190
                     try simp only [Nat.add_zero] at h_199
                     try simp only [Nat.add_zero] at h_208
                     have e : ¬ a = T.1 := fun q => by rw [if_pos q] at h_159; omega
                     have hf0 : fgn T a = 0 := fgn_0 (by first | exact hnf | simpa using hnf)
                     have ec : tcd T a = T.2 a := by unfold tcd; rw [if_neg (by omega), if_pos hf0]
                     have hc := hTW.2 a (by omega)
                     have ek : tkv (T.2 a) = (if (97 ≤ T.2 a ∧ T.2 a ≤ 122) ∨ T.2 a = 44 ∨ T.2 a = 59 then 1 else 0) := by
                       unfold tkv; rw [if_neg (by omega), if_neg (by omega), if_neg (by omega)]
                     refine ⟨rfl, ⟨?_, ?_, by omega, ?_, fun _ => ?_, fun z => ?_, fun _ => ?_⟩, ?_⟩
                     · exact ⟨by rw [up1_at, if_neg (by decide), up1_at, if_neg (by decide), up1_at, if_neg (by decide)]; exact p8, fun i hi => by rw [up1_ne _ _ _ (by decide), up1_ne _ _ _ (by decide), up1_ne _ _ _ (by decide)]; exact p40 i hi⟩
                     · rw [up1_at, if_neg (by decide), up1_at, if_neg (by decide), up1_at, if_neg (by decide)]; exact p13
                     · rw [up1_at, if_neg (by decide), up1_at, if_pos ⟨rfl, rfl⟩, ec, ek]
                       first
                         | (rw [inB_n (by omega)] at h_190
                            simp only [decide_eq_true_eq] at h_190
                            rw [if_pos (by omega)])
                         | (rw [if_pos (by omega)])
                         | (rw [inB_n (by omega)] at h_190
                            simp only [decide_eq_false_iff_not] at h_190
                            rw [if_neg (by omega)])
                     · rw [up1_at, if_neg (by decide), up1_at, if_neg (by decide), up1_at, if_pos ⟨rfl, rfl⟩, ec]
                       try rfl
                     · rw [ec] at z; omega
                     · rw [up1_at, if_pos ⟨rfl, rfl⟩]
                       unfold nx tln
                       rw [if_neg (by omega), if_pos hf0]
                       try rfl
                     · exact ((hF.up (by decide)).up (by decide)).up (by decide))
                  | (have hle : j ≤ 2 → fgn T a = j := fun h2 => fgn_eq (by omega) hfg (Or.inr hnf)
                     have h3 : 3 ≤ j → fgn T a = 3 := fun h2 => fgn_eq (Nat.le_refl _) (fun i hi => hfg i (by omega)) (Or.inl rfl)
                     have haT : ¬ T.1 ≤ a := by have := (fg_lt (hfg 0 (by omega))).1; omega
                     have hj0 : 1 ≤ j := by omega
                     have et : tcd T a = if 3 ≤ j then 258 else 257 := by
                       unfold tcd
                       rw [if_neg haT]
                       by_cases q : 3 ≤ j
                       · rw [h3 q, if_neg (by decide), if_pos rfl, if_pos q]
                       · rw [hle (by omega), if_neg (by omega), if_neg (by omega), if_neg q]
                     refine ⟨rfl, ⟨?_, ?_, by omega, ?_, fun z => ?_, fun z => ?_, fun z => ?_⟩, hF.up (by decide)⟩
                     · exact ⟨by rw [up1_at, if_neg (by decide)]; exact p8, fun i hi => by rw [up1_ne _ _ _ (by decide)]; exact p40 i hi⟩
                     · rw [up1_at, if_neg (by decide)]; exact p13
                     · rw [up1_at, if_pos ⟨rfl, rfl⟩, et]
                       first
                         | (rw [if_pos (by omega)]; rfl)
                         | (rw [if_neg (by omega)]; rfl)
                     · rw [et] at z; split at z <;> omega
                     · rw [et] at z
                       rw [up1_at, if_neg (by decide), p12]
                       have hj2 : j ≤ 2 := by
                         rcases Nat.lt_or_ge 2 j with q | q
                         · rw [if_pos (by omega)] at z; omega
                         · exact q
                       unfold tvl
                       rw [hle hj2, hwv hj2]
                     · rw [et] at z
                       have hj2 : j ≤ 2 := by
                         rcases Nat.lt_or_ge 2 j with q | q
                         · rw [if_pos (by omega)] at z; omega
                         · exact q
                       rw [up1_at, if_neg (by decide), p10]
                       unfold nx tln
                       rw [if_neg haT, hle hj2, if_neg (by omega)])
              · refine x_aload_n dX12_nextToken_202 rfl ?_
                refine g_X12_97 dX12_nextToken_203 ?_
                first
                  | rw [p12]
                  | rw [up1_at, if_pos ⟨rfl, rfl⟩]
                  | rw [up1_at, if_neg (by decide), p12]
                  | rw [up1_at, if_neg (by decide), up1_at, if_pos ⟨rfl, rfl⟩]
                  | rw [up1_at, if_neg (by decide), up1_at, if_neg (by decide), p12]
                  | rw [up1_at, if_neg (by decide), up1_at, if_neg (by decide), up1_at, if_pos ⟨rfl, rfl⟩]
                  | rw [up1_at, if_neg (by decide), up1_at, if_neg (by decide), up1_at, if_neg (by decide), p12]
                refine x_bipush (v := nI 59) dX12_nextToken_206 rfl ?_
                refine y_icmp_ne 215 dX12_nextToken_208 (by omega) (by omega) (fun h_208 => ?_) (fun h_208 => ?_)
                · refine y_iconst (a := 0) dX12_nextToken_215 rfl ?_
                  refine p_X12_94 dX12_nextToken_216 ?_
                  refine x_aload_n dX12_nextToken_219 rfl ?_
                  refine x_dup dX12_nextToken_220 rfl ?_
                  refine g_X12_88 dX12_nextToken_221 ?_
                  first
                    | rw [p10]
                    | rw [up1_at, if_pos ⟨rfl, rfl⟩]
                    | rw [up1_at, if_neg (by decide), p10]
                    | rw [up1_at, if_neg (by decide), up1_at, if_pos ⟨rfl, rfl⟩]
                    | rw [up1_at, if_neg (by decide), up1_at, if_neg (by decide), p10]
                    | rw [up1_at, if_neg (by decide), up1_at, if_neg (by decide), up1_at, if_pos ⟨rfl, rfl⟩]
                    | rw [up1_at, if_neg (by decide), up1_at, if_neg (by decide), up1_at, if_neg (by decide), p10]
                  refine y_iconst (a := 1) dX12_nextToken_224 rfl ?_
                  refine y_iadd dX12_nextToken_225 ?_
                  refine p_X12_88 dX12_nextToken_226 ?_
                  refine x_vret dX12_nextToken_229 ?_
                  first
                    | (exfalso; omega)
                    | (have hj : j = 0 := by omega
                       subst hj
                       have e : a = T.1 := by
                         rcases Nat.lt_or_ge a T.1 with q | q
                         · rw [if_neg (by omega)] at h_159; exact absurd rfl h_159
                         · omega
                       have ec : tcd T a = 256 := by unfold tcd; rw [if_pos (by omega)]
                       exact ⟨rfl, ⟨hb1, p13, by omega, by rw [p11, ec, if_pos e]; rfl, fun z => by rw [ec] at z; omega, fun z => by rw [ec] at z; omega, fun _ => by rw [p10]; unfold nx tln; rw [if_pos (by omega)]⟩, hF⟩)
                    | (subst hj
                       try simp only [Nat.add_zero] at hnf
                       try simp only [Nat.add_zero] at h_190
                       try simp only [Nat.add_zero] at h_199
                       try simp only [Nat.add_zero] at h_208
                       have e : ¬ a = T.1 := fun q => by rw [if_pos q] at h_159; omega
                       have hf0 : fgn T a = 0 := fgn_0 (by first | exact hnf | simpa using hnf)
                       have ec : tcd T a = T.2 a := by unfold tcd; rw [if_neg (by omega), if_pos hf0]
                       have hc := hTW.2 a (by omega)
                       have ek : tkv (T.2 a) = (if (97 ≤ T.2 a ∧ T.2 a ≤ 122) ∨ T.2 a = 44 ∨ T.2 a = 59 then 1 else 0) := by
                         unfold tkv; rw [if_neg (by omega), if_neg (by omega), if_neg (by omega)]
                       refine ⟨rfl, ⟨?_, ?_, by omega, ?_, fun _ => ?_, fun z => ?_, fun _ => ?_⟩, ?_⟩
                       · exact ⟨by rw [up1_at, if_neg (by decide), up1_at, if_neg (by decide), up1_at, if_neg (by decide)]; exact p8, fun i hi => by rw [up1_ne _ _ _ (by decide), up1_ne _ _ _ (by decide), up1_ne _ _ _ (by decide)]; exact p40 i hi⟩
                       · rw [up1_at, if_neg (by decide), up1_at, if_neg (by decide), up1_at, if_neg (by decide)]; exact p13
                       · rw [up1_at, if_neg (by decide), up1_at, if_pos ⟨rfl, rfl⟩, ec, ek]
                         first
                           | (rw [inB_n (by omega)] at h_190
                              simp only [decide_eq_true_eq] at h_190
                              rw [if_pos (by omega)])
                           | (rw [if_pos (by omega)])
                           | (rw [inB_n (by omega)] at h_190
                              simp only [decide_eq_false_iff_not] at h_190
                              rw [if_neg (by omega)])
                       · rw [up1_at, if_neg (by decide), up1_at, if_neg (by decide), up1_at, if_pos ⟨rfl, rfl⟩, ec]
                         try rfl
                       · rw [ec] at z; omega
                       · rw [up1_at, if_pos ⟨rfl, rfl⟩]
                         unfold nx tln
                         rw [if_neg (by omega), if_pos hf0]
                         try rfl
                       · exact ((hF.up (by decide)).up (by decide)).up (by decide))
                    | (have hle : j ≤ 2 → fgn T a = j := fun h2 => fgn_eq (by omega) hfg (Or.inr hnf)
                       have h3 : 3 ≤ j → fgn T a = 3 := fun h2 => fgn_eq (Nat.le_refl _) (fun i hi => hfg i (by omega)) (Or.inl rfl)
                       have haT : ¬ T.1 ≤ a := by have := (fg_lt (hfg 0 (by omega))).1; omega
                       have hj0 : 1 ≤ j := by omega
                       have et : tcd T a = if 3 ≤ j then 258 else 257 := by
                         unfold tcd
                         rw [if_neg haT]
                         by_cases q : 3 ≤ j
                         · rw [h3 q, if_neg (by decide), if_pos rfl, if_pos q]
                         · rw [hle (by omega), if_neg (by omega), if_neg (by omega), if_neg q]
                       refine ⟨rfl, ⟨?_, ?_, by omega, ?_, fun z => ?_, fun z => ?_, fun z => ?_⟩, hF.up (by decide)⟩
                       · exact ⟨by rw [up1_at, if_neg (by decide)]; exact p8, fun i hi => by rw [up1_ne _ _ _ (by decide)]; exact p40 i hi⟩
                       · rw [up1_at, if_neg (by decide)]; exact p13
                       · rw [up1_at, if_pos ⟨rfl, rfl⟩, et]
                         first
                           | (rw [if_pos (by omega)]; rfl)
                           | (rw [if_neg (by omega)]; rfl)
                       · rw [et] at z; split at z <;> omega
                       · rw [et] at z
                         rw [up1_at, if_neg (by decide), p12]
                         have hj2 : j ≤ 2 := by
                           rcases Nat.lt_or_ge 2 j with q | q
                           · rw [if_pos (by omega)] at z; omega
                           · exact q
                         unfold tvl
                         rw [hle hj2, hwv hj2]
                       · rw [et] at z
                         have hj2 : j ≤ 2 := by
                           rcases Nat.lt_or_ge 2 j with q | q
                           · rw [if_pos (by omega)] at z; omega
                           · exact q
                         rw [up1_at, if_neg (by decide), p10]
                         unfold nx tln
                         rw [if_neg haT, hle hj2, if_neg (by omega)])
                · refine y_iconst (a := 1) dX12_nextToken_211 rfl ?_
                  refine x_goto 216 dX12_nextToken_212 ?_
                  refine p_X12_94 dX12_nextToken_216 ?_
                  refine x_aload_n dX12_nextToken_219 rfl ?_
                  refine x_dup dX12_nextToken_220 rfl ?_
                  refine g_X12_88 dX12_nextToken_221 ?_
                  first
                    | rw [p10]
                    | rw [up1_at, if_pos ⟨rfl, rfl⟩]
                    | rw [up1_at, if_neg (by decide), p10]
                    | rw [up1_at, if_neg (by decide), up1_at, if_pos ⟨rfl, rfl⟩]
                    | rw [up1_at, if_neg (by decide), up1_at, if_neg (by decide), p10]
                    | rw [up1_at, if_neg (by decide), up1_at, if_neg (by decide), up1_at, if_pos ⟨rfl, rfl⟩]
                    | rw [up1_at, if_neg (by decide), up1_at, if_neg (by decide), up1_at, if_neg (by decide), p10]
                  refine y_iconst (a := 1) dX12_nextToken_224 rfl ?_
                  refine y_iadd dX12_nextToken_225 ?_
                  refine p_X12_88 dX12_nextToken_226 ?_
                  refine x_vret dX12_nextToken_229 ?_
                  first
                    | (exfalso; omega)
                    | (have hj : j = 0 := by omega
                       subst hj
                       have e : a = T.1 := by
                         rcases Nat.lt_or_ge a T.1 with q | q
                         · rw [if_neg (by omega)] at h_159; exact absurd rfl h_159
                         · omega
                       have ec : tcd T a = 256 := by unfold tcd; rw [if_pos (by omega)]
                       exact ⟨rfl, ⟨hb1, p13, by omega, by rw [p11, ec, if_pos e]; rfl, fun z => by rw [ec] at z; omega, fun z => by rw [ec] at z; omega, fun _ => by rw [p10]; unfold nx tln; rw [if_pos (by omega)]⟩, hF⟩)
                    | (subst hj
                       try simp only [Nat.add_zero] at hnf
                       try simp only [Nat.add_zero] at h_190
                       try simp only [Nat.add_zero] at h_199
                       try simp only [Nat.add_zero] at h_208
                       have e : ¬ a = T.1 := fun q => by rw [if_pos q] at h_159; omega
                       have hf0 : fgn T a = 0 := fgn_0 (by first | exact hnf | simpa using hnf)
                       have ec : tcd T a = T.2 a := by unfold tcd; rw [if_neg (by omega), if_pos hf0]
                       have hc := hTW.2 a (by omega)
                       have ek : tkv (T.2 a) = (if (97 ≤ T.2 a ∧ T.2 a ≤ 122) ∨ T.2 a = 44 ∨ T.2 a = 59 then 1 else 0) := by
                         unfold tkv; rw [if_neg (by omega), if_neg (by omega), if_neg (by omega)]
                       refine ⟨rfl, ⟨?_, ?_, by omega, ?_, fun _ => ?_, fun z => ?_, fun _ => ?_⟩, ?_⟩
                       · exact ⟨by rw [up1_at, if_neg (by decide), up1_at, if_neg (by decide), up1_at, if_neg (by decide)]; exact p8, fun i hi => by rw [up1_ne _ _ _ (by decide), up1_ne _ _ _ (by decide), up1_ne _ _ _ (by decide)]; exact p40 i hi⟩
                       · rw [up1_at, if_neg (by decide), up1_at, if_neg (by decide), up1_at, if_neg (by decide)]; exact p13
                       · rw [up1_at, if_neg (by decide), up1_at, if_pos ⟨rfl, rfl⟩, ec, ek]
                         first
                           | (rw [inB_n (by omega)] at h_190
                              simp only [decide_eq_true_eq] at h_190
                              rw [if_pos (by omega)])
                           | (rw [if_pos (by omega)])
                           | (rw [inB_n (by omega)] at h_190
                              simp only [decide_eq_false_iff_not] at h_190
                              rw [if_neg (by omega)])
                       · rw [up1_at, if_neg (by decide), up1_at, if_neg (by decide), up1_at, if_pos ⟨rfl, rfl⟩, ec]
                         try rfl
                       · rw [ec] at z; omega
                       · rw [up1_at, if_pos ⟨rfl, rfl⟩]
                         unfold nx tln
                         rw [if_neg (by omega), if_pos hf0]
                         try rfl
                       · exact ((hF.up (by decide)).up (by decide)).up (by decide))
                    | (have hle : j ≤ 2 → fgn T a = j := fun h2 => fgn_eq (by omega) hfg (Or.inr hnf)
                       have h3 : 3 ≤ j → fgn T a = 3 := fun h2 => fgn_eq (Nat.le_refl _) (fun i hi => hfg i (by omega)) (Or.inl rfl)
                       have haT : ¬ T.1 ≤ a := by have := (fg_lt (hfg 0 (by omega))).1; omega
                       have hj0 : 1 ≤ j := by omega
                       have et : tcd T a = if 3 ≤ j then 258 else 257 := by
                         unfold tcd
                         rw [if_neg haT]
                         by_cases q : 3 ≤ j
                         · rw [h3 q, if_neg (by decide), if_pos rfl, if_pos q]
                         · rw [hle (by omega), if_neg (by omega), if_neg (by omega), if_neg q]
                       refine ⟨rfl, ⟨?_, ?_, by omega, ?_, fun z => ?_, fun z => ?_, fun z => ?_⟩, hF.up (by decide)⟩
                       · exact ⟨by rw [up1_at, if_neg (by decide)]; exact p8, fun i hi => by rw [up1_ne _ _ _ (by decide)]; exact p40 i hi⟩
                       · rw [up1_at, if_neg (by decide)]; exact p13
                       · rw [up1_at, if_pos ⟨rfl, rfl⟩, et]
                         first
                           | (rw [if_pos (by omega)]; rfl)
                           | (rw [if_neg (by omega)]; rfl)
                       · rw [et] at z; split at z <;> omega
                       · rw [et] at z
                         rw [up1_at, if_neg (by decide), p12]
                         have hj2 : j ≤ 2 := by
                           rcases Nat.lt_or_ge 2 j with q | q
                           · rw [if_pos (by omega)] at z; omega
                           · exact q
                         unfold tvl
                         rw [hle hj2, hwv hj2]
                       · rw [et] at z
                         have hj2 : j ≤ 2 := by
                           rcases Nat.lt_or_ge 2 j with q | q
                           · rw [if_pos (by omega)] at z; omega
                           · exact q
                         rw [up1_at, if_neg (by decide), p10]
                         unfold nx tln
                         rw [if_neg haT, hle hj2, if_neg (by omega)])
        · refine x_aload_n dX12_nextToken_130 rfl ?_
          refine x_aload_n dX12_nextToken_131 rfl ?_
          refine g_X12_88 dX12_nextToken_132 ?_
          first
            | rw [p10]
            | rw [up1_at, if_pos ⟨rfl, rfl⟩]
            | rw [up1_at, if_neg (by decide), p10]
            | rw [up1_at, if_neg (by decide), up1_at, if_pos ⟨rfl, rfl⟩]
            | rw [up1_at, if_neg (by decide), up1_at, if_neg (by decide), p10]
            | rw [up1_at, if_neg (by decide), up1_at, if_neg (by decide), up1_at, if_pos ⟨rfl, rfl⟩]
            | rw [up1_at, if_neg (by decide), up1_at, if_neg (by decide), up1_at, if_neg (by decide), p10]
          refine x_aload_n dX12_nextToken_135 rfl ?_
          refine g_X12_91 dX12_nextToken_136 ?_
          first
            | rw [p13]
            | rw [up1_at, if_pos ⟨rfl, rfl⟩]
            | rw [up1_at, if_neg (by decide), p13]
            | rw [up1_at, if_neg (by decide), up1_at, if_pos ⟨rfl, rfl⟩]
            | rw [up1_at, if_neg (by decide), up1_at, if_neg (by decide), p13]
            | rw [up1_at, if_neg (by decide), up1_at, if_neg (by decide), up1_at, if_pos ⟨rfl, rfl⟩]
            | rw [up1_at, if_neg (by decide), up1_at, if_neg (by decide), up1_at, if_neg (by decide), p13]
          refine y_isub dX12_nextToken_139 (by omega) ?_
          refine y_iconst (a := 2) dX12_nextToken_140 rfl ?_
          refine y_icmp_le 148 dX12_nextToken_141 (by omega) (by omega) (fun h_141 => ?_) (fun h_141 => ?_)
          · refine y_iconst (a := 2) dX12_nextToken_148 rfl ?_
            refine p_X12_94 dX12_nextToken_149 ?_
            refine x_goto 229 dX12_nextToken_152 ?_
            refine x_vret dX12_nextToken_229 ?_
            first
              | (exfalso; omega)
              | (have hj : j = 0 := by omega
                 subst hj
                 have e : a = T.1 := by
                   rcases Nat.lt_or_ge a T.1 with q | q
                   · rw [if_neg (by omega)] at h_159; exact absurd rfl h_159
                   · omega
                 have ec : tcd T a = 256 := by unfold tcd; rw [if_pos (by omega)]
                 exact ⟨rfl, ⟨hb1, p13, by omega, by rw [p11, ec, if_pos e]; rfl, fun z => by rw [ec] at z; omega, fun z => by rw [ec] at z; omega, fun _ => by rw [p10]; unfold nx tln; rw [if_pos (by omega)]⟩, hF⟩)
              | (subst hj
                 try simp only [Nat.add_zero] at hnf
                 try simp only [Nat.add_zero] at h_190
                 try simp only [Nat.add_zero] at h_199
                 try simp only [Nat.add_zero] at h_208
                 have e : ¬ a = T.1 := fun q => by rw [if_pos q] at h_159; omega
                 have hf0 : fgn T a = 0 := fgn_0 (by first | exact hnf | simpa using hnf)
                 have ec : tcd T a = T.2 a := by unfold tcd; rw [if_neg (by omega), if_pos hf0]
                 have hc := hTW.2 a (by omega)
                 have ek : tkv (T.2 a) = (if (97 ≤ T.2 a ∧ T.2 a ≤ 122) ∨ T.2 a = 44 ∨ T.2 a = 59 then 1 else 0) := by
                   unfold tkv; rw [if_neg (by omega), if_neg (by omega), if_neg (by omega)]
                 refine ⟨rfl, ⟨?_, ?_, by omega, ?_, fun _ => ?_, fun z => ?_, fun _ => ?_⟩, ?_⟩
                 · exact ⟨by rw [up1_at, if_neg (by decide), up1_at, if_neg (by decide), up1_at, if_neg (by decide)]; exact p8, fun i hi => by rw [up1_ne _ _ _ (by decide), up1_ne _ _ _ (by decide), up1_ne _ _ _ (by decide)]; exact p40 i hi⟩
                 · rw [up1_at, if_neg (by decide), up1_at, if_neg (by decide), up1_at, if_neg (by decide)]; exact p13
                 · rw [up1_at, if_neg (by decide), up1_at, if_pos ⟨rfl, rfl⟩, ec, ek]
                   first
                     | (rw [inB_n (by omega)] at h_190
                        simp only [decide_eq_true_eq] at h_190
                        rw [if_pos (by omega)])
                     | (rw [if_pos (by omega)])
                     | (rw [inB_n (by omega)] at h_190
                        simp only [decide_eq_false_iff_not] at h_190
                        rw [if_neg (by omega)])
                 · rw [up1_at, if_neg (by decide), up1_at, if_neg (by decide), up1_at, if_pos ⟨rfl, rfl⟩, ec]
                   try rfl
                 · rw [ec] at z; omega
                 · rw [up1_at, if_pos ⟨rfl, rfl⟩]
                   unfold nx tln
                   rw [if_neg (by omega), if_pos hf0]
                   try rfl
                 · exact ((hF.up (by decide)).up (by decide)).up (by decide))
              | (have hle : j ≤ 2 → fgn T a = j := fun h2 => fgn_eq (by omega) hfg (Or.inr hnf)
                 have h3 : 3 ≤ j → fgn T a = 3 := fun h2 => fgn_eq (Nat.le_refl _) (fun i hi => hfg i (by omega)) (Or.inl rfl)
                 have haT : ¬ T.1 ≤ a := by have := (fg_lt (hfg 0 (by omega))).1; omega
                 have hj0 : 1 ≤ j := by omega
                 have et : tcd T a = if 3 ≤ j then 258 else 257 := by
                   unfold tcd
                   rw [if_neg haT]
                   by_cases q : 3 ≤ j
                   · rw [h3 q, if_neg (by decide), if_pos rfl, if_pos q]
                   · rw [hle (by omega), if_neg (by omega), if_neg (by omega), if_neg q]
                 refine ⟨rfl, ⟨?_, ?_, by omega, ?_, fun z => ?_, fun z => ?_, fun z => ?_⟩, hF.up (by decide)⟩
                 · exact ⟨by rw [up1_at, if_neg (by decide)]; exact p8, fun i hi => by rw [up1_ne _ _ _ (by decide)]; exact p40 i hi⟩
                 · rw [up1_at, if_neg (by decide)]; exact p13
                 · rw [up1_at, if_pos ⟨rfl, rfl⟩, et]
                   first
                     | (rw [if_pos (by omega)]; rfl)
                     | (rw [if_neg (by omega)]; rfl)
                 · rw [et] at z; split at z <;> omega
                 · rw [et] at z
                   rw [up1_at, if_neg (by decide), p12]
                   have hj2 : j ≤ 2 := by
                     rcases Nat.lt_or_ge 2 j with q | q
                     · rw [if_pos (by omega)] at z; omega
                     · exact q
                   unfold tvl
                   rw [hle hj2, hwv hj2]
                 · rw [et] at z
                   have hj2 : j ≤ 2 := by
                     rcases Nat.lt_or_ge 2 j with q | q
                     · rw [if_pos (by omega)] at z; omega
                     · exact q
                   rw [up1_at, if_neg (by decide), p10]
                   unfold nx tln
                   rw [if_neg haT, hle hj2, if_neg (by omega)])
          · refine y_iconst (a := 0) dX12_nextToken_144 rfl ?_
            refine x_goto 149 dX12_nextToken_145 ?_
            refine p_X12_94 dX12_nextToken_149 ?_
            refine x_goto 229 dX12_nextToken_152 ?_
            refine x_vret dX12_nextToken_229 ?_
            first
              | (exfalso; omega)
              | (have hj : j = 0 := by omega
                 subst hj
                 have e : a = T.1 := by
                   rcases Nat.lt_or_ge a T.1 with q | q
                   · rw [if_neg (by omega)] at h_159; exact absurd rfl h_159
                   · omega
                 have ec : tcd T a = 256 := by unfold tcd; rw [if_pos (by omega)]
                 exact ⟨rfl, ⟨hb1, p13, by omega, by rw [p11, ec, if_pos e]; rfl, fun z => by rw [ec] at z; omega, fun z => by rw [ec] at z; omega, fun _ => by rw [p10]; unfold nx tln; rw [if_pos (by omega)]⟩, hF⟩)
              | (subst hj
                 try simp only [Nat.add_zero] at hnf
                 try simp only [Nat.add_zero] at h_190
                 try simp only [Nat.add_zero] at h_199
                 try simp only [Nat.add_zero] at h_208
                 have e : ¬ a = T.1 := fun q => by rw [if_pos q] at h_159; omega
                 have hf0 : fgn T a = 0 := fgn_0 (by first | exact hnf | simpa using hnf)
                 have ec : tcd T a = T.2 a := by unfold tcd; rw [if_neg (by omega), if_pos hf0]
                 have hc := hTW.2 a (by omega)
                 have ek : tkv (T.2 a) = (if (97 ≤ T.2 a ∧ T.2 a ≤ 122) ∨ T.2 a = 44 ∨ T.2 a = 59 then 1 else 0) := by
                   unfold tkv; rw [if_neg (by omega), if_neg (by omega), if_neg (by omega)]
                 refine ⟨rfl, ⟨?_, ?_, by omega, ?_, fun _ => ?_, fun z => ?_, fun _ => ?_⟩, ?_⟩
                 · exact ⟨by rw [up1_at, if_neg (by decide), up1_at, if_neg (by decide), up1_at, if_neg (by decide)]; exact p8, fun i hi => by rw [up1_ne _ _ _ (by decide), up1_ne _ _ _ (by decide), up1_ne _ _ _ (by decide)]; exact p40 i hi⟩
                 · rw [up1_at, if_neg (by decide), up1_at, if_neg (by decide), up1_at, if_neg (by decide)]; exact p13
                 · rw [up1_at, if_neg (by decide), up1_at, if_pos ⟨rfl, rfl⟩, ec, ek]
                   first
                     | (rw [inB_n (by omega)] at h_190
                        simp only [decide_eq_true_eq] at h_190
                        rw [if_pos (by omega)])
                     | (rw [if_pos (by omega)])
                     | (rw [inB_n (by omega)] at h_190
                        simp only [decide_eq_false_iff_not] at h_190
                        rw [if_neg (by omega)])
                 · rw [up1_at, if_neg (by decide), up1_at, if_neg (by decide), up1_at, if_pos ⟨rfl, rfl⟩, ec]
                   try rfl
                 · rw [ec] at z; omega
                 · rw [up1_at, if_pos ⟨rfl, rfl⟩]
                   unfold nx tln
                   rw [if_neg (by omega), if_pos hf0]
                   try rfl
                 · exact ((hF.up (by decide)).up (by decide)).up (by decide))
              | (have hle : j ≤ 2 → fgn T a = j := fun h2 => fgn_eq (by omega) hfg (Or.inr hnf)
                 have h3 : 3 ≤ j → fgn T a = 3 := fun h2 => fgn_eq (Nat.le_refl _) (fun i hi => hfg i (by omega)) (Or.inl rfl)
                 have haT : ¬ T.1 ≤ a := by have := (fg_lt (hfg 0 (by omega))).1; omega
                 have hj0 : 1 ≤ j := by omega
                 have et : tcd T a = if 3 ≤ j then 258 else 257 := by
                   unfold tcd
                   rw [if_neg haT]
                   by_cases q : 3 ≤ j
                   · rw [h3 q, if_neg (by decide), if_pos rfl, if_pos q]
                   · rw [hle (by omega), if_neg (by omega), if_neg (by omega), if_neg q]
                 refine ⟨rfl, ⟨?_, ?_, by omega, ?_, fun z => ?_, fun z => ?_, fun z => ?_⟩, hF.up (by decide)⟩
                 · exact ⟨by rw [up1_at, if_neg (by decide)]; exact p8, fun i hi => by rw [up1_ne _ _ _ (by decide)]; exact p40 i hi⟩
                 · rw [up1_at, if_neg (by decide)]; exact p13
                 · rw [up1_at, if_pos ⟨rfl, rfl⟩, et]
                   first
                     | (rw [if_pos (by omega)]; rfl)
                     | (rw [if_neg (by omega)]; rfl)
                 · rw [et] at z; split at z <;> omega
                 · rw [et] at z
                   rw [up1_at, if_neg (by decide), p12]
                   have hj2 : j ≤ 2 := by
                     rcases Nat.lt_or_ge 2 j with q | q
                     · rw [if_pos (by omega)] at z; omega
                     · exact q
                   unfold tvl
                   rw [hle hj2, hwv hj2]
                 · rw [et] at z
                   have hj2 : j ≤ 2 := by
                     rcases Nat.lt_or_ge 2 j with q | q
                     · rw [if_pos (by omega)] at z; omega
                     · exact q
                   rw [up1_at, if_neg (by decide), p10]
                   unfold nx tln
                   rw [if_neg haT, hle hj2, if_neg (by omega)])
      · exfalso; omega
    | succ k ih =>
      intro j w M1 hk hfg hw9 hwv p10 p13 p12 p11 hF
      have hb1 := hb.ft hF
      have p8 := hb1.1
      have p40 := hb1.2
      refine x_aload_n dX12_nextToken_33 rfl ?_
      refine g_X12_88 dX12_nextToken_34 ?_
      first
        | rw [p10]
        | rw [up1_at, if_pos ⟨rfl, rfl⟩]
        | rw [up1_at, if_neg (by decide), p10]
        | rw [up1_at, if_neg (by decide), up1_at, if_pos ⟨rfl, rfl⟩]
        | rw [up1_at, if_neg (by decide), up1_at, if_neg (by decide), p10]
        | rw [up1_at, if_neg (by decide), up1_at, if_neg (by decide), up1_at, if_pos ⟨rfl, rfl⟩]
        | rw [up1_at, if_neg (by decide), up1_at, if_neg (by decide), up1_at, if_neg (by decide), p10]
      refine x_aload_n dX12_nextToken_37 rfl ?_
      refine g_X12_84 dX12_nextToken_38 ?_
      first
        | rw [p8]
        | rw [up1_at, if_pos ⟨rfl, rfl⟩]
        | rw [up1_at, if_neg (by decide), p8]
        | rw [up1_at, if_neg (by decide), up1_at, if_pos ⟨rfl, rfl⟩]
        | rw [up1_at, if_neg (by decide), up1_at, if_neg (by decide), p8]
        | rw [up1_at, if_neg (by decide), up1_at, if_neg (by decide), up1_at, if_pos ⟨rfl, rfl⟩]
        | rw [up1_at, if_neg (by decide), up1_at, if_neg (by decide), up1_at, if_neg (by decide), p8]
      refine y_icmp_ge 119 dX12_nextToken_41 (by omega) (by omega) (fun h_41 => ?_) (fun h_41 => ?_)
      · have hnf : fg T (a + j) = false := by
          first
            | (rw [fg_dec (by omega)]; rw [inB_n (by omega)] at h_63; exact h_63)
            | (unfold fg; simp; omega)
        refine x_aload_n dX12_nextToken_119 rfl ?_
        refine g_X12_88 dX12_nextToken_120 ?_
        first
          | rw [p10]
          | rw [up1_at, if_pos ⟨rfl, rfl⟩]
          | rw [up1_at, if_neg (by decide), p10]
          | rw [up1_at, if_neg (by decide), up1_at, if_pos ⟨rfl, rfl⟩]
          | rw [up1_at, if_neg (by decide), up1_at, if_neg (by decide), p10]
          | rw [up1_at, if_neg (by decide), up1_at, if_neg (by decide), up1_at, if_pos ⟨rfl, rfl⟩]
          | rw [up1_at, if_neg (by decide), up1_at, if_neg (by decide), up1_at, if_neg (by decide), p10]
        refine x_aload_n dX12_nextToken_123 rfl ?_
        refine g_X12_91 dX12_nextToken_124 ?_
        first
          | rw [p13]
          | rw [up1_at, if_pos ⟨rfl, rfl⟩]
          | rw [up1_at, if_neg (by decide), p13]
          | rw [up1_at, if_neg (by decide), up1_at, if_pos ⟨rfl, rfl⟩]
          | rw [up1_at, if_neg (by decide), up1_at, if_neg (by decide), p13]
          | rw [up1_at, if_neg (by decide), up1_at, if_neg (by decide), up1_at, if_pos ⟨rfl, rfl⟩]
          | rw [up1_at, if_neg (by decide), up1_at, if_neg (by decide), up1_at, if_neg (by decide), p13]
        refine y_icmp_le 155 dX12_nextToken_127 (by omega) (by omega) (fun h_127 => ?_) (fun h_127 => ?_)
        · refine x_aload_n dX12_nextToken_155 rfl ?_
          refine g_X12_94 dX12_nextToken_156 ?_
          first
            | rw [p11]
            | rw [up1_at, if_pos ⟨rfl, rfl⟩]
            | rw [up1_at, if_neg (by decide), p11]
            | rw [up1_at, if_neg (by decide), up1_at, if_pos ⟨rfl, rfl⟩]
            | rw [up1_at, if_neg (by decide), up1_at, if_neg (by decide), p11]
            | rw [up1_at, if_neg (by decide), up1_at, if_neg (by decide), up1_at, if_pos ⟨rfl, rfl⟩]
            | rw [up1_at, if_neg (by decide), up1_at, if_neg (by decide), up1_at, if_neg (by decide), p11]
          have hspl : (if a = T.1 then 3 else 0) < 2 ^ 31 := by split <;> omega
          refine y_if_ne 229 dX12_nextToken_159 (by omega) (fun h_159 => ?_) (fun h_159 => ?_)
          · refine x_vret dX12_nextToken_229 ?_
            first
              | (exfalso; omega)
              | (have hj : j = 0 := by omega
                 subst hj
                 have e : a = T.1 := by
                   rcases Nat.lt_or_ge a T.1 with q | q
                   · rw [if_neg (by omega)] at h_159; exact absurd rfl h_159
                   · omega
                 have ec : tcd T a = 256 := by unfold tcd; rw [if_pos (by omega)]
                 exact ⟨rfl, ⟨hb1, p13, by omega, by rw [p11, ec, if_pos e]; rfl, fun z => by rw [ec] at z; omega, fun z => by rw [ec] at z; omega, fun _ => by rw [p10]; unfold nx tln; rw [if_pos (by omega)]⟩, hF⟩)
              | (subst hj
                 try simp only [Nat.add_zero] at hnf
                 try simp only [Nat.add_zero] at h_190
                 try simp only [Nat.add_zero] at h_199
                 try simp only [Nat.add_zero] at h_208
                 have e : ¬ a = T.1 := fun q => by rw [if_pos q] at h_159; omega
                 have hf0 : fgn T a = 0 := fgn_0 (by first | exact hnf | simpa using hnf)
                 have ec : tcd T a = T.2 a := by unfold tcd; rw [if_neg (by omega), if_pos hf0]
                 have hc := hTW.2 a (by omega)
                 have ek : tkv (T.2 a) = (if (97 ≤ T.2 a ∧ T.2 a ≤ 122) ∨ T.2 a = 44 ∨ T.2 a = 59 then 1 else 0) := by
                   unfold tkv; rw [if_neg (by omega), if_neg (by omega), if_neg (by omega)]
                 refine ⟨rfl, ⟨?_, ?_, by omega, ?_, fun _ => ?_, fun z => ?_, fun _ => ?_⟩, ?_⟩
                 · exact ⟨by rw [up1_at, if_neg (by decide), up1_at, if_neg (by decide), up1_at, if_neg (by decide)]; exact p8, fun i hi => by rw [up1_ne _ _ _ (by decide), up1_ne _ _ _ (by decide), up1_ne _ _ _ (by decide)]; exact p40 i hi⟩
                 · rw [up1_at, if_neg (by decide), up1_at, if_neg (by decide), up1_at, if_neg (by decide)]; exact p13
                 · rw [up1_at, if_neg (by decide), up1_at, if_pos ⟨rfl, rfl⟩, ec, ek]
                   first
                     | (rw [inB_n (by omega)] at h_190
                        simp only [decide_eq_true_eq] at h_190
                        rw [if_pos (by omega)])
                     | (rw [if_pos (by omega)])
                     | (rw [inB_n (by omega)] at h_190
                        simp only [decide_eq_false_iff_not] at h_190
                        rw [if_neg (by omega)])
                 · rw [up1_at, if_neg (by decide), up1_at, if_neg (by decide), up1_at, if_pos ⟨rfl, rfl⟩, ec]
                   try rfl
                 · rw [ec] at z; omega
                 · rw [up1_at, if_pos ⟨rfl, rfl⟩]
                   unfold nx tln
                   rw [if_neg (by omega), if_pos hf0]
                   try rfl
                 · exact ((hF.up (by decide)).up (by decide)).up (by decide))
              | (have hle : j ≤ 2 → fgn T a = j := fun h2 => fgn_eq (by omega) hfg (Or.inr hnf)
                 have h3 : 3 ≤ j → fgn T a = 3 := fun h2 => fgn_eq (Nat.le_refl _) (fun i hi => hfg i (by omega)) (Or.inl rfl)
                 have haT : ¬ T.1 ≤ a := by have := (fg_lt (hfg 0 (by omega))).1; omega
                 have hj0 : 1 ≤ j := by omega
                 have et : tcd T a = if 3 ≤ j then 258 else 257 := by
                   unfold tcd
                   rw [if_neg haT]
                   by_cases q : 3 ≤ j
                   · rw [h3 q, if_neg (by decide), if_pos rfl, if_pos q]
                   · rw [hle (by omega), if_neg (by omega), if_neg (by omega), if_neg q]
                 refine ⟨rfl, ⟨?_, ?_, by omega, ?_, fun z => ?_, fun z => ?_, fun z => ?_⟩, hF.up (by decide)⟩
                 · exact ⟨by rw [up1_at, if_neg (by decide)]; exact p8, fun i hi => by rw [up1_ne _ _ _ (by decide)]; exact p40 i hi⟩
                 · rw [up1_at, if_neg (by decide)]; exact p13
                 · rw [up1_at, if_pos ⟨rfl, rfl⟩, et]
                   first
                     | (rw [if_pos (by omega)]; rfl)
                     | (rw [if_neg (by omega)]; rfl)
                 · rw [et] at z; split at z <;> omega
                 · rw [et] at z
                   rw [up1_at, if_neg (by decide), p12]
                   have hj2 : j ≤ 2 := by
                     rcases Nat.lt_or_ge 2 j with q | q
                     · rw [if_pos (by omega)] at z; omega
                     · exact q
                   unfold tvl
                   rw [hle hj2, hwv hj2]
                 · rw [et] at z
                   have hj2 : j ≤ 2 := by
                     rcases Nat.lt_or_ge 2 j with q | q
                     · rw [if_pos (by omega)] at z; omega
                     · exact q
                   rw [up1_at, if_neg (by decide), p10]
                   unfold nx tln
                   rw [if_neg haT, hle hj2, if_neg (by omega)])
          · refine x_aload_n dX12_nextToken_162 rfl ?_
            refine x_aload_n dX12_nextToken_163 rfl ?_
            refine g_X12_25 dX12_nextToken_164 ?_
            refine x_aload_n dX12_nextToken_167 rfl ?_
            refine g_X12_88 dX12_nextToken_168 ?_
            first
              | rw [p10]
              | rw [up1_at, if_pos ⟨rfl, rfl⟩]
              | rw [up1_at, if_neg (by decide), p10]
              | rw [up1_at, if_neg (by decide), up1_at, if_pos ⟨rfl, rfl⟩]
              | rw [up1_at, if_neg (by decide), up1_at, if_neg (by decide), p10]
              | rw [up1_at, if_neg (by decide), up1_at, if_neg (by decide), up1_at, if_pos ⟨rfl, rfl⟩]
              | rw [up1_at, if_neg (by decide), up1_at, if_neg (by decide), up1_at, if_neg (by decide), p10]
            have hj : j = 0 := by omega
            have haT : a < T.1 := by
              rcases Nat.lt_or_ge a T.1 with q | q
              · exact q
              · rw [if_pos (by omega)] at h_159; omega
            have hc := hTW.2 a haT
            have hcj : T.2 (a + j) < 256 := hTW.2 _ (by omega)
            refine x_ial dX12_nextToken_171 (⟨by decide, rfl, rfl, by decide⟩ : Ar 40 100) (by omega) ?_
            rw [p40 _ (by omega)]
            refine p_X12_97 dX12_nextToken_172 ?_
            refine x_aload_n dX12_nextToken_175 rfl ?_
            refine x_aload_n dX12_nextToken_176 rfl ?_
            refine g_X12_97 dX12_nextToken_177 ?_
            first
              | rw [p12]
              | rw [up1_at, if_pos ⟨rfl, rfl⟩]
              | rw [up1_at, if_neg (by decide), p12]
              | rw [up1_at, if_neg (by decide), up1_at, if_pos ⟨rfl, rfl⟩]
              | rw [up1_at, if_neg (by decide), up1_at, if_neg (by decide), p12]
              | rw [up1_at, if_neg (by decide), up1_at, if_neg (by decide), up1_at, if_pos ⟨rfl, rfl⟩]
              | rw [up1_at, if_neg (by decide), up1_at, if_neg (by decide), up1_at, if_neg (by decide), p12]
            refine x_i2l dX12_nextToken_180 ?_
            refine x_ldc2 (v := lN 97) dX12_nextToken_181 k_X12_104 ?_
            refine x_ldc2 (v := lN 122) dX12_nextToken_184 k_X12_106 ?_
            refine q_X12_60 (m_inB (by decide) (by decide)) dX12_nextToken_187 rfl ?_
            rintro _ _ ⟨rfl, rfl⟩
            refine z_if_ne 211 dX12_nextToken_190 (fun h_190 => ?_) (fun h_190 => ?_)
            · refine y_iconst (a := 1) dX12_nextToken_211 rfl ?_
              refine x_goto 216 dX12_nextToken_212 ?_
              refine p_X12_94 dX12_nextToken_216 ?_
              refine x_aload_n dX12_nextToken_219 rfl ?_
              refine x_dup dX12_nextToken_220 rfl ?_
              refine g_X12_88 dX12_nextToken_221 ?_
              first
                | rw [p10]
                | rw [up1_at, if_pos ⟨rfl, rfl⟩]
                | rw [up1_at, if_neg (by decide), p10]
                | rw [up1_at, if_neg (by decide), up1_at, if_pos ⟨rfl, rfl⟩]
                | rw [up1_at, if_neg (by decide), up1_at, if_neg (by decide), p10]
                | rw [up1_at, if_neg (by decide), up1_at, if_neg (by decide), up1_at, if_pos ⟨rfl, rfl⟩]
                | rw [up1_at, if_neg (by decide), up1_at, if_neg (by decide), up1_at, if_neg (by decide), p10]
              refine y_iconst (a := 1) dX12_nextToken_224 rfl ?_
              refine y_iadd dX12_nextToken_225 ?_
              refine p_X12_88 dX12_nextToken_226 ?_
              refine x_vret dX12_nextToken_229 ?_
              first
                | (exfalso; omega)
                | (have hj : j = 0 := by omega
                   subst hj
                   have e : a = T.1 := by
                     rcases Nat.lt_or_ge a T.1 with q | q
                     · rw [if_neg (by omega)] at h_159; exact absurd rfl h_159
                     · omega
                   have ec : tcd T a = 256 := by unfold tcd; rw [if_pos (by omega)]
                   exact ⟨rfl, ⟨hb1, p13, by omega, by rw [p11, ec, if_pos e]; rfl, fun z => by rw [ec] at z; omega, fun z => by rw [ec] at z; omega, fun _ => by rw [p10]; unfold nx tln; rw [if_pos (by omega)]⟩, hF⟩)
                | (subst hj
                   try simp only [Nat.add_zero] at hnf
                   try simp only [Nat.add_zero] at h_190
                   try simp only [Nat.add_zero] at h_199
                   try simp only [Nat.add_zero] at h_208
                   have e : ¬ a = T.1 := fun q => by rw [if_pos q] at h_159; omega
                   have hf0 : fgn T a = 0 := fgn_0 (by first | exact hnf | simpa using hnf)
                   have ec : tcd T a = T.2 a := by unfold tcd; rw [if_neg (by omega), if_pos hf0]
                   have hc := hTW.2 a (by omega)
                   have ek : tkv (T.2 a) = (if (97 ≤ T.2 a ∧ T.2 a ≤ 122) ∨ T.2 a = 44 ∨ T.2 a = 59 then 1 else 0) := by
                     unfold tkv; rw [if_neg (by omega), if_neg (by omega), if_neg (by omega)]
                   refine ⟨rfl, ⟨?_, ?_, by omega, ?_, fun _ => ?_, fun z => ?_, fun _ => ?_⟩, ?_⟩
                   · exact ⟨by rw [up1_at, if_neg (by decide), up1_at, if_neg (by decide), up1_at, if_neg (by decide)]; exact p8, fun i hi => by rw [up1_ne _ _ _ (by decide), up1_ne _ _ _ (by decide), up1_ne _ _ _ (by decide)]; exact p40 i hi⟩
                   · rw [up1_at, if_neg (by decide), up1_at, if_neg (by decide), up1_at, if_neg (by decide)]; exact p13
                   · rw [up1_at, if_neg (by decide), up1_at, if_pos ⟨rfl, rfl⟩, ec, ek]
                     first
                       | (rw [inB_n (by omega)] at h_190
                          simp only [decide_eq_true_eq] at h_190
                          rw [if_pos (by omega)])
                       | (rw [if_pos (by omega)])
                       | (rw [inB_n (by omega)] at h_190
                          simp only [decide_eq_false_iff_not] at h_190
                          rw [if_neg (by omega)])
                   · rw [up1_at, if_neg (by decide), up1_at, if_neg (by decide), up1_at, if_pos ⟨rfl, rfl⟩, ec]
                     try rfl
                   · rw [ec] at z; omega
                   · rw [up1_at, if_pos ⟨rfl, rfl⟩]
                     unfold nx tln
                     rw [if_neg (by omega), if_pos hf0]
                     try rfl
                   · exact ((hF.up (by decide)).up (by decide)).up (by decide))
                | (have hle : j ≤ 2 → fgn T a = j := fun h2 => fgn_eq (by omega) hfg (Or.inr hnf)
                   have h3 : 3 ≤ j → fgn T a = 3 := fun h2 => fgn_eq (Nat.le_refl _) (fun i hi => hfg i (by omega)) (Or.inl rfl)
                   have haT : ¬ T.1 ≤ a := by have := (fg_lt (hfg 0 (by omega))).1; omega
                   have hj0 : 1 ≤ j := by omega
                   have et : tcd T a = if 3 ≤ j then 258 else 257 := by
                     unfold tcd
                     rw [if_neg haT]
                     by_cases q : 3 ≤ j
                     · rw [h3 q, if_neg (by decide), if_pos rfl, if_pos q]
                     · rw [hle (by omega), if_neg (by omega), if_neg (by omega), if_neg q]
                   refine ⟨rfl, ⟨?_, ?_, by omega, ?_, fun z => ?_, fun z => ?_, fun z => ?_⟩, hF.up (by decide)⟩
                   · exact ⟨by rw [up1_at, if_neg (by decide)]; exact p8, fun i hi => by rw [up1_ne _ _ _ (by decide)]; exact p40 i hi⟩
                   · rw [up1_at, if_neg (by decide)]; exact p13
                   · rw [up1_at, if_pos ⟨rfl, rfl⟩, et]
                     first
                       | (rw [if_pos (by omega)]; rfl)
                       | (rw [if_neg (by omega)]; rfl)
                   · rw [et] at z; split at z <;> omega
                   · rw [et] at z
                     rw [up1_at, if_neg (by decide), p12]
                     have hj2 : j ≤ 2 := by
                       rcases Nat.lt_or_ge 2 j with q | q
                       · rw [if_pos (by omega)] at z; omega
                       · exact q
                     unfold tvl
                     rw [hle hj2, hwv hj2]
                   · rw [et] at z
                     have hj2 : j ≤ 2 := by
                       rcases Nat.lt_or_ge 2 j with q | q
                       · rw [if_pos (by omega)] at z; omega
                       · exact q
                     rw [up1_at, if_neg (by decide), p10]
                     unfold nx tln
                     rw [if_neg haT, hle hj2, if_neg (by omega)])
            · refine x_aload_n dX12_nextToken_193 rfl ?_
              refine g_X12_97 dX12_nextToken_194 ?_
              first
                | rw [p12]
                | rw [up1_at, if_pos ⟨rfl, rfl⟩]
                | rw [up1_at, if_neg (by decide), p12]
                | rw [up1_at, if_neg (by decide), up1_at, if_pos ⟨rfl, rfl⟩]
                | rw [up1_at, if_neg (by decide), up1_at, if_neg (by decide), p12]
                | rw [up1_at, if_neg (by decide), up1_at, if_neg (by decide), up1_at, if_pos ⟨rfl, rfl⟩]
                | rw [up1_at, if_neg (by decide), up1_at, if_neg (by decide), up1_at, if_neg (by decide), p12]
              refine x_bipush (v := nI 44) dX12_nextToken_197 rfl ?_
              refine y_icmp_eq 211 dX12_nextToken_199 (by omega) (by omega) (fun h_199 => ?_) (fun h_199 => ?_)
              · refine y_iconst (a := 1) dX12_nextToken_211 rfl ?_
                refine x_goto 216 dX12_nextToken_212 ?_
                refine p_X12_94 dX12_nextToken_216 ?_
                refine x_aload_n dX12_nextToken_219 rfl ?_
                refine x_dup dX12_nextToken_220 rfl ?_
                refine g_X12_88 dX12_nextToken_221 ?_
                first
                  | rw [p10]
                  | rw [up1_at, if_pos ⟨rfl, rfl⟩]
                  | rw [up1_at, if_neg (by decide), p10]
                  | rw [up1_at, if_neg (by decide), up1_at, if_pos ⟨rfl, rfl⟩]
                  | rw [up1_at, if_neg (by decide), up1_at, if_neg (by decide), p10]
                  | rw [up1_at, if_neg (by decide), up1_at, if_neg (by decide), up1_at, if_pos ⟨rfl, rfl⟩]
                  | rw [up1_at, if_neg (by decide), up1_at, if_neg (by decide), up1_at, if_neg (by decide), p10]
                refine y_iconst (a := 1) dX12_nextToken_224 rfl ?_
                refine y_iadd dX12_nextToken_225 ?_
                refine p_X12_88 dX12_nextToken_226 ?_
                refine x_vret dX12_nextToken_229 ?_
                first
                  | (exfalso; omega)
                  | (have hj : j = 0 := by omega
                     subst hj
                     have e : a = T.1 := by
                       rcases Nat.lt_or_ge a T.1 with q | q
                       · rw [if_neg (by omega)] at h_159; exact absurd rfl h_159
                       · omega
                     have ec : tcd T a = 256 := by unfold tcd; rw [if_pos (by omega)]
                     exact ⟨rfl, ⟨hb1, p13, by omega, by rw [p11, ec, if_pos e]; rfl, fun z => by rw [ec] at z; omega, fun z => by rw [ec] at z; omega, fun _ => by rw [p10]; unfold nx tln; rw [if_pos (by omega)]⟩, hF⟩)
                  | (subst hj
                     try simp only [Nat.add_zero] at hnf
                     try simp only [Nat.add_zero] at h_190
                     try simp only [Nat.add_zero] at h_199
                     try simp only [Nat.add_zero] at h_208
                     have e : ¬ a = T.1 := fun q => by rw [if_pos q] at h_159; omega
                     have hf0 : fgn T a = 0 := fgn_0 (by first | exact hnf | simpa using hnf)
                     have ec : tcd T a = T.2 a := by unfold tcd; rw [if_neg (by omega), if_pos hf0]
                     have hc := hTW.2 a (by omega)
                     have ek : tkv (T.2 a) = (if (97 ≤ T.2 a ∧ T.2 a ≤ 122) ∨ T.2 a = 44 ∨ T.2 a = 59 then 1 else 0) := by
                       unfold tkv; rw [if_neg (by omega), if_neg (by omega), if_neg (by omega)]
                     refine ⟨rfl, ⟨?_, ?_, by omega, ?_, fun _ => ?_, fun z => ?_, fun _ => ?_⟩, ?_⟩
                     · exact ⟨by rw [up1_at, if_neg (by decide), up1_at, if_neg (by decide), up1_at, if_neg (by decide)]; exact p8, fun i hi => by rw [up1_ne _ _ _ (by decide), up1_ne _ _ _ (by decide), up1_ne _ _ _ (by decide)]; exact p40 i hi⟩
                     · rw [up1_at, if_neg (by decide), up1_at, if_neg (by decide), up1_at, if_neg (by decide)]; exact p13
                     · rw [up1_at, if_neg (by decide), up1_at, if_pos ⟨rfl, rfl⟩, ec, ek]
                       first
                         | (rw [inB_n (by omega)] at h_190
                            simp only [decide_eq_true_eq] at h_190
                            rw [if_pos (by omega)])
                         | (rw [if_pos (by omega)])
                         | (rw [inB_n (by omega)] at h_190
                            simp only [decide_eq_false_iff_not] at h_190
                            rw [if_neg (by omega)])
                     · rw [up1_at, if_neg (by decide), up1_at, if_neg (by decide), up1_at, if_pos ⟨rfl, rfl⟩, ec]
                       try rfl
                     · rw [ec] at z; omega
                     · rw [up1_at, if_pos ⟨rfl, rfl⟩]
                       unfold nx tln
                       rw [if_neg (by omega), if_pos hf0]
                       try rfl
                     · exact ((hF.up (by decide)).up (by decide)).up (by decide))
                  | (have hle : j ≤ 2 → fgn T a = j := fun h2 => fgn_eq (by omega) hfg (Or.inr hnf)
                     have h3 : 3 ≤ j → fgn T a = 3 := fun h2 => fgn_eq (Nat.le_refl _) (fun i hi => hfg i (by omega)) (Or.inl rfl)
                     have haT : ¬ T.1 ≤ a := by have := (fg_lt (hfg 0 (by omega))).1; omega
                     have hj0 : 1 ≤ j := by omega
                     have et : tcd T a = if 3 ≤ j then 258 else 257 := by
                       unfold tcd
                       rw [if_neg haT]
                       by_cases q : 3 ≤ j
                       · rw [h3 q, if_neg (by decide), if_pos rfl, if_pos q]
                       · rw [hle (by omega), if_neg (by omega), if_neg (by omega), if_neg q]
                     refine ⟨rfl, ⟨?_, ?_, by omega, ?_, fun z => ?_, fun z => ?_, fun z => ?_⟩, hF.up (by decide)⟩
                     · exact ⟨by rw [up1_at, if_neg (by decide)]; exact p8, fun i hi => by rw [up1_ne _ _ _ (by decide)]; exact p40 i hi⟩
                     · rw [up1_at, if_neg (by decide)]; exact p13
                     · rw [up1_at, if_pos ⟨rfl, rfl⟩, et]
                       first
                         | (rw [if_pos (by omega)]; rfl)
                         | (rw [if_neg (by omega)]; rfl)
                     · rw [et] at z; split at z <;> omega
                     · rw [et] at z
                       rw [up1_at, if_neg (by decide), p12]
                       have hj2 : j ≤ 2 := by
                         rcases Nat.lt_or_ge 2 j with q | q
                         · rw [if_pos (by omega)] at z; omega
                         · exact q
                       unfold tvl
                       rw [hle hj2, hwv hj2]
                     · rw [et] at z
                       have hj2 : j ≤ 2 := by
                         rcases Nat.lt_or_ge 2 j with q | q
                         · rw [if_pos (by omega)] at z; omega
                         · exact q
                       rw [up1_at, if_neg (by decide), p10]
                       unfold nx tln
                       rw [if_neg haT, hle hj2, if_neg (by omega)])
              · refine x_aload_n dX12_nextToken_202 rfl ?_
                refine g_X12_97 dX12_nextToken_203 ?_
                first
                  | rw [p12]
                  | rw [up1_at, if_pos ⟨rfl, rfl⟩]
                  | rw [up1_at, if_neg (by decide), p12]
                  | rw [up1_at, if_neg (by decide), up1_at, if_pos ⟨rfl, rfl⟩]
                  | rw [up1_at, if_neg (by decide), up1_at, if_neg (by decide), p12]
                  | rw [up1_at, if_neg (by decide), up1_at, if_neg (by decide), up1_at, if_pos ⟨rfl, rfl⟩]
                  | rw [up1_at, if_neg (by decide), up1_at, if_neg (by decide), up1_at, if_neg (by decide), p12]
                refine x_bipush (v := nI 59) dX12_nextToken_206 rfl ?_
                refine y_icmp_ne 215 dX12_nextToken_208 (by omega) (by omega) (fun h_208 => ?_) (fun h_208 => ?_)
                · refine y_iconst (a := 0) dX12_nextToken_215 rfl ?_
                  refine p_X12_94 dX12_nextToken_216 ?_
                  refine x_aload_n dX12_nextToken_219 rfl ?_
                  refine x_dup dX12_nextToken_220 rfl ?_
                  refine g_X12_88 dX12_nextToken_221 ?_
                  first
                    | rw [p10]
                    | rw [up1_at, if_pos ⟨rfl, rfl⟩]
                    | rw [up1_at, if_neg (by decide), p10]
                    | rw [up1_at, if_neg (by decide), up1_at, if_pos ⟨rfl, rfl⟩]
                    | rw [up1_at, if_neg (by decide), up1_at, if_neg (by decide), p10]
                    | rw [up1_at, if_neg (by decide), up1_at, if_neg (by decide), up1_at, if_pos ⟨rfl, rfl⟩]
                    | rw [up1_at, if_neg (by decide), up1_at, if_neg (by decide), up1_at, if_neg (by decide), p10]
                  refine y_iconst (a := 1) dX12_nextToken_224 rfl ?_
                  refine y_iadd dX12_nextToken_225 ?_
                  refine p_X12_88 dX12_nextToken_226 ?_
                  refine x_vret dX12_nextToken_229 ?_
                  first
                    | (exfalso; omega)
                    | (have hj : j = 0 := by omega
                       subst hj
                       have e : a = T.1 := by
                         rcases Nat.lt_or_ge a T.1 with q | q
                         · rw [if_neg (by omega)] at h_159; exact absurd rfl h_159
                         · omega
                       have ec : tcd T a = 256 := by unfold tcd; rw [if_pos (by omega)]
                       exact ⟨rfl, ⟨hb1, p13, by omega, by rw [p11, ec, if_pos e]; rfl, fun z => by rw [ec] at z; omega, fun z => by rw [ec] at z; omega, fun _ => by rw [p10]; unfold nx tln; rw [if_pos (by omega)]⟩, hF⟩)
                    | (subst hj
                       try simp only [Nat.add_zero] at hnf
                       try simp only [Nat.add_zero] at h_190
                       try simp only [Nat.add_zero] at h_199
                       try simp only [Nat.add_zero] at h_208
                       have e : ¬ a = T.1 := fun q => by rw [if_pos q] at h_159; omega
                       have hf0 : fgn T a = 0 := fgn_0 (by first | exact hnf | simpa using hnf)
                       have ec : tcd T a = T.2 a := by unfold tcd; rw [if_neg (by omega), if_pos hf0]
                       have hc := hTW.2 a (by omega)
                       have ek : tkv (T.2 a) = (if (97 ≤ T.2 a ∧ T.2 a ≤ 122) ∨ T.2 a = 44 ∨ T.2 a = 59 then 1 else 0) := by
                         unfold tkv; rw [if_neg (by omega), if_neg (by omega), if_neg (by omega)]
                       refine ⟨rfl, ⟨?_, ?_, by omega, ?_, fun _ => ?_, fun z => ?_, fun _ => ?_⟩, ?_⟩
                       · exact ⟨by rw [up1_at, if_neg (by decide), up1_at, if_neg (by decide), up1_at, if_neg (by decide)]; exact p8, fun i hi => by rw [up1_ne _ _ _ (by decide), up1_ne _ _ _ (by decide), up1_ne _ _ _ (by decide)]; exact p40 i hi⟩
                       · rw [up1_at, if_neg (by decide), up1_at, if_neg (by decide), up1_at, if_neg (by decide)]; exact p13
                       · rw [up1_at, if_neg (by decide), up1_at, if_pos ⟨rfl, rfl⟩, ec, ek]
                         first
                           | (rw [inB_n (by omega)] at h_190
                              simp only [decide_eq_true_eq] at h_190
                              rw [if_pos (by omega)])
                           | (rw [if_pos (by omega)])
                           | (rw [inB_n (by omega)] at h_190
                              simp only [decide_eq_false_iff_not] at h_190
                              rw [if_neg (by omega)])
                       · rw [up1_at, if_neg (by decide), up1_at, if_neg (by decide), up1_at, if_pos ⟨rfl, rfl⟩, ec]
                         try rfl
                       · rw [ec] at z; omega
                       · rw [up1_at, if_pos ⟨rfl, rfl⟩]
                         unfold nx tln
                         rw [if_neg (by omega), if_pos hf0]
                         try rfl
                       · exact ((hF.up (by decide)).up (by decide)).up (by decide))
                    | (have hle : j ≤ 2 → fgn T a = j := fun h2 => fgn_eq (by omega) hfg (Or.inr hnf)
                       have h3 : 3 ≤ j → fgn T a = 3 := fun h2 => fgn_eq (Nat.le_refl _) (fun i hi => hfg i (by omega)) (Or.inl rfl)
                       have haT : ¬ T.1 ≤ a := by have := (fg_lt (hfg 0 (by omega))).1; omega
                       have hj0 : 1 ≤ j := by omega
                       have et : tcd T a = if 3 ≤ j then 258 else 257 := by
                         unfold tcd
                         rw [if_neg haT]
                         by_cases q : 3 ≤ j
                         · rw [h3 q, if_neg (by decide), if_pos rfl, if_pos q]
                         · rw [hle (by omega), if_neg (by omega), if_neg (by omega), if_neg q]
                       refine ⟨rfl, ⟨?_, ?_, by omega, ?_, fun z => ?_, fun z => ?_, fun z => ?_⟩, hF.up (by decide)⟩
                       · exact ⟨by rw [up1_at, if_neg (by decide)]; exact p8, fun i hi => by rw [up1_ne _ _ _ (by decide)]; exact p40 i hi⟩
                       · rw [up1_at, if_neg (by decide)]; exact p13
                       · rw [up1_at, if_pos ⟨rfl, rfl⟩, et]
                         first
                           | (rw [if_pos (by omega)]; rfl)
                           | (rw [if_neg (by omega)]; rfl)
                       · rw [et] at z; split at z <;> omega
                       · rw [et] at z
                         rw [up1_at, if_neg (by decide), p12]
                         have hj2 : j ≤ 2 := by
                           rcases Nat.lt_or_ge 2 j with q | q
                           · rw [if_pos (by omega)] at z; omega
                           · exact q
                         unfold tvl
                         rw [hle hj2, hwv hj2]
                       · rw [et] at z
                         have hj2 : j ≤ 2 := by
                           rcases Nat.lt_or_ge 2 j with q | q
                           · rw [if_pos (by omega)] at z; omega
                           · exact q
                         rw [up1_at, if_neg (by decide), p10]
                         unfold nx tln
                         rw [if_neg haT, hle hj2, if_neg (by omega)])
                · refine y_iconst (a := 1) dX12_nextToken_211 rfl ?_
                  refine x_goto 216 dX12_nextToken_212 ?_
                  refine p_X12_94 dX12_nextToken_216 ?_
                  refine x_aload_n dX12_nextToken_219 rfl ?_
                  refine x_dup dX12_nextToken_220 rfl ?_
                  refine g_X12_88 dX12_nextToken_221 ?_
                  first
                    | rw [p10]
                    | rw [up1_at, if_pos ⟨rfl, rfl⟩]
                    | rw [up1_at, if_neg (by decide), p10]
                    | rw [up1_at, if_neg (by decide), up1_at, if_pos ⟨rfl, rfl⟩]
                    | rw [up1_at, if_neg (by decide), up1_at, if_neg (by decide), p10]
                    | rw [up1_at, if_neg (by decide), up1_at, if_neg (by decide), up1_at, if_pos ⟨rfl, rfl⟩]
                    | rw [up1_at, if_neg (by decide), up1_at, if_neg (by decide), up1_at, if_neg (by decide), p10]
                  refine y_iconst (a := 1) dX12_nextToken_224 rfl ?_
                  refine y_iadd dX12_nextToken_225 ?_
                  refine p_X12_88 dX12_nextToken_226 ?_
                  refine x_vret dX12_nextToken_229 ?_
                  first
                    | (exfalso; omega)
                    | (have hj : j = 0 := by omega
                       subst hj
                       have e : a = T.1 := by
                         rcases Nat.lt_or_ge a T.1 with q | q
                         · rw [if_neg (by omega)] at h_159; exact absurd rfl h_159
                         · omega
                       have ec : tcd T a = 256 := by unfold tcd; rw [if_pos (by omega)]
                       exact ⟨rfl, ⟨hb1, p13, by omega, by rw [p11, ec, if_pos e]; rfl, fun z => by rw [ec] at z; omega, fun z => by rw [ec] at z; omega, fun _ => by rw [p10]; unfold nx tln; rw [if_pos (by omega)]⟩, hF⟩)
                    | (subst hj
                       try simp only [Nat.add_zero] at hnf
                       try simp only [Nat.add_zero] at h_190
                       try simp only [Nat.add_zero] at h_199
                       try simp only [Nat.add_zero] at h_208
                       have e : ¬ a = T.1 := fun q => by rw [if_pos q] at h_159; omega
                       have hf0 : fgn T a = 0 := fgn_0 (by first | exact hnf | simpa using hnf)
                       have ec : tcd T a = T.2 a := by unfold tcd; rw [if_neg (by omega), if_pos hf0]
                       have hc := hTW.2 a (by omega)
                       have ek : tkv (T.2 a) = (if (97 ≤ T.2 a ∧ T.2 a ≤ 122) ∨ T.2 a = 44 ∨ T.2 a = 59 then 1 else 0) := by
                         unfold tkv; rw [if_neg (by omega), if_neg (by omega), if_neg (by omega)]
                       refine ⟨rfl, ⟨?_, ?_, by omega, ?_, fun _ => ?_, fun z => ?_, fun _ => ?_⟩, ?_⟩
                       · exact ⟨by rw [up1_at, if_neg (by decide), up1_at, if_neg (by decide), up1_at, if_neg (by decide)]; exact p8, fun i hi => by rw [up1_ne _ _ _ (by decide), up1_ne _ _ _ (by decide), up1_ne _ _ _ (by decide)]; exact p40 i hi⟩
                       · rw [up1_at, if_neg (by decide), up1_at, if_neg (by decide), up1_at, if_neg (by decide)]; exact p13
                       · rw [up1_at, if_neg (by decide), up1_at, if_pos ⟨rfl, rfl⟩, ec, ek]
                         first
                           | (rw [inB_n (by omega)] at h_190
                              simp only [decide_eq_true_eq] at h_190
                              rw [if_pos (by omega)])
                           | (rw [if_pos (by omega)])
                           | (rw [inB_n (by omega)] at h_190
                              simp only [decide_eq_false_iff_not] at h_190
                              rw [if_neg (by omega)])
                       · rw [up1_at, if_neg (by decide), up1_at, if_neg (by decide), up1_at, if_pos ⟨rfl, rfl⟩, ec]
                         try rfl
                       · rw [ec] at z; omega
                       · rw [up1_at, if_pos ⟨rfl, rfl⟩]
                         unfold nx tln
                         rw [if_neg (by omega), if_pos hf0]
                         try rfl
                       · exact ((hF.up (by decide)).up (by decide)).up (by decide))
                    | (have hle : j ≤ 2 → fgn T a = j := fun h2 => fgn_eq (by omega) hfg (Or.inr hnf)
                       have h3 : 3 ≤ j → fgn T a = 3 := fun h2 => fgn_eq (Nat.le_refl _) (fun i hi => hfg i (by omega)) (Or.inl rfl)
                       have haT : ¬ T.1 ≤ a := by have := (fg_lt (hfg 0 (by omega))).1; omega
                       have hj0 : 1 ≤ j := by omega
                       have et : tcd T a = if 3 ≤ j then 258 else 257 := by
                         unfold tcd
                         rw [if_neg haT]
                         by_cases q : 3 ≤ j
                         · rw [h3 q, if_neg (by decide), if_pos rfl, if_pos q]
                         · rw [hle (by omega), if_neg (by omega), if_neg (by omega), if_neg q]
                       refine ⟨rfl, ⟨?_, ?_, by omega, ?_, fun z => ?_, fun z => ?_, fun z => ?_⟩, hF.up (by decide)⟩
                       · exact ⟨by rw [up1_at, if_neg (by decide)]; exact p8, fun i hi => by rw [up1_ne _ _ _ (by decide)]; exact p40 i hi⟩
                       · rw [up1_at, if_neg (by decide)]; exact p13
                       · rw [up1_at, if_pos ⟨rfl, rfl⟩, et]
                         first
                           | (rw [if_pos (by omega)]; rfl)
                           | (rw [if_neg (by omega)]; rfl)
                       · rw [et] at z; split at z <;> omega
                       · rw [et] at z
                         rw [up1_at, if_neg (by decide), p12]
                         have hj2 : j ≤ 2 := by
                           rcases Nat.lt_or_ge 2 j with q | q
                           · rw [if_pos (by omega)] at z; omega
                           · exact q
                         unfold tvl
                         rw [hle hj2, hwv hj2]
                       · rw [et] at z
                         have hj2 : j ≤ 2 := by
                           rcases Nat.lt_or_ge 2 j with q | q
                           · rw [if_pos (by omega)] at z; omega
                           · exact q
                         rw [up1_at, if_neg (by decide), p10]
                         unfold nx tln
                         rw [if_neg haT, hle hj2, if_neg (by omega)])
        · refine x_aload_n dX12_nextToken_130 rfl ?_
          refine x_aload_n dX12_nextToken_131 rfl ?_
          refine g_X12_88 dX12_nextToken_132 ?_
          first
            | rw [p10]
            | rw [up1_at, if_pos ⟨rfl, rfl⟩]
            | rw [up1_at, if_neg (by decide), p10]
            | rw [up1_at, if_neg (by decide), up1_at, if_pos ⟨rfl, rfl⟩]
            | rw [up1_at, if_neg (by decide), up1_at, if_neg (by decide), p10]
            | rw [up1_at, if_neg (by decide), up1_at, if_neg (by decide), up1_at, if_pos ⟨rfl, rfl⟩]
            | rw [up1_at, if_neg (by decide), up1_at, if_neg (by decide), up1_at, if_neg (by decide), p10]
          refine x_aload_n dX12_nextToken_135 rfl ?_
          refine g_X12_91 dX12_nextToken_136 ?_
          first
            | rw [p13]
            | rw [up1_at, if_pos ⟨rfl, rfl⟩]
            | rw [up1_at, if_neg (by decide), p13]
            | rw [up1_at, if_neg (by decide), up1_at, if_pos ⟨rfl, rfl⟩]
            | rw [up1_at, if_neg (by decide), up1_at, if_neg (by decide), p13]
            | rw [up1_at, if_neg (by decide), up1_at, if_neg (by decide), up1_at, if_pos ⟨rfl, rfl⟩]
            | rw [up1_at, if_neg (by decide), up1_at, if_neg (by decide), up1_at, if_neg (by decide), p13]
          refine y_isub dX12_nextToken_139 (by omega) ?_
          refine y_iconst (a := 2) dX12_nextToken_140 rfl ?_
          refine y_icmp_le 148 dX12_nextToken_141 (by omega) (by omega) (fun h_141 => ?_) (fun h_141 => ?_)
          · refine y_iconst (a := 2) dX12_nextToken_148 rfl ?_
            refine p_X12_94 dX12_nextToken_149 ?_
            refine x_goto 229 dX12_nextToken_152 ?_
            refine x_vret dX12_nextToken_229 ?_
            first
              | (exfalso; omega)
              | (have hj : j = 0 := by omega
                 subst hj
                 have e : a = T.1 := by
                   rcases Nat.lt_or_ge a T.1 with q | q
                   · rw [if_neg (by omega)] at h_159; exact absurd rfl h_159
                   · omega
                 have ec : tcd T a = 256 := by unfold tcd; rw [if_pos (by omega)]
                 exact ⟨rfl, ⟨hb1, p13, by omega, by rw [p11, ec, if_pos e]; rfl, fun z => by rw [ec] at z; omega, fun z => by rw [ec] at z; omega, fun _ => by rw [p10]; unfold nx tln; rw [if_pos (by omega)]⟩, hF⟩)
              | (subst hj
                 try simp only [Nat.add_zero] at hnf
                 try simp only [Nat.add_zero] at h_190
                 try simp only [Nat.add_zero] at h_199
                 try simp only [Nat.add_zero] at h_208
                 have e : ¬ a = T.1 := fun q => by rw [if_pos q] at h_159; omega
                 have hf0 : fgn T a = 0 := fgn_0 (by first | exact hnf | simpa using hnf)
                 have ec : tcd T a = T.2 a := by unfold tcd; rw [if_neg (by omega), if_pos hf0]
                 have hc := hTW.2 a (by omega)
                 have ek : tkv (T.2 a) = (if (97 ≤ T.2 a ∧ T.2 a ≤ 122) ∨ T.2 a = 44 ∨ T.2 a = 59 then 1 else 0) := by
                   unfold tkv; rw [if_neg (by omega), if_neg (by omega), if_neg (by omega)]
                 refine ⟨rfl, ⟨?_, ?_, by omega, ?_, fun _ => ?_, fun z => ?_, fun _ => ?_⟩, ?_⟩
                 · exact ⟨by rw [up1_at, if_neg (by decide), up1_at, if_neg (by decide), up1_at, if_neg (by decide)]; exact p8, fun i hi => by rw [up1_ne _ _ _ (by decide), up1_ne _ _ _ (by decide), up1_ne _ _ _ (by decide)]; exact p40 i hi⟩
                 · rw [up1_at, if_neg (by decide), up1_at, if_neg (by decide), up1_at, if_neg (by decide)]; exact p13
                 · rw [up1_at, if_neg (by decide), up1_at, if_pos ⟨rfl, rfl⟩, ec, ek]
                   first
                     | (rw [inB_n (by omega)] at h_190
                        simp only [decide_eq_true_eq] at h_190
                        rw [if_pos (by omega)])
                     | (rw [if_pos (by omega)])
                     | (rw [inB_n (by omega)] at h_190
                        simp only [decide_eq_false_iff_not] at h_190
                        rw [if_neg (by omega)])
                 · rw [up1_at, if_neg (by decide), up1_at, if_neg (by decide), up1_at, if_pos ⟨rfl, rfl⟩, ec]
                   try rfl
                 · rw [ec] at z; omega
                 · rw [up1_at, if_pos ⟨rfl, rfl⟩]
                   unfold nx tln
                   rw [if_neg (by omega), if_pos hf0]
                   try rfl
                 · exact ((hF.up (by decide)).up (by decide)).up (by decide))
              | (have hle : j ≤ 2 → fgn T a = j := fun h2 => fgn_eq (by omega) hfg (Or.inr hnf)
                 have h3 : 3 ≤ j → fgn T a = 3 := fun h2 => fgn_eq (Nat.le_refl _) (fun i hi => hfg i (by omega)) (Or.inl rfl)
                 have haT : ¬ T.1 ≤ a := by have := (fg_lt (hfg 0 (by omega))).1; omega
                 have hj0 : 1 ≤ j := by omega
                 have et : tcd T a = if 3 ≤ j then 258 else 257 := by
                   unfold tcd
                   rw [if_neg haT]
                   by_cases q : 3 ≤ j
                   · rw [h3 q, if_neg (by decide), if_pos rfl, if_pos q]
                   · rw [hle (by omega), if_neg (by omega), if_neg (by omega), if_neg q]
                 refine ⟨rfl, ⟨?_, ?_, by omega, ?_, fun z => ?_, fun z => ?_, fun z => ?_⟩, hF.up (by decide)⟩
                 · exact ⟨by rw [up1_at, if_neg (by decide)]; exact p8, fun i hi => by rw [up1_ne _ _ _ (by decide)]; exact p40 i hi⟩
                 · rw [up1_at, if_neg (by decide)]; exact p13
                 · rw [up1_at, if_pos ⟨rfl, rfl⟩, et]
                   first
                     | (rw [if_pos (by omega)]; rfl)
                     | (rw [if_neg (by omega)]; rfl)
                 · rw [et] at z; split at z <;> omega
                 · rw [et] at z
                   rw [up1_at, if_neg (by decide), p12]
                   have hj2 : j ≤ 2 := by
                     rcases Nat.lt_or_ge 2 j with q | q
                     · rw [if_pos (by omega)] at z; omega
                     · exact q
                   unfold tvl
                   rw [hle hj2, hwv hj2]
                 · rw [et] at z
                   have hj2 : j ≤ 2 := by
                     rcases Nat.lt_or_ge 2 j with q | q
                     · rw [if_pos (by omega)] at z; omega
                     · exact q
                   rw [up1_at, if_neg (by decide), p10]
                   unfold nx tln
                   rw [if_neg haT, hle hj2, if_neg (by omega)])
          · refine y_iconst (a := 0) dX12_nextToken_144 rfl ?_
            refine x_goto 149 dX12_nextToken_145 ?_
            refine p_X12_94 dX12_nextToken_149 ?_
            refine x_goto 229 dX12_nextToken_152 ?_
            refine x_vret dX12_nextToken_229 ?_
            first
              | (exfalso; omega)
              | (have hj : j = 0 := by omega
                 subst hj
                 have e : a = T.1 := by
                   rcases Nat.lt_or_ge a T.1 with q | q
                   · rw [if_neg (by omega)] at h_159; exact absurd rfl h_159
                   · omega
                 have ec : tcd T a = 256 := by unfold tcd; rw [if_pos (by omega)]
                 exact ⟨rfl, ⟨hb1, p13, by omega, by rw [p11, ec, if_pos e]; rfl, fun z => by rw [ec] at z; omega, fun z => by rw [ec] at z; omega, fun _ => by rw [p10]; unfold nx tln; rw [if_pos (by omega)]⟩, hF⟩)
              | (subst hj
                 try simp only [Nat.add_zero] at hnf
                 try simp only [Nat.add_zero] at h_190
                 try simp only [Nat.add_zero] at h_199
                 try simp only [Nat.add_zero] at h_208
                 have e : ¬ a = T.1 := fun q => by rw [if_pos q] at h_159; omega
                 have hf0 : fgn T a = 0 := fgn_0 (by first | exact hnf | simpa using hnf)
                 have ec : tcd T a = T.2 a := by unfold tcd; rw [if_neg (by omega), if_pos hf0]
                 have hc := hTW.2 a (by omega)
                 have ek : tkv (T.2 a) = (if (97 ≤ T.2 a ∧ T.2 a ≤ 122) ∨ T.2 a = 44 ∨ T.2 a = 59 then 1 else 0) := by
                   unfold tkv; rw [if_neg (by omega), if_neg (by omega), if_neg (by omega)]
                 refine ⟨rfl, ⟨?_, ?_, by omega, ?_, fun _ => ?_, fun z => ?_, fun _ => ?_⟩, ?_⟩
                 · exact ⟨by rw [up1_at, if_neg (by decide), up1_at, if_neg (by decide), up1_at, if_neg (by decide)]; exact p8, fun i hi => by rw [up1_ne _ _ _ (by decide), up1_ne _ _ _ (by decide), up1_ne _ _ _ (by decide)]; exact p40 i hi⟩
                 · rw [up1_at, if_neg (by decide), up1_at, if_neg (by decide), up1_at, if_neg (by decide)]; exact p13
                 · rw [up1_at, if_neg (by decide), up1_at, if_pos ⟨rfl, rfl⟩, ec, ek]
                   first
                     | (rw [inB_n (by omega)] at h_190
                        simp only [decide_eq_true_eq] at h_190
                        rw [if_pos (by omega)])
                     | (rw [if_pos (by omega)])
                     | (rw [inB_n (by omega)] at h_190
                        simp only [decide_eq_false_iff_not] at h_190
                        rw [if_neg (by omega)])
                 · rw [up1_at, if_neg (by decide), up1_at, if_neg (by decide), up1_at, if_pos ⟨rfl, rfl⟩, ec]
                   try rfl
                 · rw [ec] at z; omega
                 · rw [up1_at, if_pos ⟨rfl, rfl⟩]
                   unfold nx tln
                   rw [if_neg (by omega), if_pos hf0]
                   try rfl
                 · exact ((hF.up (by decide)).up (by decide)).up (by decide))
              | (have hle : j ≤ 2 → fgn T a = j := fun h2 => fgn_eq (by omega) hfg (Or.inr hnf)
                 have h3 : 3 ≤ j → fgn T a = 3 := fun h2 => fgn_eq (Nat.le_refl _) (fun i hi => hfg i (by omega)) (Or.inl rfl)
                 have haT : ¬ T.1 ≤ a := by have := (fg_lt (hfg 0 (by omega))).1; omega
                 have hj0 : 1 ≤ j := by omega
                 have et : tcd T a = if 3 ≤ j then 258 else 257 := by
                   unfold tcd
                   rw [if_neg haT]
                   by_cases q : 3 ≤ j
                   · rw [h3 q, if_neg (by decide), if_pos rfl, if_pos q]
                   · rw [hle (by omega), if_neg (by omega), if_neg (by omega), if_neg q]
                 refine ⟨rfl, ⟨?_, ?_, by omega, ?_, fun z => ?_, fun z => ?_, fun z => ?_⟩, hF.up (by decide)⟩
                 · exact ⟨by rw [up1_at, if_neg (by decide)]; exact p8, fun i hi => by rw [up1_ne _ _ _ (by decide)]; exact p40 i hi⟩
                 · rw [up1_at, if_neg (by decide)]; exact p13
                 · rw [up1_at, if_pos ⟨rfl, rfl⟩, et]
                   first
                     | (rw [if_pos (by omega)]; rfl)
                     | (rw [if_neg (by omega)]; rfl)
                 · rw [et] at z; split at z <;> omega
                 · rw [et] at z
                   rw [up1_at, if_neg (by decide), p12]
                   have hj2 : j ≤ 2 := by
                     rcases Nat.lt_or_ge 2 j with q | q
                     · rw [if_pos (by omega)] at z; omega
                     · exact q
                   unfold tvl
                   rw [hle hj2, hwv hj2]
                 · rw [et] at z
                   have hj2 : j ≤ 2 := by
                     rcases Nat.lt_or_ge 2 j with q | q
                     · rw [if_pos (by omega)] at z; omega
                     · exact q
                   rw [up1_at, if_neg (by decide), p10]
                   unfold nx tln
                   rw [if_neg haT, hle hj2, if_neg (by omega)])
      · have hc := hTW.2 (a + j) (by omega)
        refine x_aload_n dX12_nextToken_44 rfl ?_
        refine g_X12_25 dX12_nextToken_45 ?_
        refine x_aload_n dX12_nextToken_48 rfl ?_
        refine g_X12_88 dX12_nextToken_49 ?_
        first
          | rw [p10]
          | rw [up1_at, if_pos ⟨rfl, rfl⟩]
          | rw [up1_at, if_neg (by decide), p10]
          | rw [up1_at, if_neg (by decide), up1_at, if_pos ⟨rfl, rfl⟩]
          | rw [up1_at, if_neg (by decide), up1_at, if_neg (by decide), p10]
          | rw [up1_at, if_neg (by decide), up1_at, if_neg (by decide), up1_at, if_pos ⟨rfl, rfl⟩]
          | rw [up1_at, if_neg (by decide), up1_at, if_neg (by decide), up1_at, if_neg (by decide), p10]
        refine x_ial dX12_nextToken_52 (⟨by decide, rfl, rfl, by decide⟩ : Ar 40 100) (by omega) ?_
        rw [p40 _ (by omega)]
        refine x_i2l dX12_nextToken_53 ?_
        refine x_ldc2 (v := lN 48) dX12_nextToken_54 k_X12_100 ?_
        refine x_ldc2 (v := lN 57) dX12_nextToken_57 k_X12_102 ?_
        refine q_X12_60 (m_inB (by decide) (by decide)) dX12_nextToken_60 rfl ?_
        rintro _ _ ⟨rfl, rfl⟩
        refine z_if_eq 119 dX12_nextToken_63 (fun h_63 => ?_) (fun h_63 => ?_)
        · have hnf : fg T (a + j) = false := by
            first
              | (rw [fg_dec (by omega)]; rw [inB_n (by omega)] at h_63; exact h_63)
              | (unfold fg; simp; omega)
          refine x_aload_n dX12_nextToken_119 rfl ?_
          refine g_X12_88 dX12_nextToken_120 ?_
          first
            | rw [p10]
            | rw [up1_at, if_pos ⟨rfl, rfl⟩]
            | rw [up1_at, if_neg (by decide), p10]
            | rw [up1_at, if_neg (by decide), up1_at, if_pos ⟨rfl, rfl⟩]
            | rw [up1_at, if_neg (by decide), up1_at, if_neg (by decide), p10]
            | rw [up1_at, if_neg (by decide), up1_at, if_neg (by decide), up1_at, if_pos ⟨rfl, rfl⟩]
            | rw [up1_at, if_neg (by decide), up1_at, if_neg (by decide), up1_at, if_neg (by decide), p10]
          refine x_aload_n dX12_nextToken_123 rfl ?_
          refine g_X12_91 dX12_nextToken_124 ?_
          first
            | rw [p13]
            | rw [up1_at, if_pos ⟨rfl, rfl⟩]
            | rw [up1_at, if_neg (by decide), p13]
            | rw [up1_at, if_neg (by decide), up1_at, if_pos ⟨rfl, rfl⟩]
            | rw [up1_at, if_neg (by decide), up1_at, if_neg (by decide), p13]
            | rw [up1_at, if_neg (by decide), up1_at, if_neg (by decide), up1_at, if_pos ⟨rfl, rfl⟩]
            | rw [up1_at, if_neg (by decide), up1_at, if_neg (by decide), up1_at, if_neg (by decide), p13]
          refine y_icmp_le 155 dX12_nextToken_127 (by omega) (by omega) (fun h_127 => ?_) (fun h_127 => ?_)
          · refine x_aload_n dX12_nextToken_155 rfl ?_
            refine g_X12_94 dX12_nextToken_156 ?_
            first
              | rw [p11]
              | rw [up1_at, if_pos ⟨rfl, rfl⟩]
              | rw [up1_at, if_neg (by decide), p11]
              | rw [up1_at, if_neg (by decide), up1_at, if_pos ⟨rfl, rfl⟩]
              | rw [up1_at, if_neg (by decide), up1_at, if_neg (by decide), p11]
              | rw [up1_at, if_neg (by decide), up1_at, if_neg (by decide), up1_at, if_pos ⟨rfl, rfl⟩]
              | rw [up1_at, if_neg (by decide), up1_at, if_neg (by decide), up1_at, if_neg (by decide), p11]
            have hspl : (if a = T.1 then 3 else 0) < 2 ^ 31 := by split <;> omega
            refine y_if_ne 229 dX12_nextToken_159 (by omega) (fun h_159 => ?_) (fun h_159 => ?_)
            · refine x_vret dX12_nextToken_229 ?_
              first
                | (exfalso; omega)
                | (have hj : j = 0 := by omega
                   subst hj
                   have e : a = T.1 := by
                     rcases Nat.lt_or_ge a T.1 with q | q
                     · rw [if_neg (by omega)] at h_159; exact absurd rfl h_159
                     · omega
                   have ec : tcd T a = 256 := by unfold tcd; rw [if_pos (by omega)]
                   exact ⟨rfl, ⟨hb1, p13, by omega, by rw [p11, ec, if_pos e]; rfl, fun z => by rw [ec] at z; omega, fun z => by rw [ec] at z; omega, fun _ => by rw [p10]; unfold nx tln; rw [if_pos (by omega)]⟩, hF⟩)
                | (subst hj
                   try simp only [Nat.add_zero] at hnf
                   try simp only [Nat.add_zero] at h_190
                   try simp only [Nat.add_zero] at h_199
                   try simp only [Nat.add_zero] at h_208
                   have e : ¬ a = T.1 := fun q => by rw [if_pos q] at h_159; omega
                   have hf0 : fgn T a = 0 := fgn_0 (by first | exact hnf | simpa using hnf)
                   have ec : tcd T a = T.2 a := by unfold tcd; rw [if_neg (by omega), if_pos hf0]
                   have hc := hTW.2 a (by omega)
                   have ek : tkv (T.2 a) = (if (97 ≤ T.2 a ∧ T.2 a ≤ 122) ∨ T.2 a = 44 ∨ T.2 a = 59 then 1 else 0) := by
                     unfold tkv; rw [if_neg (by omega), if_neg (by omega), if_neg (by omega)]
                   refine ⟨rfl, ⟨?_, ?_, by omega, ?_, fun _ => ?_, fun z => ?_, fun _ => ?_⟩, ?_⟩
                   · exact ⟨by rw [up1_at, if_neg (by decide), up1_at, if_neg (by decide), up1_at, if_neg (by decide)]; exact p8, fun i hi => by rw [up1_ne _ _ _ (by decide), up1_ne _ _ _ (by decide), up1_ne _ _ _ (by decide)]; exact p40 i hi⟩
                   · rw [up1_at, if_neg (by decide), up1_at, if_neg (by decide), up1_at, if_neg (by decide)]; exact p13
                   · rw [up1_at, if_neg (by decide), up1_at, if_pos ⟨rfl, rfl⟩, ec, ek]
                     first
                       | (rw [inB_n (by omega)] at h_190
                          simp only [decide_eq_true_eq] at h_190
                          rw [if_pos (by omega)])
                       | (rw [if_pos (by omega)])
                       | (rw [inB_n (by omega)] at h_190
                          simp only [decide_eq_false_iff_not] at h_190
                          rw [if_neg (by omega)])
                   · rw [up1_at, if_neg (by decide), up1_at, if_neg (by decide), up1_at, if_pos ⟨rfl, rfl⟩, ec]
                     try rfl
                   · rw [ec] at z; omega
                   · rw [up1_at, if_pos ⟨rfl, rfl⟩]
                     unfold nx tln
                     rw [if_neg (by omega), if_pos hf0]
                     try rfl
                   · exact ((hF.up (by decide)).up (by decide)).up (by decide))
                | (have hle : j ≤ 2 → fgn T a = j := fun h2 => fgn_eq (by omega) hfg (Or.inr hnf)
                   have h3 : 3 ≤ j → fgn T a = 3 := fun h2 => fgn_eq (Nat.le_refl _) (fun i hi => hfg i (by omega)) (Or.inl rfl)
                   have haT : ¬ T.1 ≤ a := by have := (fg_lt (hfg 0 (by omega))).1; omega
                   have hj0 : 1 ≤ j := by omega
                   have et : tcd T a = if 3 ≤ j then 258 else 257 := by
                     unfold tcd
                     rw [if_neg haT]
                     by_cases q : 3 ≤ j
                     · rw [h3 q, if_neg (by decide), if_pos rfl, if_pos q]
                     · rw [hle (by omega), if_neg (by omega), if_neg (by omega), if_neg q]
                   refine ⟨rfl, ⟨?_, ?_, by omega, ?_, fun z => ?_, fun z => ?_, fun z => ?_⟩, hF.up (by decide)⟩
                   · exact ⟨by rw [up1_at, if_neg (by decide)]; exact p8, fun i hi => by rw [up1_ne _ _ _ (by decide)]; exact p40 i hi⟩
                   · rw [up1_at, if_neg (by decide)]; exact p13
                   · rw [up1_at, if_pos ⟨rfl, rfl⟩, et]
                     first
                       | (rw [if_pos (by omega)]; rfl)
                       | (rw [if_neg (by omega)]; rfl)
                   · rw [et] at z; split at z <;> omega
                   · rw [et] at z
                     rw [up1_at, if_neg (by decide), p12]
                     have hj2 : j ≤ 2 := by
                       rcases Nat.lt_or_ge 2 j with q | q
                       · rw [if_pos (by omega)] at z; omega
                       · exact q
                     unfold tvl
                     rw [hle hj2, hwv hj2]
                   · rw [et] at z
                     have hj2 : j ≤ 2 := by
                       rcases Nat.lt_or_ge 2 j with q | q
                       · rw [if_pos (by omega)] at z; omega
                       · exact q
                     rw [up1_at, if_neg (by decide), p10]
                     unfold nx tln
                     rw [if_neg haT, hle hj2, if_neg (by omega)])
            · refine x_aload_n dX12_nextToken_162 rfl ?_
              refine x_aload_n dX12_nextToken_163 rfl ?_
              refine g_X12_25 dX12_nextToken_164 ?_
              refine x_aload_n dX12_nextToken_167 rfl ?_
              refine g_X12_88 dX12_nextToken_168 ?_
              first
                | rw [p10]
                | rw [up1_at, if_pos ⟨rfl, rfl⟩]
                | rw [up1_at, if_neg (by decide), p10]
                | rw [up1_at, if_neg (by decide), up1_at, if_pos ⟨rfl, rfl⟩]
                | rw [up1_at, if_neg (by decide), up1_at, if_neg (by decide), p10]
                | rw [up1_at, if_neg (by decide), up1_at, if_neg (by decide), up1_at, if_pos ⟨rfl, rfl⟩]
                | rw [up1_at, if_neg (by decide), up1_at, if_neg (by decide), up1_at, if_neg (by decide), p10]
              have hj : j = 0 := by omega
              have haT : a < T.1 := by
                rcases Nat.lt_or_ge a T.1 with q | q
                · exact q
                · rw [if_pos (by omega)] at h_159; omega
              have hc := hTW.2 a haT
              have hcj : T.2 (a + j) < 256 := hTW.2 _ (by omega)
              refine x_ial dX12_nextToken_171 (⟨by decide, rfl, rfl, by decide⟩ : Ar 40 100) (by omega) ?_
              rw [p40 _ (by omega)]
              refine p_X12_97 dX12_nextToken_172 ?_
              refine x_aload_n dX12_nextToken_175 rfl ?_
              refine x_aload_n dX12_nextToken_176 rfl ?_
              refine g_X12_97 dX12_nextToken_177 ?_
              first
                | rw [p12]
                | rw [up1_at, if_pos ⟨rfl, rfl⟩]
                | rw [up1_at, if_neg (by decide), p12]
                | rw [up1_at, if_neg (by decide), up1_at, if_pos ⟨rfl, rfl⟩]
                | rw [up1_at, if_neg (by decide), up1_at, if_neg (by decide), p12]
                | rw [up1_at, if_neg (by decide), up1_at, if_neg (by decide), up1_at, if_pos ⟨rfl, rfl⟩]
                | rw [up1_at, if_neg (by decide), up1_at, if_neg (by decide), up1_at, if_neg (by decide), p12]
              refine x_i2l dX12_nextToken_180 ?_
              refine x_ldc2 (v := lN 97) dX12_nextToken_181 k_X12_104 ?_
              refine x_ldc2 (v := lN 122) dX12_nextToken_184 k_X12_106 ?_
              refine q_X12_60 (m_inB (by decide) (by decide)) dX12_nextToken_187 rfl ?_
              rintro _ _ ⟨rfl, rfl⟩
              refine z_if_ne 211 dX12_nextToken_190 (fun h_190 => ?_) (fun h_190 => ?_)
              · refine y_iconst (a := 1) dX12_nextToken_211 rfl ?_
                refine x_goto 216 dX12_nextToken_212 ?_
                refine p_X12_94 dX12_nextToken_216 ?_
                refine x_aload_n dX12_nextToken_219 rfl ?_
                refine x_dup dX12_nextToken_220 rfl ?_
                refine g_X12_88 dX12_nextToken_221 ?_
                first
                  | rw [p10]
                  | rw [up1_at, if_pos ⟨rfl, rfl⟩]
                  | rw [up1_at, if_neg (by decide), p10]
                  | rw [up1_at, if_neg (by decide), up1_at, if_pos ⟨rfl, rfl⟩]
                  | rw [up1_at, if_neg (by decide), up1_at, if_neg (by decide), p10]
                  | rw [up1_at, if_neg (by decide), up1_at, if_neg (by decide), up1_at, if_pos ⟨rfl, rfl⟩]
                  | rw [up1_at, if_neg (by decide), up1_at, if_neg (by decide), up1_at, if_neg (by decide), p10]
                refine y_iconst (a := 1) dX12_nextToken_224 rfl ?_
                refine y_iadd dX12_nextToken_225 ?_
                refine p_X12_88 dX12_nextToken_226 ?_
                refine x_vret dX12_nextToken_229 ?_
                first
                  | (exfalso; omega)
                  | (have hj : j = 0 := by omega
                     subst hj
                     have e : a = T.1 := by
                       rcases Nat.lt_or_ge a T.1 with q | q
                       · rw [if_neg (by omega)] at h_159; exact absurd rfl h_159
                       · omega
                     have ec : tcd T a = 256 := by unfold tcd; rw [if_pos (by omega)]
                     exact ⟨rfl, ⟨hb1, p13, by omega, by rw [p11, ec, if_pos e]; rfl, fun z => by rw [ec] at z; omega, fun z => by rw [ec] at z; omega, fun _ => by rw [p10]; unfold nx tln; rw [if_pos (by omega)]⟩, hF⟩)
                  | (subst hj
                     try simp only [Nat.add_zero] at hnf
                     try simp only [Nat.add_zero] at h_190
                     try simp only [Nat.add_zero] at h_199
                     try simp only [Nat.add_zero] at h_208
                     have e : ¬ a = T.1 := fun q => by rw [if_pos q] at h_159; omega
                     have hf0 : fgn T a = 0 := fgn_0 (by first | exact hnf | simpa using hnf)
                     have ec : tcd T a = T.2 a := by unfold tcd; rw [if_neg (by omega), if_pos hf0]
                     have hc := hTW.2 a (by omega)
                     have ek : tkv (T.2 a) = (if (97 ≤ T.2 a ∧ T.2 a ≤ 122) ∨ T.2 a = 44 ∨ T.2 a = 59 then 1 else 0) := by
                       unfold tkv; rw [if_neg (by omega), if_neg (by omega), if_neg (by omega)]
                     refine ⟨rfl, ⟨?_, ?_, by omega, ?_, fun _ => ?_, fun z => ?_, fun _ => ?_⟩, ?_⟩
                     · exact ⟨by rw [up1_at, if_neg (by decide), up1_at, if_neg (by decide), up1_at, if_neg (by decide)]; exact p8, fun i hi => by rw [up1_ne _ _ _ (by decide), up1_ne _ _ _ (by decide), up1_ne _ _ _ (by decide)]; exact p40 i hi⟩
                     · rw [up1_at, if_neg (by decide), up1_at, if_neg (by decide), up1_at, if_neg (by decide)]; exact p13
                     · rw [up1_at, if_neg (by decide), up1_at, if_pos ⟨rfl, rfl⟩, ec, ek]
                       first
                         | (rw [inB_n (by omega)] at h_190
                            simp only [decide_eq_true_eq] at h_190
                            rw [if_pos (by omega)])
                         | (rw [if_pos (by omega)])
                         | (rw [inB_n (by omega)] at h_190
                            simp only [decide_eq_false_iff_not] at h_190
                            rw [if_neg (by omega)])
                     · rw [up1_at, if_neg (by decide), up1_at, if_neg (by decide), up1_at, if_pos ⟨rfl, rfl⟩, ec]
                       try rfl
                     · rw [ec] at z; omega
                     · rw [up1_at, if_pos ⟨rfl, rfl⟩]
                       unfold nx tln
                       rw [if_neg (by omega), if_pos hf0]
                       try rfl
                     · exact ((hF.up (by decide)).up (by decide)).up (by decide))
                  | (have hle : j ≤ 2 → fgn T a = j := fun h2 => fgn_eq (by omega) hfg (Or.inr hnf)
                     have h3 : 3 ≤ j → fgn T a = 3 := fun h2 => fgn_eq (Nat.le_refl _) (fun i hi => hfg i (by omega)) (Or.inl rfl)
                     have haT : ¬ T.1 ≤ a := by have := (fg_lt (hfg 0 (by omega))).1; omega
                     have hj0 : 1 ≤ j := by omega
                     have et : tcd T a = if 3 ≤ j then 258 else 257 := by
                       unfold tcd
                       rw [if_neg haT]
                       by_cases q : 3 ≤ j
                       · rw [h3 q, if_neg (by decide), if_pos rfl, if_pos q]
                       · rw [hle (by omega), if_neg (by omega), if_neg (by omega), if_neg q]
                     refine ⟨rfl, ⟨?_, ?_, by omega, ?_, fun z => ?_, fun z => ?_, fun z => ?_⟩, hF.up (by decide)⟩
                     · exact ⟨by rw [up1_at, if_neg (by decide)]; exact p8, fun i hi => by rw [up1_ne _ _ _ (by decide)]; exact p40 i hi⟩
                     · rw [up1_at, if_neg (by decide)]; exact p13
                     · rw [up1_at, if_pos ⟨rfl, rfl⟩, et]
                       first
                         | (rw [if_pos (by omega)]; rfl)
                         | (rw [if_neg (by omega)]; rfl)
                     · rw [et] at z; split at z <;> omega
                     · rw [et] at z
                       rw [up1_at, if_neg (by decide), p12]
                       have hj2 : j ≤ 2 := by
                         rcases Nat.lt_or_ge 2 j with q | q
                         · rw [if_pos (by omega)] at z; omega
                         · exact q
                       unfold tvl
                       rw [hle hj2, hwv hj2]
                     · rw [et] at z
                       have hj2 : j ≤ 2 := by
                         rcases Nat.lt_or_ge 2 j with q | q
                         · rw [if_pos (by omega)] at z; omega
                         · exact q
                       rw [up1_at, if_neg (by decide), p10]
                       unfold nx tln
                       rw [if_neg haT, hle hj2, if_neg (by omega)])
              · refine x_aload_n dX12_nextToken_193 rfl ?_
                refine g_X12_97 dX12_nextToken_194 ?_
                first
                  | rw [p12]
                  | rw [up1_at, if_pos ⟨rfl, rfl⟩]
                  | rw [up1_at, if_neg (by decide), p12]
                  | rw [up1_at, if_neg (by decide), up1_at, if_pos ⟨rfl, rfl⟩]
                  | rw [up1_at, if_neg (by decide), up1_at, if_neg (by decide), p12]
                  | rw [up1_at, if_neg (by decide), up1_at, if_neg (by decide), up1_at, if_pos ⟨rfl, rfl⟩]
                  | rw [up1_at, if_neg (by decide), up1_at, if_neg (by decide), up1_at, if_neg (by decide), p12]
                refine x_bipush (v := nI 44) dX12_nextToken_197 rfl ?_
                refine y_icmp_eq 211 dX12_nextToken_199 (by omega) (by omega) (fun h_199 => ?_) (fun h_199 => ?_)
                · refine y_iconst (a := 1) dX12_nextToken_211 rfl ?_
                  refine x_goto 216 dX12_nextToken_212 ?_
                  refine p_X12_94 dX12_nextToken_216 ?_
                  refine x_aload_n dX12_nextToken_219 rfl ?_
                  refine x_dup dX12_nextToken_220 rfl ?_
                  refine g_X12_88 dX12_nextToken_221 ?_
                  first
                    | rw [p10]
                    | rw [up1_at, if_pos ⟨rfl, rfl⟩]
                    | rw [up1_at, if_neg (by decide), p10]
                    | rw [up1_at, if_neg (by decide), up1_at, if_pos ⟨rfl, rfl⟩]
                    | rw [up1_at, if_neg (by decide), up1_at, if_neg (by decide), p10]
                    | rw [up1_at, if_neg (by decide), up1_at, if_neg (by decide), up1_at, if_pos ⟨rfl, rfl⟩]
                    | rw [up1_at, if_neg (by decide), up1_at, if_neg (by decide), up1_at, if_neg (by decide), p10]
                  refine y_iconst (a := 1) dX12_nextToken_224 rfl ?_
                  refine y_iadd dX12_nextToken_225 ?_
                  refine p_X12_88 dX12_nextToken_226 ?_
                  refine x_vret dX12_nextToken_229 ?_
                  first
                    | (exfalso; omega)
                    | (have hj : j = 0 := by omega
                       subst hj
                       have e : a = T.1 := by
                         rcases Nat.lt_or_ge a T.1 with q | q
                         · rw [if_neg (by omega)] at h_159; exact absurd rfl h_159
                         · omega
                       have ec : tcd T a = 256 := by unfold tcd; rw [if_pos (by omega)]
                       exact ⟨rfl, ⟨hb1, p13, by omega, by rw [p11, ec, if_pos e]; rfl, fun z => by rw [ec] at z; omega, fun z => by rw [ec] at z; omega, fun _ => by rw [p10]; unfold nx tln; rw [if_pos (by omega)]⟩, hF⟩)
                    | (subst hj
                       try simp only [Nat.add_zero] at hnf
                       try simp only [Nat.add_zero] at h_190
                       try simp only [Nat.add_zero] at h_199
                       try simp only [Nat.add_zero] at h_208
                       have e : ¬ a = T.1 := fun q => by rw [if_pos q] at h_159; omega
                       have hf0 : fgn T a = 0 := fgn_0 (by first | exact hnf | simpa using hnf)
                       have ec : tcd T a = T.2 a := by unfold tcd; rw [if_neg (by omega), if_pos hf0]
                       have hc := hTW.2 a (by omega)
                       have ek : tkv (T.2 a) = (if (97 ≤ T.2 a ∧ T.2 a ≤ 122) ∨ T.2 a = 44 ∨ T.2 a = 59 then 1 else 0) := by
                         unfold tkv; rw [if_neg (by omega), if_neg (by omega), if_neg (by omega)]
                       refine ⟨rfl, ⟨?_, ?_, by omega, ?_, fun _ => ?_, fun z => ?_, fun _ => ?_⟩, ?_⟩
                       · exact ⟨by rw [up1_at, if_neg (by decide), up1_at, if_neg (by decide), up1_at, if_neg (by decide)]; exact p8, fun i hi => by rw [up1_ne _ _ _ (by decide), up1_ne _ _ _ (by decide), up1_ne _ _ _ (by decide)]; exact p40 i hi⟩
                       · rw [up1_at, if_neg (by decide), up1_at, if_neg (by decide), up1_at, if_neg (by decide)]; exact p13
                       · rw [up1_at, if_neg (by decide), up1_at, if_pos ⟨rfl, rfl⟩, ec, ek]
                         first
                           | (rw [inB_n (by omega)] at h_190
                              simp only [decide_eq_true_eq] at h_190
                              rw [if_pos (by omega)])
                           | (rw [if_pos (by omega)])
                           | (rw [inB_n (by omega)] at h_190
                              simp only [decide_eq_false_iff_not] at h_190
                              rw [if_neg (by omega)])
                       · rw [up1_at, if_neg (by decide), up1_at, if_neg (by decide), up1_at, if_pos ⟨rfl, rfl⟩, ec]
                         try rfl
                       · rw [ec] at z; omega
                       · rw [up1_at, if_pos ⟨rfl, rfl⟩]
                         unfold nx tln
                         rw [if_neg (by omega), if_pos hf0]
                         try rfl
                       · exact ((hF.up (by decide)).up (by decide)).up (by decide))
                    | (have hle : j ≤ 2 → fgn T a = j := fun h2 => fgn_eq (by omega) hfg (Or.inr hnf)
                       have h3 : 3 ≤ j → fgn T a = 3 := fun h2 => fgn_eq (Nat.le_refl _) (fun i hi => hfg i (by omega)) (Or.inl rfl)
                       have haT : ¬ T.1 ≤ a := by have := (fg_lt (hfg 0 (by omega))).1; omega
                       have hj0 : 1 ≤ j := by omega
                       have et : tcd T a = if 3 ≤ j then 258 else 257 := by
                         unfold tcd
                         rw [if_neg haT]
                         by_cases q : 3 ≤ j
                         · rw [h3 q, if_neg (by decide), if_pos rfl, if_pos q]
                         · rw [hle (by omega), if_neg (by omega), if_neg (by omega), if_neg q]
                       refine ⟨rfl, ⟨?_, ?_, by omega, ?_, fun z => ?_, fun z => ?_, fun z => ?_⟩, hF.up (by decide)⟩
                       · exact ⟨by rw [up1_at, if_neg (by decide)]; exact p8, fun i hi => by rw [up1_ne _ _ _ (by decide)]; exact p40 i hi⟩
                       · rw [up1_at, if_neg (by decide)]; exact p13
                       · rw [up1_at, if_pos ⟨rfl, rfl⟩, et]
                         first
                           | (rw [if_pos (by omega)]; rfl)
                           | (rw [if_neg (by omega)]; rfl)
                       · rw [et] at z; split at z <;> omega
                       · rw [et] at z
                         rw [up1_at, if_neg (by decide), p12]
                         have hj2 : j ≤ 2 := by
                           rcases Nat.lt_or_ge 2 j with q | q
                           · rw [if_pos (by omega)] at z; omega
                           · exact q
                         unfold tvl
                         rw [hle hj2, hwv hj2]
                       · rw [et] at z
                         have hj2 : j ≤ 2 := by
                           rcases Nat.lt_or_ge 2 j with q | q
                           · rw [if_pos (by omega)] at z; omega
                           · exact q
                         rw [up1_at, if_neg (by decide), p10]
                         unfold nx tln
                         rw [if_neg haT, hle hj2, if_neg (by omega)])
                · refine x_aload_n dX12_nextToken_202 rfl ?_
                  refine g_X12_97 dX12_nextToken_203 ?_
                  first
                    | rw [p12]
                    | rw [up1_at, if_pos ⟨rfl, rfl⟩]
                    | rw [up1_at, if_neg (by decide), p12]
                    | rw [up1_at, if_neg (by decide), up1_at, if_pos ⟨rfl, rfl⟩]
                    | rw [up1_at, if_neg (by decide), up1_at, if_neg (by decide), p12]
                    | rw [up1_at, if_neg (by decide), up1_at, if_neg (by decide), up1_at, if_pos ⟨rfl, rfl⟩]
                    | rw [up1_at, if_neg (by decide), up1_at, if_neg (by decide), up1_at, if_neg (by decide), p12]
                  refine x_bipush (v := nI 59) dX12_nextToken_206 rfl ?_
                  refine y_icmp_ne 215 dX12_nextToken_208 (by omega) (by omega) (fun h_208 => ?_) (fun h_208 => ?_)
                  · refine y_iconst (a := 0) dX12_nextToken_215 rfl ?_
                    refine p_X12_94 dX12_nextToken_216 ?_
                    refine x_aload_n dX12_nextToken_219 rfl ?_
                    refine x_dup dX12_nextToken_220 rfl ?_
                    refine g_X12_88 dX12_nextToken_221 ?_
                    first
                      | rw [p10]
                      | rw [up1_at, if_pos ⟨rfl, rfl⟩]
                      | rw [up1_at, if_neg (by decide), p10]
                      | rw [up1_at, if_neg (by decide), up1_at, if_pos ⟨rfl, rfl⟩]
                      | rw [up1_at, if_neg (by decide), up1_at, if_neg (by decide), p10]
                      | rw [up1_at, if_neg (by decide), up1_at, if_neg (by decide), up1_at, if_pos ⟨rfl, rfl⟩]
                      | rw [up1_at, if_neg (by decide), up1_at, if_neg (by decide), up1_at, if_neg (by decide), p10]
                    refine y_iconst (a := 1) dX12_nextToken_224 rfl ?_
                    refine y_iadd dX12_nextToken_225 ?_
                    refine p_X12_88 dX12_nextToken_226 ?_
                    refine x_vret dX12_nextToken_229 ?_
                    first
                      | (exfalso; omega)
                      | (have hj : j = 0 := by omega
                         subst hj
                         have e : a = T.1 := by
                           rcases Nat.lt_or_ge a T.1 with q | q
                           · rw [if_neg (by omega)] at h_159; exact absurd rfl h_159
                           · omega
                         have ec : tcd T a = 256 := by unfold tcd; rw [if_pos (by omega)]
                         exact ⟨rfl, ⟨hb1, p13, by omega, by rw [p11, ec, if_pos e]; rfl, fun z => by rw [ec] at z; omega, fun z => by rw [ec] at z; omega, fun _ => by rw [p10]; unfold nx tln; rw [if_pos (by omega)]⟩, hF⟩)
                      | (subst hj
                         try simp only [Nat.add_zero] at hnf
                         try simp only [Nat.add_zero] at h_190
                         try simp only [Nat.add_zero] at h_199
                         try simp only [Nat.add_zero] at h_208
                         have e : ¬ a = T.1 := fun q => by rw [if_pos q] at h_159; omega
                         have hf0 : fgn T a = 0 := fgn_0 (by first | exact hnf | simpa using hnf)
                         have ec : tcd T a = T.2 a := by unfold tcd; rw [if_neg (by omega), if_pos hf0]
                         have hc := hTW.2 a (by omega)
                         have ek : tkv (T.2 a) = (if (97 ≤ T.2 a ∧ T.2 a ≤ 122) ∨ T.2 a = 44 ∨ T.2 a = 59 then 1 else 0) := by
                           unfold tkv; rw [if_neg (by omega), if_neg (by omega), if_neg (by omega)]
                         refine ⟨rfl, ⟨?_, ?_, by omega, ?_, fun _ => ?_, fun z => ?_, fun _ => ?_⟩, ?_⟩
                         · exact ⟨by rw [up1_at, if_neg (by decide), up1_at, if_neg (by decide), up1_at, if_neg (by decide)]; exact p8, fun i hi => by rw [up1_ne _ _ _ (by decide), up1_ne _ _ _ (by decide), up1_ne _ _ _ (by decide)]; exact p40 i hi⟩
                         · rw [up1_at, if_neg (by decide), up1_at, if_neg (by decide), up1_at, if_neg (by decide)]; exact p13
                         · rw [up1_at, if_neg (by decide), up1_at, if_pos ⟨rfl, rfl⟩, ec, ek]
                           first
                             | (rw [inB_n (by omega)] at h_190
                                simp only [decide_eq_true_eq] at h_190
                                rw [if_pos (by omega)])
                             | (rw [if_pos (by omega)])
                             | (rw [inB_n (by omega)] at h_190
                                simp only [decide_eq_false_iff_not] at h_190
                                rw [if_neg (by omega)])
                         · rw [up1_at, if_neg (by decide), up1_at, if_neg (by decide), up1_at, if_pos ⟨rfl, rfl⟩, ec]
                           try rfl
                         · rw [ec] at z; omega
                         · rw [up1_at, if_pos ⟨rfl, rfl⟩]
                           unfold nx tln
                           rw [if_neg (by omega), if_pos hf0]
                           try rfl
                         · exact ((hF.up (by decide)).up (by decide)).up (by decide))
                      | (have hle : j ≤ 2 → fgn T a = j := fun h2 => fgn_eq (by omega) hfg (Or.inr hnf)
                         have h3 : 3 ≤ j → fgn T a = 3 := fun h2 => fgn_eq (Nat.le_refl _) (fun i hi => hfg i (by omega)) (Or.inl rfl)
                         have haT : ¬ T.1 ≤ a := by have := (fg_lt (hfg 0 (by omega))).1; omega
                         have hj0 : 1 ≤ j := by omega
                         have et : tcd T a = if 3 ≤ j then 258 else 257 := by
                           unfold tcd
                           rw [if_neg haT]
                           by_cases q : 3 ≤ j
                           · rw [h3 q, if_neg (by decide), if_pos rfl, if_pos q]
                           · rw [hle (by omega), if_neg (by omega), if_neg (by omega), if_neg q]
                         refine ⟨rfl, ⟨?_, ?_, by omega, ?_, fun z => ?_, fun z => ?_, fun z => ?_⟩, hF.up (by decide)⟩
                         · exact ⟨by rw [up1_at, if_neg (by decide)]; exact p8, fun i hi => by rw [up1_ne _ _ _ (by decide)]; exact p40 i hi⟩
                         · rw [up1_at, if_neg (by decide)]; exact p13
                         · rw [up1_at, if_pos ⟨rfl, rfl⟩, et]
                           first
                             | (rw [if_pos (by omega)]; rfl)
                             | (rw [if_neg (by omega)]; rfl)
                         · rw [et] at z; split at z <;> omega
                         · rw [et] at z
                           rw [up1_at, if_neg (by decide), p12]
                           have hj2 : j ≤ 2 := by
                             rcases Nat.lt_or_ge 2 j with q | q
                             · rw [if_pos (by omega)] at z; omega
                             · exact q
                           unfold tvl
                           rw [hle hj2, hwv hj2]
                         · rw [et] at z
                           have hj2 : j ≤ 2 := by
                             rcases Nat.lt_or_ge 2 j with q | q
                             · rw [if_pos (by omega)] at z; omega
                             · exact q
                           rw [up1_at, if_neg (by decide), p10]
                           unfold nx tln
                           rw [if_neg haT, hle hj2, if_neg (by omega)])
                  · refine y_iconst (a := 1) dX12_nextToken_211 rfl ?_
                    refine x_goto 216 dX12_nextToken_212 ?_
                    refine p_X12_94 dX12_nextToken_216 ?_
                    refine x_aload_n dX12_nextToken_219 rfl ?_
                    refine x_dup dX12_nextToken_220 rfl ?_
                    refine g_X12_88 dX12_nextToken_221 ?_
                    first
                      | rw [p10]
                      | rw [up1_at, if_pos ⟨rfl, rfl⟩]
                      | rw [up1_at, if_neg (by decide), p10]
                      | rw [up1_at, if_neg (by decide), up1_at, if_pos ⟨rfl, rfl⟩]
                      | rw [up1_at, if_neg (by decide), up1_at, if_neg (by decide), p10]
                      | rw [up1_at, if_neg (by decide), up1_at, if_neg (by decide), up1_at, if_pos ⟨rfl, rfl⟩]
                      | rw [up1_at, if_neg (by decide), up1_at, if_neg (by decide), up1_at, if_neg (by decide), p10]
                    refine y_iconst (a := 1) dX12_nextToken_224 rfl ?_
                    refine y_iadd dX12_nextToken_225 ?_
                    refine p_X12_88 dX12_nextToken_226 ?_
                    refine x_vret dX12_nextToken_229 ?_
                    first
                      | (exfalso; omega)
                      | (have hj : j = 0 := by omega
                         subst hj
                         have e : a = T.1 := by
                           rcases Nat.lt_or_ge a T.1 with q | q
                           · rw [if_neg (by omega)] at h_159; exact absurd rfl h_159
                           · omega
                         have ec : tcd T a = 256 := by unfold tcd; rw [if_pos (by omega)]
                         exact ⟨rfl, ⟨hb1, p13, by omega, by rw [p11, ec, if_pos e]; rfl, fun z => by rw [ec] at z; omega, fun z => by rw [ec] at z; omega, fun _ => by rw [p10]; unfold nx tln; rw [if_pos (by omega)]⟩, hF⟩)
                      | (subst hj
                         try simp only [Nat.add_zero] at hnf
                         try simp only [Nat.add_zero] at h_190
                         try simp only [Nat.add_zero] at h_199
                         try simp only [Nat.add_zero] at h_208
                         have e : ¬ a = T.1 := fun q => by rw [if_pos q] at h_159; omega
                         have hf0 : fgn T a = 0 := fgn_0 (by first | exact hnf | simpa using hnf)
                         have ec : tcd T a = T.2 a := by unfold tcd; rw [if_neg (by omega), if_pos hf0]
                         have hc := hTW.2 a (by omega)
                         have ek : tkv (T.2 a) = (if (97 ≤ T.2 a ∧ T.2 a ≤ 122) ∨ T.2 a = 44 ∨ T.2 a = 59 then 1 else 0) := by
                           unfold tkv; rw [if_neg (by omega), if_neg (by omega), if_neg (by omega)]
                         refine ⟨rfl, ⟨?_, ?_, by omega, ?_, fun _ => ?_, fun z => ?_, fun _ => ?_⟩, ?_⟩
                         · exact ⟨by rw [up1_at, if_neg (by decide), up1_at, if_neg (by decide), up1_at, if_neg (by decide)]; exact p8, fun i hi => by rw [up1_ne _ _ _ (by decide), up1_ne _ _ _ (by decide), up1_ne _ _ _ (by decide)]; exact p40 i hi⟩
                         · rw [up1_at, if_neg (by decide), up1_at, if_neg (by decide), up1_at, if_neg (by decide)]; exact p13
                         · rw [up1_at, if_neg (by decide), up1_at, if_pos ⟨rfl, rfl⟩, ec, ek]
                           first
                             | (rw [inB_n (by omega)] at h_190
                                simp only [decide_eq_true_eq] at h_190
                                rw [if_pos (by omega)])
                             | (rw [if_pos (by omega)])
                             | (rw [inB_n (by omega)] at h_190
                                simp only [decide_eq_false_iff_not] at h_190
                                rw [if_neg (by omega)])
                         · rw [up1_at, if_neg (by decide), up1_at, if_neg (by decide), up1_at, if_pos ⟨rfl, rfl⟩, ec]
                           try rfl
                         · rw [ec] at z; omega
                         · rw [up1_at, if_pos ⟨rfl, rfl⟩]
                           unfold nx tln
                           rw [if_neg (by omega), if_pos hf0]
                           try rfl
                         · exact ((hF.up (by decide)).up (by decide)).up (by decide))
                      | (have hle : j ≤ 2 → fgn T a = j := fun h2 => fgn_eq (by omega) hfg (Or.inr hnf)
                         have h3 : 3 ≤ j → fgn T a = 3 := fun h2 => fgn_eq (Nat.le_refl _) (fun i hi => hfg i (by omega)) (Or.inl rfl)
                         have haT : ¬ T.1 ≤ a := by have := (fg_lt (hfg 0 (by omega))).1; omega
                         have hj0 : 1 ≤ j := by omega
                         have et : tcd T a = if 3 ≤ j then 258 else 257 := by
                           unfold tcd
                           rw [if_neg haT]
                           by_cases q : 3 ≤ j
                           · rw [h3 q, if_neg (by decide), if_pos rfl, if_pos q]
                           · rw [hle (by omega), if_neg (by omega), if_neg (by omega), if_neg q]
                         refine ⟨rfl, ⟨?_, ?_, by omega, ?_, fun z => ?_, fun z => ?_, fun z => ?_⟩, hF.up (by decide)⟩
                         · exact ⟨by rw [up1_at, if_neg (by decide)]; exact p8, fun i hi => by rw [up1_ne _ _ _ (by decide)]; exact p40 i hi⟩
                         · rw [up1_at, if_neg (by decide)]; exact p13
                         · rw [up1_at, if_pos ⟨rfl, rfl⟩, et]
                           first
                             | (rw [if_pos (by omega)]; rfl)
                             | (rw [if_neg (by omega)]; rfl)
                         · rw [et] at z; split at z <;> omega
                         · rw [et] at z
                           rw [up1_at, if_neg (by decide), p12]
                           have hj2 : j ≤ 2 := by
                             rcases Nat.lt_or_ge 2 j with q | q
                             · rw [if_pos (by omega)] at z; omega
                             · exact q
                           unfold tvl
                           rw [hle hj2, hwv hj2]
                         · rw [et] at z
                           have hj2 : j ≤ 2 := by
                             rcases Nat.lt_or_ge 2 j with q | q
                             · rw [if_pos (by omega)] at z; omega
                             · exact q
                           rw [up1_at, if_neg (by decide), p10]
                           unfold nx tln
                           rw [if_neg haT, hle hj2, if_neg (by omega)])
          · refine x_aload_n dX12_nextToken_130 rfl ?_
            refine x_aload_n dX12_nextToken_131 rfl ?_
            refine g_X12_88 dX12_nextToken_132 ?_
            first
              | rw [p10]
              | rw [up1_at, if_pos ⟨rfl, rfl⟩]
              | rw [up1_at, if_neg (by decide), p10]
              | rw [up1_at, if_neg (by decide), up1_at, if_pos ⟨rfl, rfl⟩]
              | rw [up1_at, if_neg (by decide), up1_at, if_neg (by decide), p10]
              | rw [up1_at, if_neg (by decide), up1_at, if_neg (by decide), up1_at, if_pos ⟨rfl, rfl⟩]
              | rw [up1_at, if_neg (by decide), up1_at, if_neg (by decide), up1_at, if_neg (by decide), p10]
            refine x_aload_n dX12_nextToken_135 rfl ?_
            refine g_X12_91 dX12_nextToken_136 ?_
            first
              | rw [p13]
              | rw [up1_at, if_pos ⟨rfl, rfl⟩]
              | rw [up1_at, if_neg (by decide), p13]
              | rw [up1_at, if_neg (by decide), up1_at, if_pos ⟨rfl, rfl⟩]
              | rw [up1_at, if_neg (by decide), up1_at, if_neg (by decide), p13]
              | rw [up1_at, if_neg (by decide), up1_at, if_neg (by decide), up1_at, if_pos ⟨rfl, rfl⟩]
              | rw [up1_at, if_neg (by decide), up1_at, if_neg (by decide), up1_at, if_neg (by decide), p13]
            refine y_isub dX12_nextToken_139 (by omega) ?_
            refine y_iconst (a := 2) dX12_nextToken_140 rfl ?_
            refine y_icmp_le 148 dX12_nextToken_141 (by omega) (by omega) (fun h_141 => ?_) (fun h_141 => ?_)
            · refine y_iconst (a := 2) dX12_nextToken_148 rfl ?_
              refine p_X12_94 dX12_nextToken_149 ?_
              refine x_goto 229 dX12_nextToken_152 ?_
              refine x_vret dX12_nextToken_229 ?_
              first
                | (exfalso; omega)
                | (have hj : j = 0 := by omega
                   subst hj
                   have e : a = T.1 := by
                     rcases Nat.lt_or_ge a T.1 with q | q
                     · rw [if_neg (by omega)] at h_159; exact absurd rfl h_159
                     · omega
                   have ec : tcd T a = 256 := by unfold tcd; rw [if_pos (by omega)]
                   exact ⟨rfl, ⟨hb1, p13, by omega, by rw [p11, ec, if_pos e]; rfl, fun z => by rw [ec] at z; omega, fun z => by rw [ec] at z; omega, fun _ => by rw [p10]; unfold nx tln; rw [if_pos (by omega)]⟩, hF⟩)
                | (subst hj
                   try simp only [Nat.add_zero] at hnf
                   try simp only [Nat.add_zero] at h_190
                   try simp only [Nat.add_zero] at h_199
                   try simp only [Nat.add_zero] at h_208
                   have e : ¬ a = T.1 := fun q => by rw [if_pos q] at h_159; omega
                   have hf0 : fgn T a = 0 := fgn_0 (by first | exact hnf | simpa using hnf)
                   have ec : tcd T a = T.2 a := by unfold tcd; rw [if_neg (by omega), if_pos hf0]
                   have hc := hTW.2 a (by omega)
                   have ek : tkv (T.2 a) = (if (97 ≤ T.2 a ∧ T.2 a ≤ 122) ∨ T.2 a = 44 ∨ T.2 a = 59 then 1 else 0) := by
                     unfold tkv; rw [if_neg (by omega), if_neg (by omega), if_neg (by omega)]
                   refine ⟨rfl, ⟨?_, ?_, by omega, ?_, fun _ => ?_, fun z => ?_, fun _ => ?_⟩, ?_⟩
                   · exact ⟨by rw [up1_at, if_neg (by decide), up1_at, if_neg (by decide), up1_at, if_neg (by decide)]; exact p8, fun i hi => by rw [up1_ne _ _ _ (by decide), up1_ne _ _ _ (by decide), up1_ne _ _ _ (by decide)]; exact p40 i hi⟩
                   · rw [up1_at, if_neg (by decide), up1_at, if_neg (by decide), up1_at, if_neg (by decide)]; exact p13
                   · rw [up1_at, if_neg (by decide), up1_at, if_pos ⟨rfl, rfl⟩, ec, ek]
                     first
                       | (rw [inB_n (by omega)] at h_190
                          simp only [decide_eq_true_eq] at h_190
                          rw [if_pos (by omega)])
                       | (rw [if_pos (by omega)])
                       | (rw [inB_n (by omega)] at h_190
                          simp only [decide_eq_false_iff_not] at h_190
                          rw [if_neg (by omega)])
                   · rw [up1_at, if_neg (by decide), up1_at, if_neg (by decide), up1_at, if_pos ⟨rfl, rfl⟩, ec]
                     try rfl
                   · rw [ec] at z; omega
                   · rw [up1_at, if_pos ⟨rfl, rfl⟩]
                     unfold nx tln
                     rw [if_neg (by omega), if_pos hf0]
                     try rfl
                   · exact ((hF.up (by decide)).up (by decide)).up (by decide))
                | (have hle : j ≤ 2 → fgn T a = j := fun h2 => fgn_eq (by omega) hfg (Or.inr hnf)
                   have h3 : 3 ≤ j → fgn T a = 3 := fun h2 => fgn_eq (Nat.le_refl _) (fun i hi => hfg i (by omega)) (Or.inl rfl)
                   have haT : ¬ T.1 ≤ a := by have := (fg_lt (hfg 0 (by omega))).1; omega
                   have hj0 : 1 ≤ j := by omega
                   have et : tcd T a = if 3 ≤ j then 258 else 257 := by
                     unfold tcd
                     rw [if_neg haT]
                     by_cases q : 3 ≤ j
                     · rw [h3 q, if_neg (by decide), if_pos rfl, if_pos q]
                     · rw [hle (by omega), if_neg (by omega), if_neg (by omega), if_neg q]
                   refine ⟨rfl, ⟨?_, ?_, by omega, ?_, fun z => ?_, fun z => ?_, fun z => ?_⟩, hF.up (by decide)⟩
                   · exact ⟨by rw [up1_at, if_neg (by decide)]; exact p8, fun i hi => by rw [up1_ne _ _ _ (by decide)]; exact p40 i hi⟩
                   · rw [up1_at, if_neg (by decide)]; exact p13
                   · rw [up1_at, if_pos ⟨rfl, rfl⟩, et]
                     first
                       | (rw [if_pos (by omega)]; rfl)
                       | (rw [if_neg (by omega)]; rfl)
                   · rw [et] at z; split at z <;> omega
                   · rw [et] at z
                     rw [up1_at, if_neg (by decide), p12]
                     have hj2 : j ≤ 2 := by
                       rcases Nat.lt_or_ge 2 j with q | q
                       · rw [if_pos (by omega)] at z; omega
                       · exact q
                     unfold tvl
                     rw [hle hj2, hwv hj2]
                   · rw [et] at z
                     have hj2 : j ≤ 2 := by
                       rcases Nat.lt_or_ge 2 j with q | q
                       · rw [if_pos (by omega)] at z; omega
                       · exact q
                     rw [up1_at, if_neg (by decide), p10]
                     unfold nx tln
                     rw [if_neg haT, hle hj2, if_neg (by omega)])
            · refine y_iconst (a := 0) dX12_nextToken_144 rfl ?_
              refine x_goto 149 dX12_nextToken_145 ?_
              refine p_X12_94 dX12_nextToken_149 ?_
              refine x_goto 229 dX12_nextToken_152 ?_
              refine x_vret dX12_nextToken_229 ?_
              first
                | (exfalso; omega)
                | (have hj : j = 0 := by omega
                   subst hj
                   have e : a = T.1 := by
                     rcases Nat.lt_or_ge a T.1 with q | q
                     · rw [if_neg (by omega)] at h_159; exact absurd rfl h_159
                     · omega
                   have ec : tcd T a = 256 := by unfold tcd; rw [if_pos (by omega)]
                   exact ⟨rfl, ⟨hb1, p13, by omega, by rw [p11, ec, if_pos e]; rfl, fun z => by rw [ec] at z; omega, fun z => by rw [ec] at z; omega, fun _ => by rw [p10]; unfold nx tln; rw [if_pos (by omega)]⟩, hF⟩)
                | (subst hj
                   try simp only [Nat.add_zero] at hnf
                   try simp only [Nat.add_zero] at h_190
                   try simp only [Nat.add_zero] at h_199
                   try simp only [Nat.add_zero] at h_208
                   have e : ¬ a = T.1 := fun q => by rw [if_pos q] at h_159; omega
                   have hf0 : fgn T a = 0 := fgn_0 (by first | exact hnf | simpa using hnf)
                   have ec : tcd T a = T.2 a := by unfold tcd; rw [if_neg (by omega), if_pos hf0]
                   have hc := hTW.2 a (by omega)
                   have ek : tkv (T.2 a) = (if (97 ≤ T.2 a ∧ T.2 a ≤ 122) ∨ T.2 a = 44 ∨ T.2 a = 59 then 1 else 0) := by
                     unfold tkv; rw [if_neg (by omega), if_neg (by omega), if_neg (by omega)]
                   refine ⟨rfl, ⟨?_, ?_, by omega, ?_, fun _ => ?_, fun z => ?_, fun _ => ?_⟩, ?_⟩
                   · exact ⟨by rw [up1_at, if_neg (by decide), up1_at, if_neg (by decide), up1_at, if_neg (by decide)]; exact p8, fun i hi => by rw [up1_ne _ _ _ (by decide), up1_ne _ _ _ (by decide), up1_ne _ _ _ (by decide)]; exact p40 i hi⟩
                   · rw [up1_at, if_neg (by decide), up1_at, if_neg (by decide), up1_at, if_neg (by decide)]; exact p13
                   · rw [up1_at, if_neg (by decide), up1_at, if_pos ⟨rfl, rfl⟩, ec, ek]
                     first
                       | (rw [inB_n (by omega)] at h_190
                          simp only [decide_eq_true_eq] at h_190
                          rw [if_pos (by omega)])
                       | (rw [if_pos (by omega)])
                       | (rw [inB_n (by omega)] at h_190
                          simp only [decide_eq_false_iff_not] at h_190
                          rw [if_neg (by omega)])
                   · rw [up1_at, if_neg (by decide), up1_at, if_neg (by decide), up1_at, if_pos ⟨rfl, rfl⟩, ec]
                     try rfl
                   · rw [ec] at z; omega
                   · rw [up1_at, if_pos ⟨rfl, rfl⟩]
                     unfold nx tln
                     rw [if_neg (by omega), if_pos hf0]
                     try rfl
                   · exact ((hF.up (by decide)).up (by decide)).up (by decide))
                | (have hle : j ≤ 2 → fgn T a = j := fun h2 => fgn_eq (by omega) hfg (Or.inr hnf)
                   have h3 : 3 ≤ j → fgn T a = 3 := fun h2 => fgn_eq (Nat.le_refl _) (fun i hi => hfg i (by omega)) (Or.inl rfl)
                   have haT : ¬ T.1 ≤ a := by have := (fg_lt (hfg 0 (by omega))).1; omega
                   have hj0 : 1 ≤ j := by omega
                   have et : tcd T a = if 3 ≤ j then 258 else 257 := by
                     unfold tcd
                     rw [if_neg haT]
                     by_cases q : 3 ≤ j
                     · rw [h3 q, if_neg (by decide), if_pos rfl, if_pos q]
                     · rw [hle (by omega), if_neg (by omega), if_neg (by omega), if_neg q]
                   refine ⟨rfl, ⟨?_, ?_, by omega, ?_, fun z => ?_, fun z => ?_, fun z => ?_⟩, hF.up (by decide)⟩
                   · exact ⟨by rw [up1_at, if_neg (by decide)]; exact p8, fun i hi => by rw [up1_ne _ _ _ (by decide)]; exact p40 i hi⟩
                   · rw [up1_at, if_neg (by decide)]; exact p13
                   · rw [up1_at, if_pos ⟨rfl, rfl⟩, et]
                     first
                       | (rw [if_pos (by omega)]; rfl)
                       | (rw [if_neg (by omega)]; rfl)
                   · rw [et] at z; split at z <;> omega
                   · rw [et] at z
                     rw [up1_at, if_neg (by decide), p12]
                     have hj2 : j ≤ 2 := by
                       rcases Nat.lt_or_ge 2 j with q | q
                       · rw [if_pos (by omega)] at z; omega
                       · exact q
                     unfold tvl
                     rw [hle hj2, hwv hj2]
                   · rw [et] at z
                     have hj2 : j ≤ 2 := by
                       rcases Nat.lt_or_ge 2 j with q | q
                       · rw [if_pos (by omega)] at z; omega
                       · exact q
                     rw [up1_at, if_neg (by decide), p10]
                     unfold nx tln
                     rw [if_neg haT, hle hj2, if_neg (by omega)])
        · refine x_aload_n dX12_nextToken_66 rfl ?_
          refine x_aload_n dX12_nextToken_67 rfl ?_
          refine g_X12_97 dX12_nextToken_68 ?_
          first
            | rw [p12]
            | rw [up1_at, if_pos ⟨rfl, rfl⟩]
            | rw [up1_at, if_neg (by decide), p12]
            | rw [up1_at, if_neg (by decide), up1_at, if_pos ⟨rfl, rfl⟩]
            | rw [up1_at, if_neg (by decide), up1_at, if_neg (by decide), p12]
            | rw [up1_at, if_neg (by decide), up1_at, if_neg (by decide), up1_at, if_pos ⟨rfl, rfl⟩]
            | rw [up1_at, if_neg (by decide), up1_at, if_neg (by decide), up1_at, if_neg (by decide), p12]
          refine x_bipush (v := nI 99) dX12_nextToken_71 rfl ?_
          refine y_icmp_le 83 dX12_nextToken_73 (by omega) (by omega) (fun h_73 => ?_) (fun h_73 => ?_)
          · refine x_bipush (v := nI 10) dX12_nextToken_83 rfl ?_
            refine x_aload_n dX12_nextToken_85 rfl ?_
            refine g_X12_97 dX12_nextToken_86 ?_
            first
              | rw [p12]
              | rw [up1_at, if_pos ⟨rfl, rfl⟩]
              | rw [up1_at, if_neg (by decide), p12]
              | rw [up1_at, if_neg (by decide), up1_at, if_pos ⟨rfl, rfl⟩]
              | rw [up1_at, if_neg (by decide), up1_at, if_neg (by decide), p12]
              | rw [up1_at, if_neg (by decide), up1_at, if_neg (by decide), up1_at, if_pos ⟨rfl, rfl⟩]
              | rw [up1_at, if_neg (by decide), up1_at, if_neg (by decide), up1_at, if_neg (by decide), p12]
            refine y_imul dX12_nextToken_89 ?_
            refine x_aload_n dX12_nextToken_90 rfl ?_
            refine g_X12_25 dX12_nextToken_91 ?_
            refine x_aload_n dX12_nextToken_94 rfl ?_
            refine g_X12_88 dX12_nextToken_95 ?_
            first
              | rw [p10]
              | rw [up1_at, if_pos ⟨rfl, rfl⟩]
              | rw [up1_at, if_neg (by decide), p10]
              | rw [up1_at, if_neg (by decide), up1_at, if_pos ⟨rfl, rfl⟩]
              | rw [up1_at, if_neg (by decide), up1_at, if_neg (by decide), p10]
              | rw [up1_at, if_neg (by decide), up1_at, if_neg (by decide), up1_at, if_pos ⟨rfl, rfl⟩]
              | rw [up1_at, if_neg (by decide), up1_at, if_neg (by decide), up1_at, if_neg (by decide), p10]
            refine x_ial dX12_nextToken_98 (⟨by decide, rfl, rfl, by decide⟩ : Ar 40 100) (by omega) ?_
            rw [p40 _ (by omega)]
            refine y_iadd dX12_nextToken_99 ?_
            refine x_bipush (v := nI 48) dX12_nextToken_100 rfl ?_
            have hfj : fg T (a + j) = true := by rw [fg_dec (by omega)]; rw [inB_n (by omega)] at h_63; exact h_63
            have hd := fg_lt hfj
            refine y_isub dX12_nextToken_102 (by omega) ?_
            refine p_X12_97 dX12_nextToken_103 ?_
            refine x_aload_n dX12_nextToken_106 rfl ?_
            refine x_dup dX12_nextToken_107 rfl ?_
            refine g_X12_88 dX12_nextToken_108 ?_
            first
              | rw [p10]
              | rw [up1_at, if_pos ⟨rfl, rfl⟩]
              | rw [up1_at, if_neg (by decide), p10]
              | rw [up1_at, if_neg (by decide), up1_at, if_pos ⟨rfl, rfl⟩]
              | rw [up1_at, if_neg (by decide), up1_at, if_neg (by decide), p10]
              | rw [up1_at, if_neg (by decide), up1_at, if_neg (by decide), up1_at, if_pos ⟨rfl, rfl⟩]
              | rw [up1_at, if_neg (by decide), up1_at, if_neg (by decide), up1_at, if_neg (by decide), p10]
            refine y_iconst (a := 1) dX12_nextToken_111 rfl ?_
            refine y_iadd dX12_nextToken_112 ?_
            refine p_X12_88 dX12_nextToken_113 ?_
            refine x_goto 33 dX12_nextToken_116 ?_
            first
              | (have hfj : fg T (a + j) = true := by rw [fg_dec (by omega)]; rw [inB_n (by omega)] at h_63; exact h_63
                 have hd := fg_lt hfj
                 refine ih (j + 1) (10 * w + T.2 (a + j) - 48) _ (by omega) (fun i hi => ?_) (by omega) (fun h2 => ?_) (by rw [up1_at, if_pos ⟨rfl, rfl⟩]; rfl) (by rw [up1_at, if_neg (by decide), up1_at, if_neg (by decide)]; exact p13) (by rw [up1_at, if_neg (by decide), up1_at, if_pos ⟨rfl, rfl⟩]) (by rw [up1_at, if_neg (by decide), up1_at, if_neg (by decide)]; exact p11) ((hF.up (by decide)).up (by decide))
                 · rcases Nat.lt_or_ge i j with q | q
                   · exact hfg i q
                   · obtain rfl : i = j := by omega
                     exact hfj
                 · rw [hwv (by omega)]
                   show _ = vl T a j * 10 + T.2 (a + j) - 48
                   omega)
              | (have hfj : fg T (a + j) = true := by rw [fg_dec (by omega)]; rw [inB_n (by omega)] at h_63; exact h_63
                 have hd := fg_lt hfj
                 refine ih (j + 1) w _ (by omega) (fun i hi => ?_) (by omega) (fun h2 => ?_) (by rw [up1_at, if_pos ⟨rfl, rfl⟩]; rfl) (by rw [up1_at, if_neg (by decide), up1_at, if_neg (by decide)]; exact p13) (by rw [up1_at, if_neg (by decide), up1_at, if_pos ⟨rfl, rfl⟩]) (by rw [up1_at, if_neg (by decide), up1_at, if_neg (by decide)]; exact p11) ((hF.up (by decide)).up (by decide))
                 · rcases Nat.lt_or_ge i j with q | q
                   · exact hfg i q
                   · obtain rfl : i = j := by omega
                     exact hfj
                 · exfalso
                   have h1 := hwv (by omega)
                   have h5 := vl_le (T := T) (a := a) j (fun i hi => (fg_lt (hfg i hi)).2.2)
                   have : (10 : Nat) ^ j ≤ 10 ^ 1 := Nat.pow_le_pow_right (by decide) (by omega)
                   omega)
          · refine x_aload_n dX12_nextToken_76 rfl ?_
            refine g_X12_97 dX12_nextToken_77 ?_
            first
              | rw [p12]
              | rw [up1_at, if_pos ⟨rfl, rfl⟩]
              | rw [up1_at, if_neg (by decide), p12]
              | rw [up1_at, if_neg (by decide), up1_at, if_pos ⟨rfl, rfl⟩]
              | rw [up1_at, if_neg (by decide), up1_at, if_neg (by decide), p12]
              | rw [up1_at, if_neg (by decide), up1_at, if_neg (by decide), up1_at, if_pos ⟨rfl, rfl⟩]
              | rw [up1_at, if_neg (by decide), up1_at, if_neg (by decide), up1_at, if_neg (by decide), p12]
            refine x_goto 103 dX12_nextToken_80 ?_
            refine p_X12_97 dX12_nextToken_103 ?_
            refine x_aload_n dX12_nextToken_106 rfl ?_
            refine x_dup dX12_nextToken_107 rfl ?_
            refine g_X12_88 dX12_nextToken_108 ?_
            first
              | rw [p10]
              | rw [up1_at, if_pos ⟨rfl, rfl⟩]
              | rw [up1_at, if_neg (by decide), p10]
              | rw [up1_at, if_neg (by decide), up1_at, if_pos ⟨rfl, rfl⟩]
              | rw [up1_at, if_neg (by decide), up1_at, if_neg (by decide), p10]
              | rw [up1_at, if_neg (by decide), up1_at, if_neg (by decide), up1_at, if_pos ⟨rfl, rfl⟩]
              | rw [up1_at, if_neg (by decide), up1_at, if_neg (by decide), up1_at, if_neg (by decide), p10]
            refine y_iconst (a := 1) dX12_nextToken_111 rfl ?_
            refine y_iadd dX12_nextToken_112 ?_
            refine p_X12_88 dX12_nextToken_113 ?_
            refine x_goto 33 dX12_nextToken_116 ?_
            first
              | (have hfj : fg T (a + j) = true := by rw [fg_dec (by omega)]; rw [inB_n (by omega)] at h_63; exact h_63
                 have hd := fg_lt hfj
                 refine ih (j + 1) (10 * w + T.2 (a + j) - 48) _ (by omega) (fun i hi => ?_) (by omega) (fun h2 => ?_) (by rw [up1_at, if_pos ⟨rfl, rfl⟩]; rfl) (by rw [up1_at, if_neg (by decide), up1_at, if_neg (by decide)]; exact p13) (by rw [up1_at, if_neg (by decide), up1_at, if_pos ⟨rfl, rfl⟩]) (by rw [up1_at, if_neg (by decide), up1_at, if_neg (by decide)]; exact p11) ((hF.up (by decide)).up (by decide))
                 · rcases Nat.lt_or_ge i j with q | q
                   · exact hfg i q
                   · obtain rfl : i = j := by omega
                     exact hfj
                 · rw [hwv (by omega)]
                   show _ = vl T a j * 10 + T.2 (a + j) - 48
                   omega)
              | (have hfj : fg T (a + j) = true := by rw [fg_dec (by omega)]; rw [inB_n (by omega)] at h_63; exact h_63
                 have hd := fg_lt hfj
                 refine ih (j + 1) w _ (by omega) (fun i hi => ?_) (by omega) (fun h2 => ?_) (by rw [up1_at, if_pos ⟨rfl, rfl⟩]; rfl) (by rw [up1_at, if_neg (by decide), up1_at, if_neg (by decide)]; exact p13) (by rw [up1_at, if_neg (by decide), up1_at, if_pos ⟨rfl, rfl⟩]) (by rw [up1_at, if_neg (by decide), up1_at, if_neg (by decide)]; exact p11) ((hF.up (by decide)).up (by decide))
                 · rcases Nat.lt_or_ge i j with q | q
                   · exact hfg i q
                   · obtain rfl : i = j := by omega
                     exact hfj
                 · exfalso
                   have h1 := hwv (by omega)
                   have h5 := vl_le (T := T) (a := a) j (fun i hi => (fg_lt (hfg i hi)).2.2)
                   have : (10 : Nat) ^ j ≤ 10 ^ 1 := Nat.pow_le_pow_right (by decide) (by omega)
                   omega)
  refine x_aload_n dX12_nextToken_0 rfl ?_
  refine x_aload_n dX12_nextToken_1 rfl ?_
  refine g_X12_88 dX12_nextToken_2 ?_
  first
    | rw [hp]
    | rw [up1_at, if_pos ⟨rfl, rfl⟩]
    | rw [up1_at, if_neg (by decide), hp]
    | rw [up1_at, if_neg (by decide), up1_at, if_pos ⟨rfl, rfl⟩]
    | rw [up1_at, if_neg (by decide), up1_at, if_neg (by decide), hp]
    | rw [up1_at, if_neg (by decide), up1_at, if_neg (by decide), up1_at, if_pos ⟨rfl, rfl⟩]
    | rw [up1_at, if_neg (by decide), up1_at, if_neg (by decide), up1_at, if_neg (by decide), hp]
  refine p_X12_91 dX12_nextToken_5 ?_
  refine x_aload_n dX12_nextToken_8 rfl ?_
  refine x_aload_n dX12_nextToken_9 rfl ?_
  refine g_X12_88 dX12_nextToken_10 ?_
  first
    | rw [hp]
    | rw [up1_at, if_pos ⟨rfl, rfl⟩]
    | rw [up1_at, if_neg (by decide), hp]
    | rw [up1_at, if_neg (by decide), up1_at, if_pos ⟨rfl, rfl⟩]
    | rw [up1_at, if_neg (by decide), up1_at, if_neg (by decide), hp]
    | rw [up1_at, if_neg (by decide), up1_at, if_neg (by decide), up1_at, if_pos ⟨rfl, rfl⟩]
    | rw [up1_at, if_neg (by decide), up1_at, if_neg (by decide), up1_at, if_neg (by decide), hp]
  refine x_aload_n dX12_nextToken_13 rfl ?_
  refine g_X12_84 dX12_nextToken_14 ?_
  first
    | rw [hb.1]
    | rw [up1_at, if_pos ⟨rfl, rfl⟩]
    | rw [up1_at, if_neg (by decide), hb.1]
    | rw [up1_at, if_neg (by decide), up1_at, if_pos ⟨rfl, rfl⟩]
    | rw [up1_at, if_neg (by decide), up1_at, if_neg (by decide), hb.1]
    | rw [up1_at, if_neg (by decide), up1_at, if_neg (by decide), up1_at, if_pos ⟨rfl, rfl⟩]
    | rw [up1_at, if_neg (by decide), up1_at, if_neg (by decide), up1_at, if_neg (by decide), hb.1]
  refine y_icmp_ne 24 dX12_nextToken_17 (by omega) (by omega) (fun h_17 => ?_) (fun h_17 => ?_)
  · refine y_iconst (a := 0) dX12_nextToken_24 rfl ?_
    refine p_X12_94 dX12_nextToken_25 ?_
    refine x_aload_n dX12_nextToken_28 rfl ?_
    refine y_iconst (a := 0) dX12_nextToken_29 rfl ?_
    refine p_X12_97 dX12_nextToken_30 ?_
    first
      | exact key (T.1 - a) 0 0 _ (by omega) (fun i hi => absurd hi (Nat.not_lt_zero _)) (by decide) (fun _ => rfl) (by rw [up1_at, if_neg (by decide), up1_at, if_neg (by decide), up1_at, if_neg (by decide)]; exact hp) (by rw [up1_at, if_neg (by decide), up1_at, if_neg (by decide), up1_at, if_pos ⟨rfl, rfl⟩]) (by rw [up1_at, if_pos ⟨rfl, rfl⟩]) (by rw [up1_at, if_neg (by decide), up1_at, if_pos ⟨rfl, rfl⟩, if_pos (by omega)]) (((FTn.rf.up (by decide)).up (by decide)).up (by decide))
      | exact key (T.1 - a) 0 0 _ (by omega) (fun i hi => absurd hi (Nat.not_lt_zero _)) (by decide) (fun _ => rfl) (by rw [up1_at, if_neg (by decide), up1_at, if_neg (by decide), up1_at, if_neg (by decide)]; exact hp) (by rw [up1_at, if_neg (by decide), up1_at, if_neg (by decide), up1_at, if_pos ⟨rfl, rfl⟩]) (by rw [up1_at, if_pos ⟨rfl, rfl⟩]) (by rw [up1_at, if_neg (by decide), up1_at, if_pos ⟨rfl, rfl⟩, if_neg (by omega)]) (((FTn.rf.up (by decide)).up (by decide)).up (by decide))
  · refine y_iconst (a := 3) dX12_nextToken_20 rfl ?_
    refine x_goto 25 dX12_nextToken_21 ?_
    refine p_X12_94 dX12_nextToken_25 ?_
    refine x_aload_n dX12_nextToken_28 rfl ?_
    refine y_iconst (a := 0) dX12_nextToken_29 rfl ?_
    refine p_X12_97 dX12_nextToken_30 ?_
    first
      | exact key (T.1 - a) 0 0 _ (by omega) (fun i hi => absurd hi (Nat.not_lt_zero _)) (by decide) (fun _ => rfl) (by rw [up1_at, if_neg (by decide), up1_at, if_neg (by decide), up1_at, if_neg (by decide)]; exact hp) (by rw [up1_at, if_neg (by decide), up1_at, if_neg (by decide), up1_at, if_pos ⟨rfl, rfl⟩]) (by rw [up1_at, if_pos ⟨rfl, rfl⟩]) (by rw [up1_at, if_neg (by decide), up1_at, if_pos ⟨rfl, rfl⟩, if_pos (by omega)]) (((FTn.rf.up (by decide)).up (by decide)).up (by decide))
      | exact key (T.1 - a) 0 0 _ (by omega) (fun i hi => absurd hi (Nat.not_lt_zero _)) (by decide) (fun _ => rfl) (by rw [up1_at, if_neg (by decide), up1_at, if_neg (by decide), up1_at, if_neg (by decide)]; exact hp) (by rw [up1_at, if_neg (by decide), up1_at, if_neg (by decide), up1_at, if_pos ⟨rfl, rfl⟩]) (by rw [up1_at, if_pos ⟨rfl, rfl⟩]) (by rw [up1_at, if_neg (by decide), up1_at, if_pos ⟨rfl, rfl⟩, if_neg (by omega)]) (((FTn.rf.up (by decide)).up (by decide)).up (by decide))
