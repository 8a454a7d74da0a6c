/-! THE REFERENCE: rows and tape's feed (laid by gen_m11.py) -/
set_option maxRecDepth 100000 in
theorem ar8 (N : Nat) (h : N < 4294967296) : (((N * 16777216 % 4294967296 : Nat) : Int).bmod 4294967296) / 16777216 = ((N : Int).bmod 4294967296).bmod 256 := by
  simp only [Int.bmod_def]
  omega
theorem asl8 (x : Int32) : (x <<< (nI 24 &&& 31)) >>> (nI 24 &&& 31) = x.toInt8.toInt32 := by
  apply Int32.toInt_inj.mp
  rw [pk_shr _ _ 24 (by decide +kernel), Int8.toInt_toInt32, Int32.toInt_toInt8]
  have h := pk_shl x (nI 24 &&& 31) 24 (by decide +kernel)
  have e1 : (x <<< (nI 24 &&& 31)).toInt = (x <<< (nI 24 &&& 31)).toBitVec.toInt := rfl
  have e2 : x.toInt = x.toBitVec.toInt := rfl
  rw [e1, e2, BitVec.toInt_eq_toNat_bmod, BitVec.toInt_eq_toNat_bmod, h, Int.shiftRight_eq_div_pow]
  exact ar8 x.toBitVec.toNat x.toBitVec.isLt
set_option maxRecDepth 100000 in
theorem ar16 (N : Nat) (h : N < 4294967296) : (((N * 65536 % 4294967296 : Nat) : Int).bmod 4294967296) / 65536 = ((N : Int).bmod 4294967296).bmod 65536 := by
  simp only [Int.bmod_def]
  omega
theorem asl16 (x : Int32) : (x <<< (nI 16 &&& 31)) >>> (nI 16 &&& 31) = x.toInt16.toInt32 := by
  apply Int32.toInt_inj.mp
  rw [pk_shr _ _ 16 (by decide +kernel), Int16.toInt_toInt32, Int32.toInt_toInt16]
  have h := pk_shl x (nI 16 &&& 31) 16 (by decide +kernel)
  have e1 : (x <<< (nI 16 &&& 31)).toInt = (x <<< (nI 16 &&& 31)).toBitVec.toInt := rfl
  have e2 : x.toInt = x.toBitVec.toInt := rfl
  rw [e1, e2, BitVec.toInt_eq_toNat_bmod, BitVec.toInt_eq_toNat_bmod, h, Int.shiftRight_eq_div_pow]
  exact ar16 x.toBitVec.toNat x.toBitVec.isLt
section
variable {M M' : Mem} {σ : Sg}
theorem IM.setRows (h : IM M σ) {a b : Nat → Int32} {c : Nat → Nat → Int32} {x : Int32} (hr : ∀ r, r < 8 → M'.1 35 r = a r ∧ M'.1 36 r = b r ∧ ∀ j, j < 40 → M'.1 37 (40 * r + j) = c r j) (e3 : M'.1 34 3 = x) (e34 : ∀ k, k ≠ 3 → M'.1 34 k = M.1 34 k) (e : ∀ d, (d = 38 ∨ d = 40 ∨ d = 42 ∨ d = 46 ∨ d = 47 ∨ d = 48) → M'.1 d = M.1 d) : IM M' (σ.uRow a b c x) := by
  obtain ⟨h1, h2, h3, h4, h5, h6, h7, h8, h9⟩ := h
  refine ⟨hr, e3, ?_, ?_, ?_, ?_, ?_, ?_, ?_⟩
  · rw [e34 4 (by decide)]; exact h3
  · intro k hk; rw [e 38 (by omega)]; exact h4 k hk
  · unfold IMt; rw [e34 8 (by decide), e 40 (by omega)]; exact h5
  · rw [e34 9 (by decide)]; exact h6
  · unfold IMa; rw [e34 18 (by decide), e 42 (by omega)]; exact h7
  · intro i hi; rw [e 46 (by omega), e 47 (by omega)]; exact h8 i hi
  · unfold IMc; rw [e34 25 (by decide), e 48 (by omega)]; exact h9
theorem IM.setTape (h : IM M σ) {n : Nat} {f : Nat → Nat} (ht : IMt M' (σ.uTape n f)) (e34 : ∀ k, (k = 3 ∨ k = 4 ∨ k = 9 ∨ k = 18 ∨ k = 25) → M'.1 34 k = M.1 34 k) (e : ∀ d, (d = 35 ∨ d = 36 ∨ d = 37 ∨ d = 38 ∨ d = 42 ∨ d = 46 ∨ d = 47 ∨ d = 48) → M'.1 d = M.1 d) : IM M' (σ.uTape n f) := by
  obtain ⟨h1, h2, h3, h4, h5, h6, h7, h8, h9⟩ := h
  refine ⟨?_, ?_, ?_, ?_, ht, ?_, ?_, ?_, ?_⟩
  · intro r hr; rw [e 35 (by omega), e 36 (by omega), e 37 (by omega)]; exact h1 r hr
  · rw [e34 3 (by omega)]; exact h2
  · rw [e34 4 (by omega)]; exact h3
  · intro k hk; rw [e 38 (by omega)]; exact h4 k hk
  · rw [e34 9 (by omega)]; exact h6
  · unfold IMa; rw [e34 18 (by omega), e 42 (by omega)]; exact h7
  · intro i hi; rw [e 46 (by omega), e 47 (by omega)]; exact h8 i hi
  · unfold IMc; rw [e34 25 (by omega), e 48 (by omega)]; exact h9
end
theorem sz_neg {σ : Sg} (hW : SgW σ) {r : Nat} (hr : r < 8) : (σ.sz r).toInt < 0 ↔ σ.sz r = -1 := by
  rcases (hW.1 r hr).2 with e | ⟨z, hz, e⟩
  · rw [e]; decide
  · rw [e, nI_toInt (by omega)]
    constructor
    · intro q; omega
    · intro q; exact absurd q (nI_m1 (by omega))
theorem spn_1 {z : Nat} (hz : z ≤ 40) (i : Int32) : spn (nI z) i (nI 1) = decide ((lN 0).toInt ≤ i.toInt64.toInt ∧ i.toInt64.toInt ≤ (nI z - nI 1).toInt64.toInt) := by
  unfold spn
  rw [Int32.toInt_toInt64, Int32.toInt_toInt64, lN_toInt (by decide), nI_toInt (show 1 < 2 ^ 31 by decide)]
  exact decide_eq_decide.mpr (by omega)
theorem lsub_toInt (z : Nat) (hz : z ≤ 40) (n : Int32) (hn : 0 ≤ n.toInt) : ((nI z).toInt64 - n.toInt64).toInt = (z : Int) - n.toInt ∧ (nI z - n).toInt = (z : Int) - n.toInt := by
  have h1 := nI_toInt (show z < 2 ^ 31 by omega)
  have h2 := n.toInt_lt
  constructor
  · rw [Int64.toInt_sub, Int32.toInt_toInt64, Int32.toInt_toInt64, h1, Int.bmod_def]
    omega
  · rw [Int32.toInt_sub, h1, Int.bmod_def]
    omega

set_option maxRecDepth 100000 in
set_option maxHeartbeats 4000000 in
theorem m_asLane {Ω : Om} {l : Launch} {M : Mem} {a x : Int32} : Ct Ω l yX12_asLane cX12_asLane 2 1 (some .int) [.int a, .int x] M (fun ro M' => ro = some (.int (asL a x)) ∧ M = M') := by
  refine ct_of (by decide) (Nat.le_of_ble_eq_true rfl) ?_
  intro p e R s m args below meth c
  refine x_iload_n dX12_asLane_0 rfl ?_
  refine x_if_ne 14 dX12_asLane_1 (fun h_1 => ?_) (fun h_1 => ?_)
  · refine x_iload_n dX12_asLane_14 rfl ?_
    refine y_iconst (a := 1) dX12_asLane_15 rfl ?_
    refine x_icmp_ne 29 dX12_asLane_16 (fun h_16 => ?_) (fun h_16 => ?_)
    · refine x_iload_n dX12_asLane_29 rfl ?_
      refine x_iret dX12_asLane_30 ?_
      refine ⟨congrArg (fun z => some (Value.int z)) ?_, rfl⟩
      unfold asL
      first
        | (rw [if_pos (show a = nI 0 from h_1), asl8])
        | (rw [if_neg (show ¬ a = nI 0 from h_1), if_pos h_16, asl16])
        | (rw [if_neg (show ¬ a = nI 0 from h_1), if_neg h_16])
    · refine x_iload_n dX12_asLane_19 rfl ?_
      refine x_bipush (v := nI 16) dX12_asLane_20 rfl ?_
      refine x_ishl dX12_asLane_22 ?_
      refine x_bipush (v := nI 16) dX12_asLane_23 rfl ?_
      refine x_ishr dX12_asLane_25 ?_
      refine x_goto 30 dX12_asLane_26 ?_
      refine x_iret dX12_asLane_30 ?_
      refine ⟨congrArg (fun z => some (Value.int z)) ?_, rfl⟩
      unfold asL
      first
        | (rw [if_pos (show a = nI 0 from h_1), asl8])
        | (rw [if_neg (show ¬ a = nI 0 from h_1), if_pos h_16, asl16])
        | (rw [if_neg (show ¬ a = nI 0 from h_1), if_neg h_16])
  · refine x_iload_n dX12_asLane_4 rfl ?_
    refine x_bipush (v := nI 24) dX12_asLane_5 rfl ?_
    refine x_ishl dX12_asLane_7 ?_
    refine x_bipush (v := nI 24) dX12_asLane_8 rfl ?_
    refine x_ishr dX12_asLane_10 ?_
    refine x_goto 30 dX12_asLane_11 ?_
    refine x_iret dX12_asLane_30 ?_
    refine ⟨congrArg (fun z => some (Value.int z)) ?_, rfl⟩
    unfold asL
    first
      | (rw [if_pos (show a = nI 0 from h_1), asl8])
      | (rw [if_neg (show ¬ a = nI 0 from h_1), if_pos h_16, asl16])
      | (rw [if_neg (show ¬ a = nI 0 from h_1), if_neg h_16])
set_option maxRecDepth 100000 in
set_option maxHeartbeats 4000000 in
theorem m_row {Ω : Om} {l : Launch} {M : Mem} {σ : Sg} (hM : IM M σ) (hW : SgW σ) {x a n : Int32} : Ct Ω l yX12_row cX12_row 5 3 (some .int) [.ref (Ω.2.2 34), .int x, .int a, .int n] M (fun ro M' => ro = some (.int (R_row σ x a n).1) ∧ IM M' (R_row σ x a n).2 ∧ FrC M M') := by
  have hS := hM.ms
  have hLv : Lv σ.v := hW.2.2.1
  have hw := hLv.wv
  have hn := hw.nums
  have hth := hM.there
  refine ct_of (by decide) (Nat.le_of_ble_eq_true rfl) ?_
  intro p e R s m args below meth c
  have key : ∀ (r : Nat), r < 8 → inB a 0 2 = true → n.toInt ≤ 40 → 0 ≤ n.toInt → ∀ (k h : Nat) (M1 : Mem), h + k = 40 → FC 37 (up1 (up1 M 35 r a) 36 r n) M1 → (∀ j, M1.1 37 j = if 40 * r ≤ j ∧ j < 40 * r + h then nI 0 else M.1 37 j) → X (mkG p l e R s m args below meth c Ω (fun ro M' => ro = some (.int (R_row σ (nI r) a n).1) ∧ IM M' (R_row σ (nI r) a n).2 ∧ FrC M M')) Ω RX12 cX12_row 5 3 (some .int) 55 [some (.ref (Ω.2.2 34)), some (.int (nI r)), some (.int a), some (.int n), some (.int (nI h))] [] M1 := by
    intro r hr hin h40 h0 k
    have tr := tN_nI (g := r) (by omega)
    induction k with
    | zero =>
      intro h M1 hk hF hz
      refine x_iload dX12_row_55 rfl ?_
      refine x_bipush (v := nI 40) dX12_row_57 rfl ?_
      refine y_icmp_ge 81 dX12_row_59 (by omega) (by omega) (fun h_59 => ?_) (fun h_59 => ?_)
      · refine x_aload_n dX12_row_81 rfl ?_
        refine x_iload_n dX12_row_82 rfl ?_
        refine q_X12_75 (m_well) dX12_row_83 rfl ?_
        rintro _ _ ⟨rfl, rfl⟩
        refine x_iret dX12_row_86 ?_
        obtain rfl : h = 40 := by omega
        unfold R_row
        rw [if_pos ⟨inR_of hr (by decide), hin, h40⟩, if_neg (by omega), tr]
        refine ⟨rfl, hM.setRows (fun q hq => ?_) (by rw [up1_at, if_pos ⟨rfl, rfl⟩]) (fun k hk => ?_) (fun d hd => ?_), ?_⟩
        · rw [up1_ne _ _ _ (by decide), up1_ne _ _ _ (by decide), up1_ne _ _ _ (by decide), hF.2 35 (by decide), hF.2 36 (by decide), up1_ne _ _ _ (by decide), up1_at, up1_at]
          obtain ⟨o1, o2, o3⟩ := hM.rows q hq
          unfold upF1
          refine ⟨?_, ?_, fun j hj => ?_⟩
          · by_cases z : q = r
            · rw [if_pos ⟨rfl, z⟩, if_pos z]
            · rw [if_neg (fun y => z y.2), if_neg z]; exact o1
          · by_cases z : q = r
            · rw [if_pos ⟨rfl, z⟩, if_pos z]
            · rw [if_neg (fun y => z y.2), if_neg z, up1_ne _ _ _ (by decide)]; exact o2
          · rw [hz]
            by_cases z : q = r
            · rw [if_pos (by omega), if_pos z]
            · rw [if_neg (by omega), if_neg z]; exact o3 j hj
        · rw [up1_at, if_neg (fun y => hk y.2), hF.2 34 (by decide), up1_ne _ _ _ (by decide), up1_ne _ _ _ (by decide)]
        · rw [up1_ne _ _ _ (by omega), hF.2 d (by omega), up1_ne _ _ _ (by omega), up1_ne _ _ _ (by omega)]
        · exact (((FrC.rf.up (by decide)).up (by decide)).fc hF (by decide)).up (by decide)
      · exfalso; omega
    | succ k ih =>
      intro h M1 hk hF hz
      refine x_iload dX12_row_55 rfl ?_
      refine x_bipush (v := nI 40) dX12_row_57 rfl ?_
      refine y_icmp_ge 81 dX12_row_59 (by omega) (by omega) (fun h_59 => ?_) (fun h_59 => ?_)
      · exfalso; omega
      · refine x_aload_n dX12_row_62 rfl ?_
        refine g_X12_16 dX12_row_63 ?_
        refine x_bipush (v := nI 40) dX12_row_66 rfl ?_
        refine x_iload_n dX12_row_68 rfl ?_
        refine y_imul dX12_row_69 ?_
        refine x_iload dX12_row_70 rfl ?_
        refine y_iadd dX12_row_72 ?_
        refine y_iconst (a := 0) dX12_row_73 rfl ?_
        refine x_ias dX12_row_74 (⟨by decide, rfl, rfl, by decide⟩ : Ar 37 320) (by omega) ?_
        refine y_iinc dX12_row_75 rfl ?_
        refine x_goto 55 dX12_row_78 ?_
        refine ih (h + 1) _ (by omega) hF.up (fun j => ?_)
        rw [up1_at]
        by_cases z : j = 40 * r + h
        · rw [if_pos ⟨rfl, z⟩, if_pos (by omega)]
        · rw [if_neg (fun y => z y.2), hz]
          by_cases y : 40 * r ≤ j ∧ j < 40 * r + h
          · rw [if_pos y, if_pos (by omega)]
          · rw [if_neg y, if_neg (by omega)]
  refine x_iload_n dX12_row_0 rfl ?_
  refine q_X12_64 (m_isRow) dX12_row_1 rfl ?_
  rintro _ _ ⟨rfl, rfl⟩
  refine z_if_eq 25 dX12_row_4 (fun h_4 => ?_) (fun h_4 => ?_)
  · refine x_ldc dX12_row_25 k_X12_70 ?_
    refine x_iret dX12_row_27 ?_
    unfold R_row
    first
      | (rw [if_pos ⟨h_4, h_16, h40⟩, if_pos h_29]; exact ⟨rfl, hM.setSt _⟩)
      | (rw [if_neg (fun z => Bool.false_ne_true (h_4.symm.trans z.1))]; exact ⟨rfl, hM, FrC.rf⟩)
      | (rw [if_neg (fun z => Bool.false_ne_true (h_16.symm.trans z.2.1))]; exact ⟨rfl, hM, FrC.rf⟩)
      | (rw [nI_toInt (show 40 < 2 ^ 31 by decide)] at h_22
         rw [if_neg (fun z => by have := z.2.2; omega)]; exact ⟨rfl, hM, FrC.rf⟩)
  · obtain ⟨r, hr, rfl⟩ := inR_nI h_4 (by decide)
    refine x_iload_n dX12_row_7 rfl ?_
    refine x_i2l dX12_row_8 ?_
    refine x_lconst (v := lN 0) dX12_row_9 rfl ?_
    refine x_ldc2 (v := lN 2) dX12_row_10 k_X12_68 ?_
    refine q_X12_60 (m_inB (by decide) (by decide)) dX12_row_13 rfl ?_
    rintro _ _ ⟨rfl, rfl⟩
    refine z_if_eq 25 dX12_row_16 (fun h_16 => ?_) (fun h_16 => ?_)
    · refine x_ldc dX12_row_25 k_X12_70 ?_
      refine x_iret dX12_row_27 ?_
      unfold R_row
      first
        | (rw [if_pos ⟨h_4, h_16, h40⟩, if_pos h_29]; exact ⟨rfl, hM.setSt _⟩)
        | (rw [if_neg (fun z => Bool.false_ne_true (h_4.symm.trans z.1))]; exact ⟨rfl, hM, FrC.rf⟩)
        | (rw [if_neg (fun z => Bool.false_ne_true (h_16.symm.trans z.2.1))]; exact ⟨rfl, hM, FrC.rf⟩)
        | (rw [nI_toInt (show 40 < 2 ^ 31 by decide)] at h_22
           rw [if_neg (fun z => by have := z.2.2; omega)]; exact ⟨rfl, hM, FrC.rf⟩)
    · refine x_iload_n dX12_row_19 rfl ?_
      refine x_bipush (v := nI 40) dX12_row_20 rfl ?_
      refine x_icmp_le 28 dX12_row_22 (fun h_22 => ?_) (fun h_22 => ?_)
      · have h40 : n.toInt ≤ 40 := by have := h_22; rw [nI_toInt (by decide)] at this; exact this
        refine x_iload_n dX12_row_28 rfl ?_
        refine x_if_ge 38 dX12_row_29 (fun h_29 => ?_) (fun h_29 => ?_)
        · refine x_aload_n dX12_row_38 rfl ?_
          refine g_X12_7 dX12_row_39 ?_
          refine x_iload_n dX12_row_42 rfl ?_
          refine x_iload_n dX12_row_43 rfl ?_
          refine x_ias dX12_row_44 (⟨by decide, rfl, rfl, by decide⟩ : Ar 35 8) (by omega) ?_
          refine x_aload_n dX12_row_45 rfl ?_
          refine g_X12_13 dX12_row_46 ?_
          refine x_iload_n dX12_row_49 rfl ?_
          refine x_iload_n dX12_row_50 rfl ?_
          refine x_ias dX12_row_51 (⟨by decide, rfl, rfl, by decide⟩ : Ar 36 8) (by omega) ?_
          refine y_iconst (a := 0) dX12_row_52 rfl ?_
          refine x_istore dX12_row_53 ?_
          exact key r hr h_16 h40 h_29 40 0 _ rfl FC.rf (fun j => by rw [if_neg (by omega), up1_ne _ _ _ (by decide), up1_ne _ _ _ (by decide)])
        · refine x_aload_n dX12_row_32 rfl ?_
          refine y_iconst (a := 4) dX12_row_33 rfl ?_
          refine q_X12_71 (m_find) dX12_row_34 rfl ?_
          rintro _ _ ⟨rfl, rfl⟩
          refine x_iret dX12_row_37 ?_
          unfold R_row
          first
            | (rw [if_pos ⟨h_4, h_16, h40⟩, if_pos h_29]; exact ⟨rfl, hM.setSt _⟩)
            | (rw [if_neg (fun z => Bool.false_ne_true (h_4.symm.trans z.1))]; exact ⟨rfl, hM, FrC.rf⟩)
            | (rw [if_neg (fun z => Bool.false_ne_true (h_16.symm.trans z.2.1))]; exact ⟨rfl, hM, FrC.rf⟩)
            | (rw [nI_toInt (show 40 < 2 ^ 31 by decide)] at h_22
               rw [if_neg (fun z => by have := z.2.2; omega)]; exact ⟨rfl, hM, FrC.rf⟩)
      · refine x_ldc dX12_row_25 k_X12_70 ?_
        refine x_iret dX12_row_27 ?_
        unfold R_row
        first
          | (rw [if_pos ⟨h_4, h_16, h40⟩, if_pos h_29]; exact ⟨rfl, hM.setSt _⟩)
          | (rw [if_neg (fun z => Bool.false_ne_true (h_4.symm.trans z.1))]; exact ⟨rfl, hM, FrC.rf⟩)
          | (rw [if_neg (fun z => Bool.false_ne_true (h_16.symm.trans z.2.1))]; exact ⟨rfl, hM, FrC.rf⟩)
          | (rw [nI_toInt (show 40 < 2 ^ 31 by decide)] at h_22
             rw [if_neg (fun z => by have := z.2.2; omega)]; exact ⟨rfl, hM, FrC.rf⟩)
set_option maxRecDepth 100000 in
set_option maxHeartbeats 4000000 in
theorem m_set {Ω : Om} {l : Launch} {M : Mem} {σ : Sg} (hM : IM M σ) (hW : SgW σ) {x i y : Int32} : Ct Ω l yX12_set cX12_set 4 3 (some .int) [.ref (Ω.2.2 34), .int x, .int i, .int y] M (fun ro M' => ro = some (.int (R_set σ x i y).1) ∧ IM M' (R_set σ x i y).2 ∧ FrC M M') := by
  have hS := hM.ms
  have hLv : Lv σ.v := hW.2.2.1
  have hw := hLv.wv
  have hn := hw.nums
  have hth := hM.there
  refine ct_of (by decide) (Nat.le_of_ble_eq_true rfl) ?_
  intro p e R s m args below meth c
  refine x_iload_n dX12_set_0 rfl ?_
  refine q_X12_64 (m_isRow) dX12_set_1 rfl ?_
  rintro _ _ ⟨rfl, rfl⟩
  refine z_if_ne 10 dX12_set_4 (fun h_4 => ?_) (fun h_4 => ?_)
  · obtain ⟨r, hr, rfl⟩ := inR_nI h_4 (by decide)
    have tr := tN_nI (g := r) (by omega)
    obtain ⟨ro1, ro2, ro3⟩ := hM.rows r hr
    refine x_aload_n dX12_set_10 rfl ?_
    refine g_X12_13 dX12_set_11 ?_
    refine x_iload_n dX12_set_14 rfl ?_
    refine x_ial dX12_set_15 (⟨by decide, rfl, rfl, by decide⟩ : Ar 36 8) (by omega) ?_
    rw [ro2]
    refine x_if_ge 25 dX12_set_16 (fun h_16 => ?_) (fun h_16 => ?_)
    · have hsz : ¬ σ.sz r = -1 := fun z => by have := (sz_neg hW hr).mpr z; omega
      obtain ⟨z, hz40, hz⟩ := (hW.1 r hr).2.resolve_left hsz
      have hsp := spn_1 hz40 i
      rw [← hz] at hsp
      refine x_iload_n dX12_set_25 rfl ?_
      refine x_i2l dX12_set_26 ?_
      refine x_lconst (v := lN 0) dX12_set_27 rfl ?_
      refine x_aload_n dX12_set_28 rfl ?_
      refine g_X12_13 dX12_set_29 ?_
      refine x_iload_n dX12_set_32 rfl ?_
      refine x_ial dX12_set_33 (⟨by decide, rfl, rfl, by decide⟩ : Ar 36 8) (by omega) ?_
      rw [ro2]
      refine y_iconst (a := 1) dX12_set_34 rfl ?_
      refine x_isub dX12_set_35 ?_
      refine x_i2l dX12_set_36 ?_
      refine q_X12_60 (m_in) dX12_set_37 rfl ?_
      rintro _ _ ⟨rfl, rfl⟩
      refine z_if_ne 49 dX12_set_40 (fun h_40 => ?_) (fun h_40 => ?_)
      · rw [← hsp] at h_40
        obtain ⟨j, hj, rfl⟩ := spn_nat hz40 (show 1 ≤ 40 by decide) (by rw [← hz]; exact h_40)
        have tj := tN_nI (g := j) (by omega)
        refine x_aload_n dX12_set_49 rfl ?_
        refine g_X12_16 dX12_set_50 ?_
        refine x_bipush (v := nI 40) dX12_set_53 rfl ?_
        refine x_iload_n dX12_set_55 rfl ?_
        refine y_imul dX12_set_56 ?_
        refine x_iload_n dX12_set_57 rfl ?_
        refine y_iadd dX12_set_58 ?_
        refine x_aload_n dX12_set_59 rfl ?_
        refine g_X12_7 dX12_set_60 ?_
        refine x_iload_n dX12_set_63 rfl ?_
        refine x_ial dX12_set_64 (⟨by decide, rfl, rfl, by decide⟩ : Ar 35 8) (by omega) ?_
        rw [ro1]
        refine x_iload_n dX12_set_65 rfl ?_
        refine q_X12_78 (m_asLane) dX12_set_66 rfl ?_
        rintro _ _ ⟨rfl, rfl⟩
        refine x_ias dX12_set_69 (⟨by decide, rfl, rfl, by decide⟩ : Ar 37 320) (by omega) ?_
        refine x_aload_n dX12_set_70 rfl ?_
        refine x_aload_n dX12_set_71 rfl ?_
        refine g_X12_16 dX12_set_72 ?_
        refine x_bipush (v := nI 40) dX12_set_75 rfl ?_
        refine x_iload_n dX12_set_77 rfl ?_
        refine y_imul dX12_set_78 ?_
        refine x_iload_n dX12_set_79 rfl ?_
        refine y_iadd dX12_set_80 ?_
        refine x_ial dX12_set_81 (⟨by decide, rfl, rfl, by decide⟩ : Ar 37 320) (by omega) ?_
        rw [up1_at, if_pos ⟨rfl, rfl⟩]
        refine q_X12_75 (m_well) dX12_set_82 rfl ?_
        rintro _ _ ⟨rfl, rfl⟩
        refine x_iret dX12_set_85 ?_
        unfold R_set
        first
          | (rw [if_neg (fun z => Bool.false_ne_true (h_4.symm.trans z))]; exact ⟨rfl, hM, FrC.rf⟩)
          | (rw [if_pos h_4, tr, if_pos ((sz_neg hW hr).mp h_16)]; exact ⟨rfl, hM.setSt _⟩)
          | (rw [if_pos h_4, tr, if_neg hsz, if_neg (by rw [hsp, h_40]; exact Bool.false_ne_true)]; exact ⟨rfl, hM.setSt _⟩)
          | (rw [if_pos h_4, tr, if_neg hsz, if_pos h_40, tj]
             refine ⟨rfl, hM.setRows (fun q hq => ?_) (by rw [up1_at, if_pos ⟨rfl, rfl⟩]) (fun k hk => ?_) (fun d hd => ?_), (FrC.rf.up (by decide)).up (by decide)⟩
             · rw [up1_ne _ _ _ (by decide), up1_ne _ _ _ (by decide), up1_ne _ _ _ (by decide), up1_ne _ _ _ (by decide), up1_ne _ _ _ (by decide)]
               obtain ⟨o1, o2, o3⟩ := hM.rows q hq
               refine ⟨o1, o2, fun k hk => ?_⟩
               rw [up1_at]
               unfold upF2
               by_cases w : q = r ∧ k = j
               · rw [if_pos ⟨rfl, by omega⟩, if_pos w]
               · rw [if_neg (by omega), if_neg w]; exact o3 k hk
             · rw [up1_at, if_neg (fun y => hk y.2), up1_ne _ _ _ (by decide)]
             · rw [up1_ne _ _ _ (by omega), up1_ne _ _ _ (by omega)])
      · refine x_aload_n dX12_set_43 rfl ?_
        refine y_iconst (a := 2) dX12_set_44 rfl ?_
        refine q_X12_71 (m_find) dX12_set_45 rfl ?_
        rintro _ _ ⟨rfl, rfl⟩
        refine x_iret dX12_set_48 ?_
        unfold R_set
        first
          | (rw [if_neg (fun z => Bool.false_ne_true (h_4.symm.trans z))]; exact ⟨rfl, hM, FrC.rf⟩)
          | (rw [if_pos h_4, tr, if_pos ((sz_neg hW hr).mp h_16)]; exact ⟨rfl, hM.setSt _⟩)
          | (rw [if_pos h_4, tr, if_neg hsz, if_neg (by rw [hsp, h_40]; exact Bool.false_ne_true)]; exact ⟨rfl, hM.setSt _⟩)
          | (rw [if_pos h_4, tr, if_neg hsz, if_pos h_40, tj]
             refine ⟨rfl, hM.setRows (fun q hq => ?_) (by rw [up1_at, if_pos ⟨rfl, rfl⟩]) (fun k hk => ?_) (fun d hd => ?_), (FrC.rf.up (by decide)).up (by decide)⟩
             · rw [up1_ne _ _ _ (by decide), up1_ne _ _ _ (by decide), up1_ne _ _ _ (by decide), up1_ne _ _ _ (by decide), up1_ne _ _ _ (by decide)]
               obtain ⟨o1, o2, o3⟩ := hM.rows q hq
               refine ⟨o1, o2, fun k hk => ?_⟩
               rw [up1_at]
               unfold upF2
               by_cases w : q = r ∧ k = j
               · rw [if_pos ⟨rfl, by omega⟩, if_pos w]
               · rw [if_neg (by omega), if_neg w]; exact o3 k hk
             · rw [up1_at, if_neg (fun y => hk y.2), up1_ne _ _ _ (by decide)]
             · rw [up1_ne _ _ _ (by omega), up1_ne _ _ _ (by omega)])
    · refine x_aload_n dX12_set_19 rfl ?_
      refine y_iconst (a := 1) dX12_set_20 rfl ?_
      refine q_X12_71 (m_find) dX12_set_21 rfl ?_
      rintro _ _ ⟨rfl, rfl⟩
      refine x_iret dX12_set_24 ?_
      unfold R_set
      first
        | (rw [if_neg (fun z => Bool.false_ne_true (h_4.symm.trans z))]; exact ⟨rfl, hM, FrC.rf⟩)
        | (rw [if_pos h_4, tr, if_pos ((sz_neg hW hr).mp h_16)]; exact ⟨rfl, hM.setSt _⟩)
        | (rw [if_pos h_4, tr, if_neg hsz, if_neg (by rw [hsp, h_40]; exact Bool.false_ne_true)]; exact ⟨rfl, hM.setSt _⟩)
        | (rw [if_pos h_4, tr, if_neg hsz, if_pos h_40, tj]
           refine ⟨rfl, hM.setRows (fun q hq => ?_) (by rw [up1_at, if_pos ⟨rfl, rfl⟩]) (fun k hk => ?_) (fun d hd => ?_), (FrC.rf.up (by decide)).up (by decide)⟩
           · rw [up1_ne _ _ _ (by decide), up1_ne _ _ _ (by decide), up1_ne _ _ _ (by decide), up1_ne _ _ _ (by decide), up1_ne _ _ _ (by decide)]
             obtain ⟨o1, o2, o3⟩ := hM.rows q hq
             refine ⟨o1, o2, fun k hk => ?_⟩
             rw [up1_at]
             unfold upF2
             by_cases w : q = r ∧ k = j
             · rw [if_pos ⟨rfl, by omega⟩, if_pos w]
             · rw [if_neg (by omega), if_neg w]; exact o3 k hk
           · rw [up1_at, if_neg (fun y => hk y.2), up1_ne _ _ _ (by decide)]
           · rw [up1_ne _ _ _ (by omega), up1_ne _ _ _ (by omega)])
  · refine x_ldc dX12_set_7 k_X12_70 ?_
    refine x_iret dX12_set_9 ?_
    unfold R_set
    first
      | (rw [if_neg (fun z => Bool.false_ne_true (h_4.symm.trans z))]; exact ⟨rfl, hM, FrC.rf⟩)
      | (rw [if_pos h_4, tr, if_pos ((sz_neg hW hr).mp h_16)]; exact ⟨rfl, hM.setSt _⟩)
      | (rw [if_pos h_4, tr, if_neg hsz, if_neg (by rw [hsp, h_40]; exact Bool.false_ne_true)]; exact ⟨rfl, hM.setSt _⟩)
      | (rw [if_pos h_4, tr, if_neg hsz, if_pos h_40, tj]
         refine ⟨rfl, hM.setRows (fun q hq => ?_) (by rw [up1_at, if_pos ⟨rfl, rfl⟩]) (fun k hk => ?_) (fun d hd => ?_), (FrC.rf.up (by decide)).up (by decide)⟩
         · rw [up1_ne _ _ _ (by decide), up1_ne _ _ _ (by decide), up1_ne _ _ _ (by decide), up1_ne _ _ _ (by decide), up1_ne _ _ _ (by decide)]
           obtain ⟨o1, o2, o3⟩ := hM.rows q hq
           refine ⟨o1, o2, fun k hk => ?_⟩
           rw [up1_at]
           unfold upF2
           by_cases w : q = r ∧ k = j
           · rw [if_pos ⟨rfl, by omega⟩, if_pos w]
           · rw [if_neg (by omega), if_neg w]; exact o3 k hk
         · rw [up1_at, if_neg (fun y => hk y.2), up1_ne _ _ _ (by decide)]
         · rw [up1_ne _ _ _ (by omega), up1_ne _ _ _ (by omega)])
set_option maxRecDepth 100000 in
set_option maxHeartbeats 4000000 in
theorem m_drop {Ω : Om} {l : Launch} {M : Mem} {σ : Sg} (hM : IM M σ) (hW : SgW σ) {x : Int32} : Ct Ω l yX12_drop cX12_drop 3 3 (some .int) [.ref (Ω.2.2 34), .int x] M (fun ro M' => ro = some (.int (R_drop σ x).1) ∧ IM M' (R_drop σ x).2 ∧ FrC M M') := by
  have hS := hM.ms
  have hLv : Lv σ.v := hW.2.2.1
  have hw := hLv.wv
  have hn := hw.nums
  have hth := hM.there
  refine ct_of (by decide) (Nat.le_of_ble_eq_true rfl) ?_
  intro p e R s m args below meth c
  refine x_iload_n dX12_drop_0 rfl ?_
  refine q_X12_64 (m_isRow) dX12_drop_1 rfl ?_
  rintro _ _ ⟨rfl, rfl⟩
  refine z_if_ne 10 dX12_drop_4 (fun h_4 => ?_) (fun h_4 => ?_)
  · obtain ⟨r, hr, rfl⟩ := inR_nI h_4 (by decide)
    have tr := tN_nI (g := r) (by omega)
    obtain ⟨ro1, ro2, ro3⟩ := hM.rows r hr
    refine x_aload_n dX12_drop_10 rfl ?_
    refine g_X12_13 dX12_drop_11 ?_
    refine x_iload_n dX12_drop_14 rfl ?_
    refine x_ial dX12_drop_15 (⟨by decide, rfl, rfl, by decide⟩ : Ar 36 8) (by omega) ?_
    rw [ro2]
    refine x_if_ge 25 dX12_drop_16 (fun h_16 => ?_) (fun h_16 => ?_)
    · have hsz : ¬ σ.sz r = -1 := fun z => by have := (sz_neg hW hr).mpr z; omega
      refine x_aload_n dX12_drop_25 rfl ?_
      refine g_X12_13 dX12_drop_26 ?_
      refine x_iload_n dX12_drop_29 rfl ?_
      refine x_ial dX12_drop_30 (⟨by decide, rfl, rfl, by decide⟩ : Ar 36 8) (by omega) ?_
      rw [ro2]
      refine x_istore_n dX12_drop_31 ?_
      refine x_aload_n dX12_drop_32 rfl ?_
      refine g_X12_13 dX12_drop_33 ?_
      refine x_iload_n dX12_drop_36 rfl ?_
      refine x_iconst (v := -1) dX12_drop_37 rfl ?_
      refine x_ias dX12_drop_38 (⟨by decide, rfl, rfl, by decide⟩ : Ar 36 8) (by omega) ?_
      refine x_aload_n dX12_drop_39 rfl ?_
      refine x_iload_n dX12_drop_40 rfl ?_
      refine q_X12_75 (m_well) dX12_drop_41 rfl ?_
      rintro _ _ ⟨rfl, rfl⟩
      refine x_iret dX12_drop_44 ?_
      unfold R_drop
      first
        | (rw [if_neg (fun z => Bool.false_ne_true (h_4.symm.trans z))]; exact ⟨rfl, hM, FrC.rf⟩)
        | (rw [if_pos h_4, tr, if_pos ((sz_neg hW hr).mp h_16)]; exact ⟨rfl, hM.setSt _⟩)
        | (rw [if_pos h_4, tr, if_neg hsz]
           refine ⟨rfl, hM.setRows (fun q hq => ?_) (by rw [up1_at, if_pos ⟨rfl, rfl⟩]) (fun k hk => ?_) (fun d hd => ?_), (FrC.rf.up (by decide)).up (by decide)⟩
           · rw [up1_ne _ _ _ (by decide), up1_ne _ _ _ (by decide), up1_ne _ _ _ (by decide), up1_at]
             obtain ⟨o1, o2, o3⟩ := hM.rows q hq
             refine ⟨o1, ?_, fun j hj => by rw [up1_ne _ _ _ (by decide), up1_ne _ _ _ (by decide)]; exact o3 j hj⟩
             unfold upF1
             by_cases w : q = r
             · rw [if_pos ⟨rfl, w⟩, if_pos w]
             · rw [if_neg (fun y => w y.2), if_neg w]; exact o2
           · rw [up1_at, if_neg (fun y => hk y.2), up1_ne _ _ _ (by decide)]
           · rw [up1_ne _ _ _ (by omega), up1_ne _ _ _ (by omega)])
    · refine x_aload_n dX12_drop_19 rfl ?_
      refine y_iconst (a := 1) dX12_drop_20 rfl ?_
      refine q_X12_71 (m_find) dX12_drop_21 rfl ?_
      rintro _ _ ⟨rfl, rfl⟩
      refine x_iret dX12_drop_24 ?_
      unfold R_drop
      first
        | (rw [if_neg (fun z => Bool.false_ne_true (h_4.symm.trans z))]; exact ⟨rfl, hM, FrC.rf⟩)
        | (rw [if_pos h_4, tr, if_pos ((sz_neg hW hr).mp h_16)]; exact ⟨rfl, hM.setSt _⟩)
        | (rw [if_pos h_4, tr, if_neg hsz]
           refine ⟨rfl, hM.setRows (fun q hq => ?_) (by rw [up1_at, if_pos ⟨rfl, rfl⟩]) (fun k hk => ?_) (fun d hd => ?_), (FrC.rf.up (by decide)).up (by decide)⟩
           · rw [up1_ne _ _ _ (by decide), up1_ne _ _ _ (by decide), up1_ne _ _ _ (by decide), up1_at]
             obtain ⟨o1, o2, o3⟩ := hM.rows q hq
             refine ⟨o1, ?_, fun j hj => by rw [up1_ne _ _ _ (by decide), up1_ne _ _ _ (by decide)]; exact o3 j hj⟩
             unfold upF1
             by_cases w : q = r
             · rw [if_pos ⟨rfl, w⟩, if_pos w]
             · rw [if_neg (fun y => w y.2), if_neg w]; exact o2
           · rw [up1_at, if_neg (fun y => hk y.2), up1_ne _ _ _ (by decide)]
           · rw [up1_ne _ _ _ (by omega), up1_ne _ _ _ (by omega)])
  · refine x_ldc dX12_drop_7 k_X12_70 ?_
    refine x_iret dX12_drop_9 ?_
    unfold R_drop
    first
      | (rw [if_neg (fun z => Bool.false_ne_true (h_4.symm.trans z))]; exact ⟨rfl, hM, FrC.rf⟩)
      | (rw [if_pos h_4, tr, if_pos ((sz_neg hW hr).mp h_16)]; exact ⟨rfl, hM.setSt _⟩)
      | (rw [if_pos h_4, tr, if_neg hsz]
         refine ⟨rfl, hM.setRows (fun q hq => ?_) (by rw [up1_at, if_pos ⟨rfl, rfl⟩]) (fun k hk => ?_) (fun d hd => ?_), (FrC.rf.up (by decide)).up (by decide)⟩
         · rw [up1_ne _ _ _ (by decide), up1_ne _ _ _ (by decide), up1_ne _ _ _ (by decide), up1_at]
           obtain ⟨o1, o2, o3⟩ := hM.rows q hq
           refine ⟨o1, ?_, fun j hj => by rw [up1_ne _ _ _ (by decide), up1_ne _ _ _ (by decide)]; exact o3 j hj⟩
           unfold upF1
           by_cases w : q = r
           · rw [if_pos ⟨rfl, w⟩, if_pos w]
           · rw [if_neg (fun y => w y.2), if_neg w]; exact o2
         · rw [up1_at, if_neg (fun y => hk y.2), up1_ne _ _ _ (by decide)]
         · rw [up1_ne _ _ _ (by omega), up1_ne _ _ _ (by omega)])
set_option maxRecDepth 100000 in
set_option maxHeartbeats 4000000 in
theorem m_feed {Ω : Om} {l : Launch} {M : Mem} {σ : Sg} (hM : IM M σ) (hW : SgW σ) {x : Int32} : Ct Ω l yX12_feed cX12_feed 2 2 (some .int) [.ref (Ω.2.2 34), .int x] M (fun ro M' => ro = some (.int (R_feed σ x).1) ∧ IM M' (R_feed σ x).2 ∧ FrC M M') := by
  have hS := hM.ms
  have hLv : Lv σ.v := hW.2.2.1
  have hw := hLv.wv
  have hn := hw.nums
  have hth := hM.there
  refine ct_of (by decide) (Nat.le_of_ble_eq_true rfl) ?_
  intro p e R s m args below meth c
  refine x_iload_n dX12_feed_0 rfl ?_
  refine x_i2l dX12_feed_1 ?_
  refine x_lconst (v := lN 0) dX12_feed_2 rfl ?_
  refine x_ldc2 (v := lN 255) dX12_feed_3 k_X12_82 ?_
  refine q_X12_60 (m_inB (by decide) (by decide)) dX12_feed_6 rfl ?_
  rintro _ _ ⟨rfl, rfl⟩
  refine z_if_ne 15 dX12_feed_9 (fun h_9 => ?_) (fun h_9 => ?_)
  · obtain ⟨z, _, z2, rfl⟩ := inB_nI h_9 (by decide)
    have tz := tN_nI (g := z) (by omega)
    have h100 := hW.2.1.1
    refine x_aload_n dX12_feed_15 rfl ?_
    refine g_X12_84 dX12_feed_16 ?_
    rw [hM.tape.1]
    refine x_bipush (v := nI 100) dX12_feed_19 rfl ?_
    refine y_icmp_ne 27 dX12_feed_21 (by omega) (by omega) (fun h_21 => ?_) (fun h_21 => ?_)
    · refine x_aload_n dX12_feed_27 rfl ?_
      refine g_X12_25 dX12_feed_28 ?_
      refine x_aload_n dX12_feed_31 rfl ?_
      refine g_X12_84 dX12_feed_32 ?_
      rw [hM.tape.1]
      refine x_iload_n dX12_feed_35 rfl ?_
      refine x_ias dX12_feed_36 (⟨by decide, rfl, rfl, by decide⟩ : Ar 40 100) (by omega) ?_
      refine x_aload_n dX12_feed_37 rfl ?_
      refine x_dup dX12_feed_38 rfl ?_
      refine g_X12_84 dX12_feed_39 ?_
      rw [up1_ne _ _ _ (by decide), hM.tape.1]
      refine y_iconst (a := 1) dX12_feed_42 rfl ?_
      refine y_iadd dX12_feed_43 ?_
      refine p_X12_84 dX12_feed_44 ?_
      refine x_aload_n dX12_feed_47 rfl ?_
      refine g_X12_84 dX12_feed_48 ?_
      rw [up1_at, if_pos ⟨rfl, rfl⟩]
      refine x_iret dX12_feed_51 ?_
      unfold R_feed
      first
        | (rw [if_neg (fun z => Bool.false_ne_true (h_9.symm.trans z))]; exact ⟨rfl, hM, FrC.rf⟩)
        | (rw [if_pos h_9, if_neg (by omega)]; exact ⟨rfl, hM, FrC.rf⟩)
        | (rw [if_pos h_9, if_pos (by omega), tz]
           refine ⟨rfl, hM.setTape ⟨by rw [up1_at, if_pos ⟨rfl, rfl⟩]; rfl, fun j hj => ?_⟩ (fun k hk => ?_) (fun d hd => ?_), (FrC.rf.up (by decide)).up (by decide)⟩
           · rw [up1_ne _ _ _ (by decide), up1_at]
             show _ = nI (if j = σ.tn then z else σ.tb j)
             have hj2 : j < σ.tn + 1 := hj
             by_cases w : j = σ.tn
             · rw [if_pos ⟨rfl, w⟩, if_pos w]
             · rw [if_neg (fun y => w y.2), if_neg w]; exact hM.tape.2 j (by omega)
           · rw [up1_at, if_neg (by omega), up1_ne _ _ _ (by decide)]
           · rw [up1_ne _ _ _ (by omega), up1_ne _ _ _ (by omega)])
    · refine x_ldc dX12_feed_24 k_X12_87 ?_
      refine x_iret dX12_feed_26 ?_
      unfold R_feed
      first
        | (rw [if_neg (fun z => Bool.false_ne_true (h_9.symm.trans z))]; exact ⟨rfl, hM, FrC.rf⟩)
        | (rw [if_pos h_9, if_neg (by omega)]; exact ⟨rfl, hM, FrC.rf⟩)
        | (rw [if_pos h_9, if_pos (by omega), tz]
           refine ⟨rfl, hM.setTape ⟨by rw [up1_at, if_pos ⟨rfl, rfl⟩]; rfl, fun j hj => ?_⟩ (fun k hk => ?_) (fun d hd => ?_), (FrC.rf.up (by decide)).up (by decide)⟩
           · rw [up1_ne _ _ _ (by decide), up1_at]
             show _ = nI (if j = σ.tn then z else σ.tb j)
             have hj2 : j < σ.tn + 1 := hj
             by_cases w : j = σ.tn
             · rw [if_pos ⟨rfl, w⟩, if_pos w]
             · rw [if_neg (fun y => w y.2), if_neg w]; exact hM.tape.2 j (by omega)
           · rw [up1_at, if_neg (by omega), up1_ne _ _ _ (by decide)]
           · rw [up1_ne _ _ _ (by omega), up1_ne _ _ _ (by omega)])
  · refine x_ldc dX12_feed_12 k_X12_70 ?_
    refine x_iret dX12_feed_14 ?_
    unfold R_feed
    first
      | (rw [if_neg (fun z => Bool.false_ne_true (h_9.symm.trans z))]; exact ⟨rfl, hM, FrC.rf⟩)
      | (rw [if_pos h_9, if_neg (by omega)]; exact ⟨rfl, hM, FrC.rf⟩)
      | (rw [if_pos h_9, if_pos (by omega), tz]
         refine ⟨rfl, hM.setTape ⟨by rw [up1_at, if_pos ⟨rfl, rfl⟩]; rfl, fun j hj => ?_⟩ (fun k hk => ?_) (fun d hd => ?_), (FrC.rf.up (by decide)).up (by decide)⟩
         · rw [up1_ne _ _ _ (by decide), up1_at]
           show _ = nI (if j = σ.tn then z else σ.tb j)
           have hj2 : j < σ.tn + 1 := hj
           by_cases w : j = σ.tn
           · rw [if_pos ⟨rfl, w⟩, if_pos w]
           · rw [if_neg (fun y => w y.2), if_neg w]; exact hM.tape.2 j (by omega)
         · rw [up1_at, if_neg (by omega), up1_ne _ _ _ (by decide)]
         · rw [up1_ne _ _ _ (by omega), up1_ne _ _ _ (by omega)])
set_option maxRecDepth 100000 in
set_option maxHeartbeats 4000000 in
theorem m_copy {Ω : Om} {l : Launch} {M : Mem} {σ : Sg} (hM : IM M σ) (hW : SgW σ) {a i b j n : Int32} : Ct Ω l yX12_copy cX12_copy 7 3 (some .int) [.ref (Ω.2.2 34), .int a, .int i, .int b, .int j, .int n] M (fun ro M' => ro = some (.int (R_copy σ a i b j n).1) ∧ IM M' (R_copy σ a i b j n).2 ∧ FrC M M') := by
  have hS := hM.ms
  have hLv : Lv σ.v := hW.2.2.1
  have hw := hLv.wv
  have hn := hw.nums
  have hth := hM.there
  refine ct_of (by decide) (Nat.le_of_ble_eq_true rfl) ?_
  intro p e R s m args below meth c
  have key : ∀ (r i u j n : Nat), r < 8 → u < 8 → i + n ≤ 40 → j + n ≤ 40 → R_copy σ (nI r) (nI i) (nI u) (nI j) (nI n) = (nI n, σ.uRow σ.ln σ.sz (fun q k => if q = u ∧ j ≤ k ∧ k < j + n then σ.it r (i + (k - j)) else σ.it q k) (nI 0)) → X (mkG p l e R s m args below meth c Ω (fun ro M' => ro = some (.int (R_copy σ (nI r) (nI i) (nI u) (nI j) (nI n)).1) ∧ IM M' (R_copy σ (nI r) (nI i) (nI u) (nI j) (nI n)).2 ∧ FrC M M')) Ω RX12 cX12_copy 7 3 (some .int) 117 [some (.ref (Ω.2.2 34)), some (.int (nI r)), some (.int (nI i)), some (.int (nI u)), some (.int (nI j)), some (.int (nI n)), some (.int (nI 0))] [] M := by
    intro r i u j n hr hu hi hj hR
    obtain ⟨_, _, sr⟩ := hM.rows r hr
    have key2 : ∀ (k h : Nat) (M1 M0 : Mem), h + k = n → FC 39 M M0 → (∀ q, q < n → M0.1 39 q = σ.it r (i + q)) → FC 37 M0 M1 → (∀ q, M1.1 37 q = if 40 * u + j ≤ q ∧ q < 40 * u + j + h then σ.it r (i + (q - (40 * u + j))) else M.1 37 q) → X (mkG p l e R s m args below meth c Ω (fun ro M' => ro = some (.int (R_copy σ (nI r) (nI i) (nI u) (nI j) (nI n)).1) ∧ IM M' (R_copy σ (nI r) (nI i) (nI u) (nI j) (nI n)).2 ∧ FrC M M')) Ω RX12 cX12_copy 7 3 (some .int) 154 [some (.ref (Ω.2.2 34)), some (.int (nI r)), some (.int (nI i)), some (.int (nI u)), some (.int (nI j)), some (.int (nI n)), some (.int (nI h))] [] M1 := by
      intro k
      induction k with
      | zero =>
        intro h M1 M0 hk hF0 hm hF hz
        refine x_iload dX12_copy_154 rfl ?_
        refine x_iload dX12_copy_156 rfl ?_
        refine y_icmp_ge 189 dX12_copy_158 (by omega) (by omega) (fun h_158 => ?_) (fun h_158 => ?_)
        · refine x_aload_n dX12_copy_189 rfl ?_
          refine x_iload dX12_copy_190 rfl ?_
          refine q_X12_75 (m_well) dX12_copy_192 rfl ?_
          rintro _ _ ⟨rfl, rfl⟩
          refine x_iret dX12_copy_195 ?_
          obtain rfl : h = n := by omega
          rw [hR]
          refine ⟨rfl, hM.setRows (fun q hq => ?_) (by rw [up1_at, if_pos ⟨rfl, rfl⟩]) (fun k hk => ?_) (fun d hd => ?_), (((FrC.rf.fc hF0 (by decide)).fc hF (by decide)).up (by decide))⟩
          · rw [up1_ne _ _ _ (by decide), up1_ne _ _ _ (by decide), up1_ne _ _ _ (by decide), hF.2 35 (by decide), hF.2 36 (by decide), hF0.2 35 (by decide), hF0.2 36 (by decide)]
            obtain ⟨o1, o2, o3⟩ := hM.rows q hq
            refine ⟨o1, o2, fun k hk => ?_⟩
            rw [hz]
            by_cases w : q = u ∧ j ≤ k ∧ k < j + h
            · rw [if_pos (by omega), if_pos w, show 40 * q + k - (40 * u + j) = k - j by omega]
            · rw [if_neg (by omega), if_neg w]; exact o3 k hk
          · rw [up1_at, if_neg (fun y => hk y.2), hF.2 34 (by decide), hF0.2 34 (by decide)]
          · rw [up1_ne _ _ _ (by omega), hF.2 d (by omega), hF0.2 d (by omega)]
        · exfalso; omega
      | succ k ih =>
        intro h M1 M0 hk hF0 hm hF hz
        refine x_iload dX12_copy_154 rfl ?_
        refine x_iload dX12_copy_156 rfl ?_
        refine y_icmp_ge 189 dX12_copy_158 (by omega) (by omega) (fun h_158 => ?_) (fun h_158 => ?_)
        · exfalso; omega
        · refine x_aload_n dX12_copy_161 rfl ?_
          refine g_X12_16 dX12_copy_162 ?_
          refine x_bipush (v := nI 40) dX12_copy_165 rfl ?_
          refine x_iload_n dX12_copy_167 rfl ?_
          refine y_imul dX12_copy_168 ?_
          refine x_iload dX12_copy_169 rfl ?_
          refine y_iadd dX12_copy_171 ?_
          refine x_iload dX12_copy_172 rfl ?_
          refine y_iadd dX12_copy_174 ?_
          refine x_aload_n dX12_copy_175 rfl ?_
          refine g_X12_22 dX12_copy_176 ?_
          refine x_iload dX12_copy_179 rfl ?_
          refine x_ial dX12_copy_181 (⟨by decide, rfl, rfl, by decide⟩ : Ar 39 40) (by omega) ?_
          rw [hF.2 39 (by decide), hm h (by omega)]
          refine x_ias dX12_copy_182 (⟨by decide, rfl, rfl, by decide⟩ : Ar 37 320) (by omega) ?_
          refine y_iinc dX12_copy_183 rfl ?_
          refine x_goto 154 dX12_copy_186 ?_
          refine ih (h + 1) _ M0 (by omega) hF0 hm hF.up (fun q => ?_)
          rw [up1_at]
          by_cases z : q = 40 * u + j + h
          · rw [if_pos ⟨rfl, z⟩, if_pos (by omega), show q - (40 * u + j) = h by omega]
          · rw [if_neg (fun y => z y.2), hz]
            by_cases y : 40 * u + j ≤ q ∧ q < 40 * u + j + h
            · rw [if_pos y, if_pos (by omega)]
            · rw [if_neg y, if_neg (by omega)]
    have key1 : ∀ (k h : Nat) (M1 : Mem), h + k = n → FC 39 M M1 → (∀ q, q < h → M1.1 39 q = σ.it r (i + q)) → X (mkG p l e R s m args below meth c Ω (fun ro M' => ro = some (.int (R_copy σ (nI r) (nI i) (nI u) (nI j) (nI n)).1) ∧ IM M' (R_copy σ (nI r) (nI i) (nI u) (nI j) (nI n)).2 ∧ FrC M M')) Ω RX12 cX12_copy 7 3 (some .int) 117 [some (.ref (Ω.2.2 34)), some (.int (nI r)), some (.int (nI i)), some (.int (nI u)), some (.int (nI j)), some (.int (nI n)), some (.int (nI h))] [] M1 := by
      intro k
      induction k with
      | zero =>
        intro h M1 hk hF hm
        refine x_iload dX12_copy_117 rfl ?_
        refine x_iload dX12_copy_119 rfl ?_
        refine y_icmp_ge 151 dX12_copy_121 (by omega) (by omega) (fun h_121 => ?_) (fun h_121 => ?_)
        · refine y_iconst (a := 0) dX12_copy_151 rfl ?_
          refine x_istore dX12_copy_152 ?_
          obtain rfl : h = n := by omega
          exact key2 h 0 _ M1 (Nat.zero_add _) hF hm FC.rf (fun q => by rw [if_neg (by omega), hF.2 37 (by decide)])
        · exfalso; omega
      | succ k ih =>
        intro h M1 hk hF hm
        refine x_iload dX12_copy_117 rfl ?_
        refine x_iload dX12_copy_119 rfl ?_
        refine y_icmp_ge 151 dX12_copy_121 (by omega) (by omega) (fun h_121 => ?_) (fun h_121 => ?_)
        · exfalso; omega
        · refine x_aload_n dX12_copy_124 rfl ?_
          refine g_X12_22 dX12_copy_125 ?_
          refine x_iload dX12_copy_128 rfl ?_
          refine x_aload_n dX12_copy_130 rfl ?_
          refine g_X12_16 dX12_copy_131 ?_
          refine x_bipush (v := nI 40) dX12_copy_134 rfl ?_
          refine x_iload_n dX12_copy_136 rfl ?_
          refine y_imul dX12_copy_137 ?_
          refine x_iload_n dX12_copy_138 rfl ?_
          refine y_iadd dX12_copy_139 ?_
          refine x_iload dX12_copy_140 rfl ?_
          refine y_iadd dX12_copy_142 ?_
          refine x_ial dX12_copy_143 (⟨by decide, rfl, rfl, by decide⟩ : Ar 37 320) (by omega) ?_
          rw [hF.2 37 (by decide), show 40 * r + i + h = 40 * r + (i + h) from Nat.add_assoc _ _ _, sr (i + h) (by omega)]
          refine x_ias dX12_copy_144 (⟨by decide, rfl, rfl, by decide⟩ : Ar 39 40) (by omega) ?_
          refine y_iinc dX12_copy_145 rfl ?_
          refine x_goto 117 dX12_copy_148 ?_
          refine ih (h + 1) _ (by omega) hF.up (fun q hq => ?_)
          rw [up1_at]
          by_cases z : q = h
          · rw [if_pos ⟨rfl, z⟩, z]
          · rw [if_neg (fun y => z y.2)]; exact hm q (by omega)
    exact key1 n 0 M (Nat.zero_add _) FC.rf (fun q hq => absurd hq (Nat.not_lt_zero _))
  refine x_iload_n dX12_copy_0 rfl ?_
  refine q_X12_64 (m_isRow) dX12_copy_1 rfl ?_
  rintro _ _ ⟨rfl, rfl⟩
  refine z_if_eq 14 dX12_copy_4 (fun h_4 => ?_) (fun h_4 => ?_)
  · refine x_ldc dX12_copy_14 k_X12_70 ?_
    refine x_iret dX12_copy_16 ?_
    unfold R_copy
    first
      | (rw [if_neg (fun z => Bool.false_ne_true (h_4.symm.trans z.1))]; exact ⟨rfl, hM, FrC.rf⟩)
      | (rw [if_neg (fun z => Bool.false_ne_true (h_11.symm.trans z.2))]; exact ⟨rfl, hM, FrC.rf⟩)
      | (rw [if_pos ⟨h_4, h_11⟩, tr, tu, if_pos (Or.inl ((sz_neg hW hr).mp h_23))]; exact ⟨rfl, hM.setSt _⟩)
      | (rw [if_pos ⟨h_4, h_11⟩, tr, tu, if_pos (Or.inr ((sz_neg hW hu).mp h_32))]; exact ⟨rfl, hM.setSt _⟩)
      | (rw [if_pos ⟨h_4, h_11⟩, tr, tu, if_neg hszs, if_neg h_53]; exact ⟨rfl, hM.setSt _⟩)
      | (rw [if_pos ⟨h_4, h_11⟩, tr, tu, if_neg hszs, if_pos h_53, if_neg (fun z => by have q := z.1; unfold spn at q; simp only [decide_eq_true_eq] at q; omega)]; exact ⟨rfl, hM.setSt _⟩)
      | (rw [if_pos ⟨h_4, h_11⟩, tr, tu, if_neg hszs, if_pos h_53, if_neg (fun z => Bool.false_ne_true (h_84.symm.trans ((hs1 h_64).symm.trans z.1)))]; exact ⟨rfl, hM.setSt _⟩)
      | (rw [if_pos ⟨h_4, h_11⟩, tr, tu, if_neg hszs, if_pos h_53, if_neg (fun z => Bool.false_ne_true (h_105.symm.trans ((hs2 h_64).symm.trans z.2)))]; exact ⟨rfl, hM.setSt _⟩)
  · obtain ⟨r, hr, rfl⟩ := inR_nI h_4 (by decide)
    have tr := tN_nI (g := r) (by omega)
    obtain ⟨ro1, ro2, ro3⟩ := hM.rows r hr
    refine x_iload_n dX12_copy_7 rfl ?_
    refine q_X12_64 (m_isRow) dX12_copy_8 rfl ?_
    rintro _ _ ⟨rfl, rfl⟩
    refine z_if_ne 17 dX12_copy_11 (fun h_11 => ?_) (fun h_11 => ?_)
    · obtain ⟨u, hu, rfl⟩ := inR_nI h_11 (by decide)
      have tu := tN_nI (g := u) (by omega)
      obtain ⟨uo1, uo2, uo3⟩ := hM.rows u hu
      refine x_aload_n dX12_copy_17 rfl ?_
      refine g_X12_13 dX12_copy_18 ?_
      refine x_iload_n dX12_copy_21 rfl ?_
      refine x_ial dX12_copy_22 (⟨by decide, rfl, rfl, by decide⟩ : Ar 36 8) (by omega) ?_
      first
        | rw [ro2]
        | rw [uo2]
      refine x_if_lt 35 dX12_copy_23 (fun h_23 => ?_) (fun h_23 => ?_)
      · refine x_aload_n dX12_copy_35 rfl ?_
        refine y_iconst (a := 1) dX12_copy_36 rfl ?_
        refine q_X12_71 (m_find) dX12_copy_37 rfl ?_
        rintro _ _ ⟨rfl, rfl⟩
        refine x_iret dX12_copy_40 ?_
        unfold R_copy
        first
          | (rw [if_neg (fun z => Bool.false_ne_true (h_4.symm.trans z.1))]; exact ⟨rfl, hM, FrC.rf⟩)
          | (rw [if_neg (fun z => Bool.false_ne_true (h_11.symm.trans z.2))]; exact ⟨rfl, hM, FrC.rf⟩)
          | (rw [if_pos ⟨h_4, h_11⟩, tr, tu, if_pos (Or.inl ((sz_neg hW hr).mp h_23))]; exact ⟨rfl, hM.setSt _⟩)
          | (rw [if_pos ⟨h_4, h_11⟩, tr, tu, if_pos (Or.inr ((sz_neg hW hu).mp h_32))]; exact ⟨rfl, hM.setSt _⟩)
          | (rw [if_pos ⟨h_4, h_11⟩, tr, tu, if_neg hszs, if_neg h_53]; exact ⟨rfl, hM.setSt _⟩)
          | (rw [if_pos ⟨h_4, h_11⟩, tr, tu, if_neg hszs, if_pos h_53, if_neg (fun z => by have q := z.1; unfold spn at q; simp only [decide_eq_true_eq] at q; omega)]; exact ⟨rfl, hM.setSt _⟩)
          | (rw [if_pos ⟨h_4, h_11⟩, tr, tu, if_neg hszs, if_pos h_53, if_neg (fun z => Bool.false_ne_true (h_84.symm.trans ((hs1 h_64).symm.trans z.1)))]; exact ⟨rfl, hM.setSt _⟩)
          | (rw [if_pos ⟨h_4, h_11⟩, tr, tu, if_neg hszs, if_pos h_53, if_neg (fun z => Bool.false_ne_true (h_105.symm.trans ((hs2 h_64).symm.trans z.2)))]; exact ⟨rfl, hM.setSt _⟩)
      · refine x_aload_n dX12_copy_26 rfl ?_
        refine g_X12_13 dX12_copy_27 ?_
        refine x_iload_n dX12_copy_30 rfl ?_
        refine x_ial dX12_copy_31 (⟨by decide, rfl, rfl, by decide⟩ : Ar 36 8) (by omega) ?_
        first
          | rw [ro2]
          | rw [uo2]
        refine x_if_ge 41 dX12_copy_32 (fun h_32 => ?_) (fun h_32 => ?_)
        · have z1 : ¬ σ.sz r = -1 := fun z => by have := (sz_neg hW hr).mpr z; omega
          have z2 : ¬ σ.sz u = -1 := fun z => by have := (sz_neg hW hu).mpr z; omega
          have hszs : ¬ (σ.sz r = -1 ∨ σ.sz u = -1) := fun z => z.elim z1 z2
          obtain ⟨y1, hy1, e1⟩ := (hW.1 r hr).2.resolve_left z1
          obtain ⟨y2, hy2, e2⟩ := (hW.1 u hu).2.resolve_left z2
          have hs1 : 0 ≤ n.toInt → spn (σ.sz r) i n = decide ((lN 0).toInt ≤ i.toInt64.toInt ∧ i.toInt64.toInt ≤ ((σ.sz r).toInt64 - n.toInt64).toInt) := fun h => by
            obtain ⟨q1, q2⟩ := lsub_toInt y1 hy1 n h
            rw [e1]; unfold spn
            rw [q1, q2, lN_toInt (by decide), Int32.toInt_toInt64]
            exact decide_eq_decide.mpr (by omega)
          have hs2 : 0 ≤ n.toInt → spn (σ.sz u) j n = decide ((lN 0).toInt ≤ j.toInt64.toInt ∧ j.toInt64.toInt ≤ ((σ.sz u).toInt64 - n.toInt64).toInt) := fun h => by
            obtain ⟨q1, q2⟩ := lsub_toInt y2 hy2 n h
            rw [e2]; unfold spn
            rw [q1, q2, lN_toInt (by decide), Int32.toInt_toInt64]
            exact decide_eq_decide.mpr (by omega)
          refine x_aload_n dX12_copy_41 rfl ?_
          refine g_X12_7 dX12_copy_42 ?_
          refine x_iload_n dX12_copy_45 rfl ?_
          refine x_ial dX12_copy_46 (⟨by decide, rfl, rfl, by decide⟩ : Ar 35 8) (by omega) ?_
          first
            | rw [ro1]
            | rw [uo1]
          refine x_aload_n dX12_copy_47 rfl ?_
          refine g_X12_7 dX12_copy_48 ?_
          refine x_iload_n dX12_copy_51 rfl ?_
          refine x_ial dX12_copy_52 (⟨by decide, rfl, rfl, by decide⟩ : Ar 35 8) (by omega) ?_
          first
            | rw [ro1]
            | rw [uo1]
          refine x_icmp_eq 62 dX12_copy_53 (fun h_53 => ?_) (fun h_53 => ?_)
          · refine x_iload dX12_copy_62 rfl ?_
            refine x_if_lt 108 dX12_copy_64 (fun h_64 => ?_) (fun h_64 => ?_)
            · refine x_aload_n dX12_copy_108 rfl ?_
              refine y_iconst (a := 2) dX12_copy_109 rfl ?_
              refine q_X12_71 (m_find) dX12_copy_110 rfl ?_
              rintro _ _ ⟨rfl, rfl⟩
              refine x_iret dX12_copy_113 ?_
              unfold R_copy
              first
                | (rw [if_neg (fun z => Bool.false_ne_true (h_4.symm.trans z.1))]; exact ⟨rfl, hM, FrC.rf⟩)
                | (rw [if_neg (fun z => Bool.false_ne_true (h_11.symm.trans z.2))]; exact ⟨rfl, hM, FrC.rf⟩)
                | (rw [if_pos ⟨h_4, h_11⟩, tr, tu, if_pos (Or.inl ((sz_neg hW hr).mp h_23))]; exact ⟨rfl, hM.setSt _⟩)
                | (rw [if_pos ⟨h_4, h_11⟩, tr, tu, if_pos (Or.inr ((sz_neg hW hu).mp h_32))]; exact ⟨rfl, hM.setSt _⟩)
                | (rw [if_pos ⟨h_4, h_11⟩, tr, tu, if_neg hszs, if_neg h_53]; exact ⟨rfl, hM.setSt _⟩)
                | (rw [if_pos ⟨h_4, h_11⟩, tr, tu, if_neg hszs, if_pos h_53, if_neg (fun z => by have q := z.1; unfold spn at q; simp only [decide_eq_true_eq] at q; omega)]; exact ⟨rfl, hM.setSt _⟩)
                | (rw [if_pos ⟨h_4, h_11⟩, tr, tu, if_neg hszs, if_pos h_53, if_neg (fun z => Bool.false_ne_true (h_84.symm.trans ((hs1 h_64).symm.trans z.1)))]; exact ⟨rfl, hM.setSt _⟩)
                | (rw [if_pos ⟨h_4, h_11⟩, tr, tu, if_neg hszs, if_pos h_53, if_neg (fun z => Bool.false_ne_true (h_105.symm.trans ((hs2 h_64).symm.trans z.2)))]; exact ⟨rfl, hM.setSt _⟩)
            · refine x_iload_n dX12_copy_67 rfl ?_
              refine x_i2l dX12_copy_68 ?_
              refine x_lconst (v := lN 0) dX12_copy_69 rfl ?_
              refine x_aload_n dX12_copy_70 rfl ?_
              refine g_X12_13 dX12_copy_71 ?_
              refine x_iload_n dX12_copy_74 rfl ?_
              refine x_ial dX12_copy_75 (⟨by decide, rfl, rfl, by decide⟩ : Ar 36 8) (by omega) ?_
              first
                | rw [ro2]
                | rw [uo2]
              refine x_i2l dX12_copy_76 ?_
              refine x_iload dX12_copy_77 rfl ?_
              refine x_i2l dX12_copy_79 ?_
              refine x_lsub dX12_copy_80 ?_
              refine q_X12_60 (m_in) dX12_copy_81 rfl ?_
              rintro _ _ ⟨rfl, rfl⟩
              refine z_if_eq 108 dX12_copy_84 (fun h_84 => ?_) (fun h_84 => ?_)
              · refine x_aload_n dX12_copy_108 rfl ?_
                refine y_iconst (a := 2) dX12_copy_109 rfl ?_
                refine q_X12_71 (m_find) dX12_copy_110 rfl ?_
                rintro _ _ ⟨rfl, rfl⟩
                refine x_iret dX12_copy_113 ?_
                unfold R_copy
                first
                  | (rw [if_neg (fun z => Bool.false_ne_true (h_4.symm.trans z.1))]; exact ⟨rfl, hM, FrC.rf⟩)
                  | (rw [if_neg (fun z => Bool.false_ne_true (h_11.symm.trans z.2))]; exact ⟨rfl, hM, FrC.rf⟩)
                  | (rw [if_pos ⟨h_4, h_11⟩, tr, tu, if_pos (Or.inl ((sz_neg hW hr).mp h_23))]; exact ⟨rfl, hM.setSt _⟩)
                  | (rw [if_pos ⟨h_4, h_11⟩, tr, tu, if_pos (Or.inr ((sz_neg hW hu).mp h_32))]; exact ⟨rfl, hM.setSt _⟩)
                  | (rw [if_pos ⟨h_4, h_11⟩, tr, tu, if_neg hszs, if_neg h_53]; exact ⟨rfl, hM.setSt _⟩)
                  | (rw [if_pos ⟨h_4, h_11⟩, tr, tu, if_neg hszs, if_pos h_53, if_neg (fun z => by have q := z.1; unfold spn at q; simp only [decide_eq_true_eq] at q; omega)]; exact ⟨rfl, hM.setSt _⟩)
                  | (rw [if_pos ⟨h_4, h_11⟩, tr, tu, if_neg hszs, if_pos h_53, if_neg (fun z => Bool.false_ne_true (h_84.symm.trans ((hs1 h_64).symm.trans z.1)))]; exact ⟨rfl, hM.setSt _⟩)
                  | (rw [if_pos ⟨h_4, h_11⟩, tr, tu, if_neg hszs, if_pos h_53, if_neg (fun z => Bool.false_ne_true (h_105.symm.trans ((hs2 h_64).symm.trans z.2)))]; exact ⟨rfl, hM.setSt _⟩)
              · refine x_iload dX12_copy_87 rfl ?_
                refine x_i2l dX12_copy_89 ?_
                refine x_lconst (v := lN 0) dX12_copy_90 rfl ?_
                refine x_aload_n dX12_copy_91 rfl ?_
                refine g_X12_13 dX12_copy_92 ?_
                refine x_iload_n dX12_copy_95 rfl ?_
                refine x_ial dX12_copy_96 (⟨by decide, rfl, rfl, by decide⟩ : Ar 36 8) (by omega) ?_
                first
                  | rw [ro2]
                  | rw [uo2]
                refine x_i2l dX12_copy_97 ?_
                refine x_iload dX12_copy_98 rfl ?_
                refine x_i2l dX12_copy_100 ?_
                refine x_lsub dX12_copy_101 ?_
                refine q_X12_60 (m_in) dX12_copy_102 rfl ?_
                rintro _ _ ⟨rfl, rfl⟩
                refine z_if_ne 114 dX12_copy_105 (fun h_105 => ?_) (fun h_105 => ?_)
                · refine y_iconst (a := 0) dX12_copy_114 rfl ?_
                  refine x_istore dX12_copy_115 ?_
                  have p1 : spn (σ.sz r) i n = true := (hs1 h_64).trans h_84
                  have p2 : spn (σ.sz u) j n = true := (hs2 h_64).trans h_105
                  have p1' := p1
                  have p2' := p2
                  rw [e1] at p1'
                  rw [e2] at p2'
                  obtain ⟨i, n, hi, rfl, rfl⟩ := spn_nat2 hy1 p1'
                  obtain ⟨j, hj, rfl⟩ := spn_nat hy2 (show n ≤ 40 by omega) p2'
                  exact key r i u j n hr hu (by omega) (by omega) (by unfold R_copy; rw [if_pos ⟨h_4, h_11⟩, tr, tu, if_neg hszs, if_pos h_53, if_pos ⟨p1, p2⟩, tN_nI (g := i) (by omega), tN_nI (g := j) (by omega), tN_nI (g := n) (by omega)])
                · refine x_aload_n dX12_copy_108 rfl ?_
                  refine y_iconst (a := 2) dX12_copy_109 rfl ?_
                  refine q_X12_71 (m_find) dX12_copy_110 rfl ?_
                  rintro _ _ ⟨rfl, rfl⟩
                  refine x_iret dX12_copy_113 ?_
                  unfold R_copy
                  first
                    | (rw [if_neg (fun z => Bool.false_ne_true (h_4.symm.trans z.1))]; exact ⟨rfl, hM, FrC.rf⟩)
                    | (rw [if_neg (fun z => Bool.false_ne_true (h_11.symm.trans z.2))]; exact ⟨rfl, hM, FrC.rf⟩)
                    | (rw [if_pos ⟨h_4, h_11⟩, tr, tu, if_pos (Or.inl ((sz_neg hW hr).mp h_23))]; exact ⟨rfl, hM.setSt _⟩)
                    | (rw [if_pos ⟨h_4, h_11⟩, tr, tu, if_pos (Or.inr ((sz_neg hW hu).mp h_32))]; exact ⟨rfl, hM.setSt _⟩)
                    | (rw [if_pos ⟨h_4, h_11⟩, tr, tu, if_neg hszs, if_neg h_53]; exact ⟨rfl, hM.setSt _⟩)
                    | (rw [if_pos ⟨h_4, h_11⟩, tr, tu, if_neg hszs, if_pos h_53, if_neg (fun z => by have q := z.1; unfold spn at q; simp only [decide_eq_true_eq] at q; omega)]; exact ⟨rfl, hM.setSt _⟩)
                    | (rw [if_pos ⟨h_4, h_11⟩, tr, tu, if_neg hszs, if_pos h_53, if_neg (fun z => Bool.false_ne_true (h_84.symm.trans ((hs1 h_64).symm.trans z.1)))]; exact ⟨rfl, hM.setSt _⟩)
                    | (rw [if_pos ⟨h_4, h_11⟩, tr, tu, if_neg hszs, if_pos h_53, if_neg (fun z => Bool.false_ne_true (h_105.symm.trans ((hs2 h_64).symm.trans z.2)))]; exact ⟨rfl, hM.setSt _⟩)
          · refine x_aload_n dX12_copy_56 rfl ?_
            refine y_iconst (a := 5) dX12_copy_57 rfl ?_
            refine q_X12_71 (m_find) dX12_copy_58 rfl ?_
            rintro _ _ ⟨rfl, rfl⟩
            refine x_iret dX12_copy_61 ?_
            unfold R_copy
            first
              | (rw [if_neg (fun z => Bool.false_ne_true (h_4.symm.trans z.1))]; exact ⟨rfl, hM, FrC.rf⟩)
              | (rw [if_neg (fun z => Bool.false_ne_true (h_11.symm.trans z.2))]; exact ⟨rfl, hM, FrC.rf⟩)
              | (rw [if_pos ⟨h_4, h_11⟩, tr, tu, if_pos (Or.inl ((sz_neg hW hr).mp h_23))]; exact ⟨rfl, hM.setSt _⟩)
              | (rw [if_pos ⟨h_4, h_11⟩, tr, tu, if_pos (Or.inr ((sz_neg hW hu).mp h_32))]; exact ⟨rfl, hM.setSt _⟩)
              | (rw [if_pos ⟨h_4, h_11⟩, tr, tu, if_neg hszs, if_neg h_53]; exact ⟨rfl, hM.setSt _⟩)
              | (rw [if_pos ⟨h_4, h_11⟩, tr, tu, if_neg hszs, if_pos h_53, if_neg (fun z => by have q := z.1; unfold spn at q; simp only [decide_eq_true_eq] at q; omega)]; exact ⟨rfl, hM.setSt _⟩)
              | (rw [if_pos ⟨h_4, h_11⟩, tr, tu, if_neg hszs, if_pos h_53, if_neg (fun z => Bool.false_ne_true (h_84.symm.trans ((hs1 h_64).symm.trans z.1)))]; exact ⟨rfl, hM.setSt _⟩)
              | (rw [if_pos ⟨h_4, h_11⟩, tr, tu, if_neg hszs, if_pos h_53, if_neg (fun z => Bool.false_ne_true (h_105.symm.trans ((hs2 h_64).symm.trans z.2)))]; exact ⟨rfl, hM.setSt _⟩)
        · refine x_aload_n dX12_copy_35 rfl ?_
          refine y_iconst (a := 1) dX12_copy_36 rfl ?_
          refine q_X12_71 (m_find) dX12_copy_37 rfl ?_
          rintro _ _ ⟨rfl, rfl⟩
          refine x_iret dX12_copy_40 ?_
          unfold R_copy
          first
            | (rw [if_neg (fun z => Bool.false_ne_true (h_4.symm.trans z.1))]; exact ⟨rfl, hM, FrC.rf⟩)
            | (rw [if_neg (fun z => Bool.false_ne_true (h_11.symm.trans z.2))]; exact ⟨rfl, hM, FrC.rf⟩)
            | (rw [if_pos ⟨h_4, h_11⟩, tr, tu, if_pos (Or.inl ((sz_neg hW hr).mp h_23))]; exact ⟨rfl, hM.setSt _⟩)
            | (rw [if_pos ⟨h_4, h_11⟩, tr, tu, if_pos (Or.inr ((sz_neg hW hu).mp h_32))]; exact ⟨rfl, hM.setSt _⟩)
            | (rw [if_pos ⟨h_4, h_11⟩, tr, tu, if_neg hszs, if_neg h_53]; exact ⟨rfl, hM.setSt _⟩)
            | (rw [if_pos ⟨h_4, h_11⟩, tr, tu, if_neg hszs, if_pos h_53, if_neg (fun z => by have q := z.1; unfold spn at q; simp only [decide_eq_true_eq] at q; omega)]; exact ⟨rfl, hM.setSt _⟩)
            | (rw [if_pos ⟨h_4, h_11⟩, tr, tu, if_neg hszs, if_pos h_53, if_neg (fun z => Bool.false_ne_true (h_84.symm.trans ((hs1 h_64).symm.trans z.1)))]; exact ⟨rfl, hM.setSt _⟩)
            | (rw [if_pos ⟨h_4, h_11⟩, tr, tu, if_neg hszs, if_pos h_53, if_neg (fun z => Bool.false_ne_true (h_105.symm.trans ((hs2 h_64).symm.trans z.2)))]; exact ⟨rfl, hM.setSt _⟩)
    · refine x_ldc dX12_copy_14 k_X12_70 ?_
      refine x_iret dX12_copy_16 ?_
      unfold R_copy
      first
        | (rw [if_neg (fun z => Bool.false_ne_true (h_4.symm.trans z.1))]; exact ⟨rfl, hM, FrC.rf⟩)
        | (rw [if_neg (fun z => Bool.false_ne_true (h_11.symm.trans z.2))]; exact ⟨rfl, hM, FrC.rf⟩)
        | (rw [if_pos ⟨h_4, h_11⟩, tr, tu, if_pos (Or.inl ((sz_neg hW hr).mp h_23))]; exact ⟨rfl, hM.setSt _⟩)
        | (rw [if_pos ⟨h_4, h_11⟩, tr, tu, if_pos (Or.inr ((sz_neg hW hu).mp h_32))]; exact ⟨rfl, hM.setSt _⟩)
        | (rw [if_pos ⟨h_4, h_11⟩, tr, tu, if_neg hszs, if_neg h_53]; exact ⟨rfl, hM.setSt _⟩)
        | (rw [if_pos ⟨h_4, h_11⟩, tr, tu, if_neg hszs, if_pos h_53, if_neg (fun z => by have q := z.1; unfold spn at q; simp only [decide_eq_true_eq] at q; omega)]; exact ⟨rfl, hM.setSt _⟩)
        | (rw [if_pos ⟨h_4, h_11⟩, tr, tu, if_neg hszs, if_pos h_53, if_neg (fun z => Bool.false_ne_true (h_84.symm.trans ((hs1 h_64).symm.trans z.1)))]; exact ⟨rfl, hM.setSt _⟩)
        | (rw [if_pos ⟨h_4, h_11⟩, tr, tu, if_neg hszs, if_pos h_53, if_neg (fun z => Bool.false_ne_true (h_105.symm.trans ((hs2 h_64).symm.trans z.2)))]; exact ⟨rfl, hM.setSt _⟩)
