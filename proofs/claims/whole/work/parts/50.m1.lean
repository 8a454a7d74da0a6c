/-! THE REFERENCE, first part (laid by gen_m1.py): its array st holds the numbers of a lake, all 45 -/
def MsR (M : Mem) (v : Nat → Nat) : Prop := ∀ k, k < 45 → M.1 38 k = nI (v k)
def AsR (M : Mem) (v : Nat → Nat) : Prop := ∀ k, k < 45 → M.1 43 k = nI (v k)
theorem MsR.at {M : Mem} {v : Nat → Nat} (h : MsR M v) {k : Nat} (hk : k < 45) : M.1 38 k = nI (v k) := h k hk
theorem AsR.at {M : Mem} {v : Nat → Nat} (h : AsR M v) {k : Nat} (hk : k < 45) : M.1 43 k = nI (v k) := h k hk
theorem MsR.set {M : Mem} {v : Nat → Nat} (h : MsR M v) (k x : Nat) : MsR (up1 M 38 k (nI x)) (sv v k x) := by
  intro j hj
  rw [up1_at]
  unfold sv
  by_cases e : j = k
  · rw [if_pos ⟨rfl, e⟩, if_pos e]
  · rw [if_neg (fun z => e z.2), if_neg e]; exact h j hj
theorem MsR.congr {M : Mem} {v w : Nat → Nat} (h : MsR M v) (e : ∀ j, j < 45 → w j = v j) : MsR M w := fun j hj => by rw [e j hj]; exact h j hj
/-- only st changed -/
def FS (M M' : Mem) : Prop := M'.2 = M.2 ∧ ∀ c, c ≠ 38 → M'.1 c = M.1 c
theorem FS.rf {M : Mem} : FS M M := ⟨rfl, fun _ _ => rfl⟩
theorem FS.tr {M M1 M2 : Mem} (h : FS M M1) (h2 : FS M1 M2) : FS M M2 := ⟨h2.1.trans h.1, fun c hc => (h2.2 c hc).trans (h.2 c hc)⟩
theorem FS.up {M M1 : Mem} (h : FS M M1) {k : Nat} {x : Int32} : FS M (up1 M1 38 k x) := ⟨h.1, fun d hd => by rw [up1_ne M1 k x hd]; exact h.2 d hd⟩
theorem AsR.keep {M M' : Mem} {v : Nat → Nat} (h : AsR M v) (hF : FS M M') : AsR M' v := fun k hk => by rw [hF.2 43 (by decide)]; exact h k hk
theorem lgc_lt {x y : Int64} : (lg_cmp x y).toInt < 0 ↔ x.toInt < y.toInt := by
  unfold lg_cmp
  split
  · next h =>
    have h := Int64.lt_iff_toInt_lt.mp h
    simp
    omega
  · next h =>
    have h : ¬ y.toInt < x.toInt := fun z => h (Int64.lt_iff_toInt_lt.mpr z)
    split
    · next e => subst e; simp
    · next e =>
      have : ¬ x.toInt = y.toInt := fun z => e (Int64.toInt_inj.mp z)
      simp
      omega
theorem lgc_gt {x y : Int64} : 0 < (lg_cmp x y).toInt ↔ y.toInt < x.toInt := by
  unfold lg_cmp
  split
  · next h =>
    have h := Int64.lt_iff_toInt_lt.mp h
    simp
    omega
  · next h =>
    have h : ¬ y.toInt < x.toInt := fun z => h (Int64.lt_iff_toInt_lt.mpr z)
    split
    · next e => subst e; simp
    · next e =>
      simp
      omega
theorem pop_dec : ∀ s, s < 512 → ¬ s = 0 → pop (s &&& (s - 1)) + 1 = pop s := by decide +kernel
theorem sumN_add (f g : Nat → Nat) : ∀ n, sumN f n + sumN g n = sumN (fun k => f k + g k) n
  | 0 => rfl
  | n + 1 => by
    have := sumN_add f g n
    simp only [sumN]
    omega
theorem loads_all (v : Nat → Nat) : ∀ n, sumN (fun p => loadA v (p + 1)) n = sumN (fun g => if ¬ v (33 + g) = 0 ∧ v (33 + g) ≤ n then lo v g else 0) (v 2)
  | 0 => by
    have : ∀ m, sumN (fun g => if ¬ v (33 + g) = 0 ∧ v (33 + g) ≤ 0 then lo v g else 0) m = 0 := by
      intro m
      induction m with
      | zero => rfl
      | succ m ih => simp only [sumN]; rw [ih, if_neg (by omega)]
    rw [this]; rfl
  | n + 1 => by
    simp only [sumN]
    rw [loads_all v n]
    unfold loadA
    rw [sumN_add]
    refine sumN_congr (fun g _ => ?_)
    by_cases h1 : v (33 + g) = 0
    · rw [if_neg (by omega), if_neg (by omega), if_neg (by omega)]
    · by_cases h2 : v (33 + g) ≤ n
      · rw [if_pos ⟨h1, h2⟩, if_neg (by omega), if_pos ⟨h1, by omega⟩]; omega
      · by_cases h3 : v (33 + g) = n + 1
        · rw [if_neg (by omega), if_pos h3, if_pos ⟨h1, by omega⟩]; omega
        · rw [if_neg (by omega), if_neg h3, if_neg (by omega)]
theorem loads_R (v : Nat → Nat) : sumN (fun p => loadA v (p + 1)) (v 0) = loadR v := by
  rw [loads_all]
  unfold loadR
  refine sumN_congr (fun g _ => ?_)
  by_cases h : ¬ v (33 + g) = 0 ∧ v (33 + g) ≤ v 0
  · rw [if_pos h, if_pos (by simp [onr, h])]
  · rw [if_neg h, if_neg (by simp [onr]; omega)]
theorem loads_le {v : Nat → Nat} (hw : Wv v) (n : Nat) : sumN (fun p => loadA v (p + 1)) n ≤ 180 := by
  rw [loads_all]
  have h1 : sumN (fun g => if ¬ v (33 + g) = 0 ∧ v (33 + g) ≤ n then lo v g else 0) (v 2) ≤ v 2 * 30 := sumN_le (fun k hk => by have := lo_le hw hk; split <;> omega)
  have := hw.nums
  omega
theorem nO_neg {o : Option Nat} (ho : ∀ q, o = some q → q < 2 ^ 31) : (nO o).toInt < 0 ↔ o = none := by
  cases o with
  | none => simp [nO]
  | some q =>
    have := nI_toInt (ho q rfl)
    simp only [nO]
    rw [this]
    simp
theorem hiN_brk {v : Nat → Nat} {p : Nat} (hp : p < v 0) : hiN v (p + 1) = if brk v (p + 1) = true then hiN v p else p + 1 := by
  have e : brk v (p + 1) = decide (v (6 + p) = 0) := by
    unfold brk
    rw [show 5 + (p + 1) = 6 + p by omega]
    simp [Nat.succ_le_of_lt hp]
  rw [e]
  simp only [hiN]
  by_cases h : v (6 + p) = 0 <;> simp [h]
theorem m1_add {a : Nat} (h : 1 ≤ a) : nI a + (-1) = nI (a - 1) := by
  obtain ⟨b, rfl⟩ : ∃ b, a = b + 1 := ⟨a - 1, by omega⟩
  exact pk_m1 b

set_option maxRecDepth 100000 in
set_option maxHeartbeats 4000000 in
theorem m_in {Ω : Om} {l : Launch} {M : Mem} {x y z : Int64} : Ct Ω l yX12_in cX12_in 6 1 (some .boolean) [.long x, .long y, .long z] M (fun ro M' => ro = some (.int (bI (decide (y.toInt ≤ x.toInt ∧ x.toInt ≤ z.toInt)))) ∧ M = M') := by
  refine ct_of (by decide) (Nat.le_of_ble_eq_true rfl) ?_
  intro p e R s m args below meth c
  refine x_lload_n dX12_in_0 rfl ?_
  refine x_lload_n dX12_in_1 rfl ?_
  refine x_lcmp dX12_in_2 ?_
  refine x_if_lt 17 dX12_in_3 (fun h_3 => ?_) (fun h_3 => ?_)
  · refine y_iconst (a := 0) dX12_in_17 rfl ?_
    first | refine z_iret dX12_in_18 ?_ | refine z_iret0 dX12_in_18 ?_ | refine z_iret1 dX12_in_18 ?_
    refine ⟨congrArg (fun z => some (Value.int (bI z))) ?_, rfl⟩
    have h_3 := h_3
    try rw [lgc_lt] at h_3
    try rw [← Int.not_lt, lgc_lt] at h_3
    try rw [lgc_gt] at h_10
    try rw [← Int.not_lt, lgc_gt] at h_10
    simp
    omega
  · refine x_lload_n dX12_in_6 rfl ?_
    refine x_lload dX12_in_7 rfl ?_
    refine x_lcmp dX12_in_9 ?_
    refine x_if_gt 17 dX12_in_10 (fun h_10 => ?_) (fun h_10 => ?_)
    · refine y_iconst (a := 0) dX12_in_17 rfl ?_
      first | refine z_iret dX12_in_18 ?_ | refine z_iret0 dX12_in_18 ?_ | refine z_iret1 dX12_in_18 ?_
      refine ⟨congrArg (fun z => some (Value.int (bI z))) ?_, rfl⟩
      have h_3 := h_3
      try rw [lgc_lt] at h_3
      try rw [← Int.not_lt, lgc_lt] at h_3
      try rw [lgc_gt] at h_10
      try rw [← Int.not_lt, lgc_gt] at h_10
      simp
      omega
    · refine y_iconst (a := 1) dX12_in_13 rfl ?_
      refine x_goto 18 dX12_in_14 ?_
      first | refine z_iret dX12_in_18 ?_ | refine z_iret0 dX12_in_18 ?_ | refine z_iret1 dX12_in_18 ?_
      refine ⟨congrArg (fun z => some (Value.int (bI z))) ?_, rfl⟩
      have h_3 := h_3
      try rw [lgc_lt] at h_3
      try rw [← Int.not_lt, lgc_lt] at h_3
      try rw [lgc_gt] at h_10
      try rw [← Int.not_lt, lgc_gt] at h_10
      simp
      omega
theorem m_inB {Ω : Om} {l : Launch} {M : Mem} {x : Int32} {a b : Nat} (ha : a < 2 ^ 31) (hb : b < 2 ^ 31) : Ct Ω l yX12_in cX12_in 6 1 (some .boolean) [.long x.toInt64, .long (lN a), .long (lN b)] M (fun ro M' => ro = some (.int (bI (inB x a b))) ∧ M = M') := by
  have h := m_in (Ω := Ω) (l := l) (M := M) (x := x.toInt64) (y := lN a) (z := lN b)
  rw [lN_toInt ha, lN_toInt hb, Int32.toInt_toInt64] at h
  exact h
theorem m_inR {Ω : Om} {l : Launch} {M : Mem} {x : Int32} {n : Nat} (hn : n < 2 ^ 30) : Ct Ω l yX12_in cX12_in 6 1 (some .boolean) [.long x.toInt64, .long (lN 0), .long (nI n - nI 1).toInt64] M (fun ro M' => ro = some (.int (bI (inR x n))) ∧ M = M') := by
  have h := m_in (Ω := Ω) (l := l) (M := M) (x := x.toInt64) (y := lN 0) (z := (nI n - nI 1).toInt64)
  rw [lN_toInt (by decide), Int32.toInt_toInt64, Int32.toInt_toInt64, pk_sub_toInt hn (by decide)] at h
  have e : inR x n = decide (((0 : Nat) : Int) ≤ x.toInt ∧ x.toInt ≤ (n : Int) - (1 : Nat)) := by
    unfold inR
    exact decide_eq_decide.mpr (by omega)
  rw [e]
  exact h
set_option maxRecDepth 100000 in
set_option maxHeartbeats 4000000 in
theorem m_has {Ω : Om} {l : Launch} {M : Mem} {a g : Nat} (ha : a < 2 ^ 31) (hg : g < 32) : Ct Ω l yX12_has cX12_has 2 1 (some .boolean) [.int (nI a), .int (nI g)] M (fun ro M' => ro = some (.int (bI (a.testBit g))) ∧ M = M') := by
  refine ct_of (by decide) (Nat.le_of_ble_eq_true rfl) ?_
  intro p e R s m args below meth c
  refine x_iload_n dX12_has_0 rfl ?_
  refine x_iload_n dX12_has_1 rfl ?_
  refine y_ishr dX12_has_2 (by omega) (by omega) ?_
  refine y_iconst (a := 1) dX12_has_3 rfl ?_
  refine y_iand dX12_has_4 ?_
  rw [and1]
  have hc : (if a.testBit g = true then 1 else 0) < 2 := by split <;> omega
  refine y_iconst (a := 1) dX12_has_5 rfl ?_
  refine y_icmp_ne 13 dX12_has_6 (by omega) (by omega) (fun h_6 => ?_) (fun h_6 => ?_)
  · refine y_iconst (a := 0) dX12_has_13 rfl ?_
    first | refine z_iret dX12_has_14 ?_ | refine z_iret0 dX12_has_14 ?_ | refine z_iret1 dX12_has_14 ?_
    exact ⟨by simp_all, rfl⟩
  · refine y_iconst (a := 1) dX12_has_9 rfl ?_
    refine x_goto 14 dX12_has_10 ?_
    first | refine z_iret dX12_has_14 ?_ | refine z_iret0 dX12_has_14 ?_ | refine z_iret1 dX12_has_14 ?_
    exact ⟨by simp_all, rfl⟩
set_option maxRecDepth 100000 in
set_option maxHeartbeats 4000000 in
theorem m_ones {Ω : Om} {l : Launch} {M : Mem} {a : Nat} (ha : a < 512) : Ct Ω l yX12_ones cX12_ones 3 1 (some .int) [.int (nI a)] M (fun ro M' => ro = some (.int (nI (pop a))) ∧ M = M') := by
  refine ct_of (by decide) (Nat.le_of_ble_eq_true rfl) ?_
  intro p e R s m args below meth c
  have key : ∀ (k : Nat) (z k2 : Nat), z ≤ k ∧ z < 512 ∧ k2 + pop z = pop a → X (mkG p l e R s m args below meth c Ω (fun ro M' => ro = some (.int (nI (pop a))) ∧ M = M')) Ω RX12 cX12_ones 3 1 (some .int) 4 [some (.int (nI a)), some (.int (nI k2)), some (.int (nI z))] [] M := by
    intro k
    induction k with
    | zero =>
      intro z k2 hk
      obtain ⟨hk, hs, he⟩ := hk
      refine x_iload_n dX12_ones_4 rfl ?_
      refine y_if_eq 20 dX12_ones_5 (by omega) (fun h_5 => ?_) (fun h_5 => ?_)
      · refine x_iload_n dX12_ones_20 rfl ?_
        refine x_iret dX12_ones_21 ?_
        have h0 : z = 0 := by omega
        subst h0
        rw [show pop 0 = 0 from by decide] at he
        rw [← he]
        exact ⟨rfl, rfl⟩
      · exfalso; omega
    | succ k ih =>
      intro z k2 hk
      obtain ⟨hk, hs, he⟩ := hk
      refine x_iload_n dX12_ones_4 rfl ?_
      refine y_if_eq 20 dX12_ones_5 (by omega) (fun h_5 => ?_) (fun h_5 => ?_)
      · refine x_iload_n dX12_ones_20 rfl ?_
        refine x_iret dX12_ones_21 ?_
        have h0 : z = 0 := by omega
        subst h0
        rw [show pop 0 = 0 from by decide] at he
        rw [← he]
        exact ⟨rfl, rfl⟩
      · refine y_iinc dX12_ones_8 rfl ?_
        refine x_iload_n dX12_ones_11 rfl ?_
        refine x_iload_n dX12_ones_12 rfl ?_
        refine y_iconst (a := 1) dX12_ones_13 rfl ?_
        refine y_isub dX12_ones_14 (by omega) ?_
        refine y_iand dX12_ones_15 ?_
        refine x_istore_n dX12_ones_16 ?_
        refine x_goto 4 dX12_ones_17 ?_
        have hl : z &&& (z - 1) ≤ z - 1 := Nat.and_le_right
        have hd := pop_dec z hs (by assumption)
        exact ih _ _ ⟨by omega, by omega, by omega⟩
  refine y_iconst (a := 0) dX12_ones_0 rfl ?_
  refine x_istore_n dX12_ones_1 ?_
  refine x_iload_n dX12_ones_2 rfl ?_
  refine x_istore_n dX12_ones_3 ?_
  exact key a a 0 ⟨Nat.le_refl _, ha, by omega⟩
set_option maxRecDepth 100000 in
set_option maxHeartbeats 4000000 in
theorem m_find {Ω : Om} {l : Launch} {M : Mem} {x : Int32} : Ct Ω l yX12_find cX12_find 2 1 (some .int) [.ref (Ω.2.2 34), .int x] M (fun ro M' => ro = some (.int (-1000010 - x)) ∧ up1 M 34 3 x = M') := by
  refine ct_of (by decide) (Nat.le_of_ble_eq_true rfl) ?_
  intro p e R s m args below meth c
  refine x_aload_n dX12_find_0 rfl ?_
  refine x_iload_n dX12_find_1 rfl ?_
  refine p_X12_53 dX12_find_2 ?_
  refine x_ldc dX12_find_5 k_X12_57 ?_
  refine x_iload_n dX12_find_7 rfl ?_
  refine x_isub dX12_find_8 ?_
  refine x_iret dX12_find_9 ?_
  exact ⟨rfl, rfl⟩
set_option maxRecDepth 100000 in
set_option maxHeartbeats 4000000 in
theorem m_well {Ω : Om} {l : Launch} {M : Mem} {x : Int32} : Ct Ω l yX12_well cX12_well 2 1 (some .int) [.ref (Ω.2.2 34), .int x] M (fun ro M' => ro = some (.int x) ∧ up1 M 34 3 (nI 0) = M') := by
  refine ct_of (by decide) (Nat.le_of_ble_eq_true rfl) ?_
  intro p e R s m args below meth c
  refine x_aload_n dX12_well_0 rfl ?_
  refine y_iconst (a := 0) dX12_well_1 rfl ?_
  refine p_X12_53 dX12_well_2 ?_
  refine x_iload_n dX12_well_5 rfl ?_
  refine x_iret dX12_well_6 ?_
  exact ⟨rfl, rfl⟩
set_option maxRecDepth 100000 in
set_option maxHeartbeats 4000000 in
theorem m_isRow {Ω : Om} {l : Launch} {M : Mem} {x : Int32} : Ct Ω l yX12_isRow cX12_isRow 1 2 (some .boolean) [.int x] M (fun ro M' => ro = some (.int (bI (inR x 8))) ∧ M = M') := by
  refine ct_of (by decide) (Nat.le_of_ble_eq_true rfl) ?_
  intro p e R s m args below meth c
  refine x_iload_n dX12_isRow_0 rfl ?_
  refine x_i2l dX12_isRow_1 ?_
  refine x_lconst (v := lN 0) dX12_isRow_2 rfl ?_
  refine x_ldc2 (v := lN 7) dX12_isRow_3 k_X12_58 ?_
  refine q_X12_60 (m_inB (by decide) (by decide)) dX12_isRow_6 rfl ?_
  rintro _ _ ⟨rfl, rfl⟩
  first | refine z_iret dX12_isRow_9 ?_ | refine z_iret0 dX12_isRow_9 ?_ | refine z_iret1 dX12_isRow_9 ?_
  refine ⟨congrArg (fun z => some (Value.int (bI z))) ?_, rfl⟩
  unfold inB inR
  exact decide_eq_decide.mpr (by omega)
set_option maxRecDepth 100000 in
set_option maxHeartbeats 4000000 in
theorem m_isGoer {Ω : Om} {l : Launch} {M : Mem} {v : Nat → Nat} (hS : MsR M v) (hk : v 2 ≤ 9) {x : Int32} : Ct Ω l yX12_isGoer cX12_isGoer 2 2 (some .boolean) [.ref (Ω.2.2 34), .int x] M (fun ro M' => ro = some (.int (bI (inR x (v 2)))) ∧ M = M') := by
  refine ct_of (by decide) (Nat.le_of_ble_eq_true rfl) ?_
  intro p e R s m args below meth c
  refine x_iload_n dX12_isGoer_0 rfl ?_
  refine x_i2l dX12_isGoer_1 ?_
  refine x_lconst (v := lN 0) dX12_isGoer_2 rfl ?_
  refine x_aload_n dX12_isGoer_3 rfl ?_
  refine g_X12_19 dX12_isGoer_4 ?_
  refine y_iconst (a := 2) dX12_isGoer_7 rfl ?_
  refine x_ial dX12_isGoer_8 (⟨by decide, rfl, rfl, by decide⟩ : Ar 38 45) (by omega) ?_
  rw [hS.at (by omega)]
  refine y_iconst (a := 1) dX12_isGoer_9 rfl ?_
  refine x_isub dX12_isGoer_10 ?_
  refine x_i2l dX12_isGoer_11 ?_
  refine q_X12_60 (m_inR (by omega)) dX12_isGoer_12 rfl ?_
  rintro _ _ ⟨rfl, rfl⟩
  first | refine z_iret dX12_isGoer_15 ?_ | refine z_iret0 dX12_isGoer_15 ?_ | refine z_iret1 dX12_isGoer_15 ?_
  exact ⟨rfl, rfl⟩
set_option maxRecDepth 100000 in
set_option maxHeartbeats 4000000 in
theorem m_isRung {Ω : Om} {l : Launch} {M : Mem} {v : Nat → Nat} (hS : MsR M v) (hk : v 0 ≤ 9) {x : Int32} : Ct Ω l yX12_isRung cX12_isRung 2 2 (some .boolean) [.ref (Ω.2.2 34), .int x] M (fun ro M' => ro = some (.int (bI (inR x (v 0)))) ∧ M = M') := by
  refine ct_of (by decide) (Nat.le_of_ble_eq_true rfl) ?_
  intro p e R s m args below meth c
  refine x_iload_n dX12_isRung_0 rfl ?_
  refine x_i2l dX12_isRung_1 ?_
  refine x_lconst (v := lN 0) dX12_isRung_2 rfl ?_
  refine x_aload_n dX12_isRung_3 rfl ?_
  refine g_X12_19 dX12_isRung_4 ?_
  refine y_iconst (a := 0) dX12_isRung_7 rfl ?_
  refine x_ial dX12_isRung_8 (⟨by decide, rfl, rfl, by decide⟩ : Ar 38 45) (by omega) ?_
  rw [hS.at (by omega)]
  refine y_iconst (a := 1) dX12_isRung_9 rfl ?_
  refine x_isub dX12_isRung_10 ?_
  refine x_i2l dX12_isRung_11 ?_
  refine q_X12_60 (m_inR (by omega)) dX12_isRung_12 rfl ?_
  rintro _ _ ⟨rfl, rfl⟩
  first | refine z_iret dX12_isRung_15 ?_ | refine z_iret0 dX12_isRung_15 ?_ | refine z_iret1 dX12_isRung_15 ?_
  exact ⟨rfl, rfl⟩
set_option maxRecDepth 100000 in
set_option maxHeartbeats 4000000 in
theorem m_isBroken {Ω : Om} {l : Launch} {M : Mem} {v : Nat → Nat} (hS : MsR M v) (hw : Wv v) {q : Nat} (hq : q ≤ 1000) : Ct Ω l yX12_isBroken cX12_isBroken 2 2 (some .boolean) [.ref (Ω.2.2 34), .int (nI q)] M (fun ro M' => ro = some (.int (bI (brk v q))) ∧ M = M') := by
  have hn := hw.nums
  refine ct_of (by decide) (Nat.le_of_ble_eq_true rfl) ?_
  intro p e R s m args below meth c
  refine x_iload_n dX12_isBroken_0 rfl ?_
  refine x_i2l dX12_isBroken_1 ?_
  refine x_lconst (v := lN 1) dX12_isBroken_2 rfl ?_
  refine x_aload_n dX12_isBroken_3 rfl ?_
  refine g_X12_19 dX12_isBroken_4 ?_
  refine y_iconst (a := 0) dX12_isBroken_7 rfl ?_
  refine x_ial dX12_isBroken_8 (⟨by decide, rfl, rfl, by decide⟩ : Ar 38 45) (by omega) ?_
  rw [hS.at (by omega)]
  refine y_i2l dX12_isBroken_9 (by omega) ?_
  refine q_X12_60 (m_inB (by decide) (by omega)) dX12_isBroken_10 rfl ?_
  rintro _ _ ⟨rfl, rfl⟩
  have hq2 : inB (nI q) 1 (v 0) = decide (1 ≤ q ∧ q ≤ v 0) := by
    unfold inB
    rw [nI_toInt (by omega)]
    exact decide_eq_decide.mpr (by omega)
  rw [hq2]
  refine z_if_eq 34 dX12_isBroken_13 (fun h_13 => ?_) (fun h_13 => ?_)
  · refine y_iconst (a := 0) dX12_isBroken_34 rfl ?_
    first | refine z_iret dX12_isBroken_35 ?_ | refine z_iret0 dX12_isBroken_35 ?_ | refine z_iret1 dX12_isBroken_35 ?_
    refine ⟨congrArg (fun z => some (Value.int (bI z))) ?_, rfl⟩
    simp [brk] at * <;> omega
  · simp only [decide_eq_true_eq] at h_13
    have hs := hw.str (p := q) h_13
    refine x_aload_n dX12_isBroken_16 rfl ?_
    refine g_X12_19 dX12_isBroken_17 ?_
    refine x_bipush (v := nI 6) dX12_isBroken_20 rfl ?_
    refine x_iload_n dX12_isBroken_22 rfl ?_
    refine y_iadd dX12_isBroken_23 ?_
    refine y_iconst (a := 1) dX12_isBroken_24 rfl ?_
    refine y_isub dX12_isBroken_25 (by omega) ?_
    rw [show 6 + q - 1 = 5 + q by omega]
    refine x_ial dX12_isBroken_26 (⟨by decide, rfl, rfl, by decide⟩ : Ar 38 45) (by omega) ?_
    rw [hS.at (by omega)]
    refine y_if_ne 34 dX12_isBroken_27 (by omega) (fun h_27 => ?_) (fun h_27 => ?_)
    · refine y_iconst (a := 0) dX12_isBroken_34 rfl ?_
      first | refine z_iret dX12_isBroken_35 ?_ | refine z_iret0 dX12_isBroken_35 ?_ | refine z_iret1 dX12_isBroken_35 ?_
      refine ⟨congrArg (fun z => some (Value.int (bI z))) ?_, rfl⟩
      simp [brk] at * <;> omega
    · refine y_iconst (a := 1) dX12_isBroken_30 rfl ?_
      refine x_goto 35 dX12_isBroken_31 ?_
      first | refine z_iret dX12_isBroken_35 ?_ | refine z_iret0 dX12_isBroken_35 ?_ | refine z_iret1 dX12_isBroken_35 ?_
      refine ⟨congrArg (fun z => some (Value.int (bI z))) ?_, rfl⟩
      simp [brk] at * <;> omega
set_option maxRecDepth 100000 in
set_option maxHeartbeats 4000000 in
theorem m_isAbove {Ω : Om} {l : Launch} {M : Mem} {v : Nat → Nat} (hS : MsR M v) (hw : Wv v) {g : Nat} (hg : g < v 2) : Ct Ω l yX12_isAbove cX12_isAbove 2 1 (some .boolean) [.ref (Ω.2.2 34), .int (nI g)] M (fun ro M' => ro = some (.int (bI (abv v g))) ∧ M = M') := by
  have hn := hw.nums
  have hgo := hw.goer hg
  refine ct_of (by decide) (Nat.le_of_ble_eq_true rfl) ?_
  intro p e R s m args below meth c
  refine x_aload_n dX12_isAbove_0 rfl ?_
  refine g_X12_19 dX12_isAbove_1 ?_
  refine x_bipush (v := nI 33) dX12_isAbove_4 rfl ?_
  refine x_iload_n dX12_isAbove_6 rfl ?_
  refine y_iadd dX12_isAbove_7 ?_
  refine x_ial dX12_isAbove_8 (⟨by decide, rfl, rfl, by decide⟩ : Ar 38 45) (by omega) ?_
  rw [hS.at (by omega)]
  refine x_aload_n dX12_isAbove_9 rfl ?_
  refine g_X12_19 dX12_isAbove_10 ?_
  refine y_iconst (a := 0) dX12_isAbove_13 rfl ?_
  refine x_ial dX12_isAbove_14 (⟨by decide, rfl, rfl, by decide⟩ : Ar 38 45) (by omega) ?_
  rw [hS.at (by omega)]
  refine y_icmp_le 22 dX12_isAbove_15 (by omega) (by omega) (fun h_15 => ?_) (fun h_15 => ?_)
  · refine y_iconst (a := 0) dX12_isAbove_22 rfl ?_
    first | refine z_iret dX12_isAbove_23 ?_ | refine z_iret0 dX12_isAbove_23 ?_ | refine z_iret1 dX12_isAbove_23 ?_
    refine ⟨congrArg (fun z => some (Value.int (bI z))) ?_, rfl⟩
    simp [abv] <;> omega
  · refine y_iconst (a := 1) dX12_isAbove_18 rfl ?_
    refine x_goto 23 dX12_isAbove_19 ?_
    first | refine z_iret dX12_isAbove_23 ?_ | refine z_iret0 dX12_isAbove_23 ?_ | refine z_iret1 dX12_isAbove_23 ?_
    refine ⟨congrArg (fun z => some (Value.int (bI z))) ?_, rfl⟩
    simp [abv] <;> omega
set_option maxRecDepth 100000 in
set_option maxHeartbeats 4000000 in
theorem m_loadOf {Ω : Om} {l : Launch} {M : Mem} {v : Nat → Nat} (hS : MsR M v) (hw : Wv v) {g : Nat} (hg : g < v 2) : Ct Ω l yX12_loadOf cX12_loadOf 2 1 (some .int) [.ref (Ω.2.2 34), .int (nI g)] M (fun ro M' => ro = some (.int (nI (lo v g))) ∧ M = M') := by
  have hn := hw.nums
  have hgo := hw.goer hg
  refine ct_of (by decide) (Nat.le_of_ble_eq_true rfl) ?_
  intro p e R s m args below meth c
  refine x_aload_n dX12_loadOf_0 rfl ?_
  refine g_X12_19 dX12_loadOf_1 ?_
  refine x_bipush (v := nI 15) dX12_loadOf_4 rfl ?_
  refine x_iload_n dX12_loadOf_6 rfl ?_
  refine y_iadd dX12_loadOf_7 ?_
  refine x_ial dX12_loadOf_8 (⟨by decide, rfl, rfl, by decide⟩ : Ar 38 45) (by omega) ?_
  rw [hS.at (by omega)]
  refine y_iconst (a := 5) dX12_loadOf_9 rfl ?_
  refine y_icmp_ne 27 dX12_loadOf_10 (by omega) (by omega) (fun h_10 => ?_) (fun h_10 => ?_)
  · refine x_aload_n dX12_loadOf_27 rfl ?_
    refine g_X12_19 dX12_loadOf_28 ?_
    refine x_bipush (v := nI 21) dX12_loadOf_31 rfl ?_
    refine x_iload_n dX12_loadOf_33 rfl ?_
    refine y_iadd dX12_loadOf_34 ?_
    refine x_ial dX12_loadOf_35 (⟨by decide, rfl, rfl, by decide⟩ : Ar 38 45) (by omega) ?_
    rw [hS.at (by omega)]
    refine x_iret dX12_loadOf_36 ?_
    exact ⟨by simp [lo, *], rfl⟩
  · refine x_aload_n dX12_loadOf_13 rfl ?_
    refine g_X12_19 dX12_loadOf_14 ?_
    refine x_bipush (v := nI 21) dX12_loadOf_17 rfl ?_
    refine x_iload_n dX12_loadOf_19 rfl ?_
    refine y_iadd dX12_loadOf_20 ?_
    refine x_ial dX12_loadOf_21 (⟨by decide, rfl, rfl, by decide⟩ : Ar 38 45) (by omega) ?_
    rw [hS.at (by omega)]
    refine y_iconst (a := 2) dX12_loadOf_22 rfl ?_
    refine y_idiv dX12_loadOf_23 (by omega) (by omega) (by omega) ?_
    refine x_goto 36 dX12_loadOf_24 ?_
    refine x_iret dX12_loadOf_36 ?_
    exact ⟨by simp [lo, *], rfl⟩
set_option maxRecDepth 100000 in
set_option maxHeartbeats 4000000 in
theorem m_loadOn {Ω : Om} {l : Launch} {M : Mem} {v : Nat → Nat} (hS : MsR M v) (hw : Wv v) {q : Nat} (hq : q < 2 ^ 31) : Ct Ω l yX12_loadOn cX12_loadOn 4 2 (some .int) [.ref (Ω.2.2 34), .int (nI q)] M (fun ro M' => ro = some (.int (nI (loadA v q))) ∧ M = M') := by
  have hn := hw.nums
  refine ct_of (by decide) (Nat.le_of_ble_eq_true rfl) ?_
  intro p e R s m args below meth c
  have key : ∀ (k : Nat) (g : Nat), g + k = v 2 → X (mkG p l e R s m args below meth c Ω (fun ro M' => ro = some (.int (nI (loadA v q))) ∧ M = M')) Ω RX12 cX12_loadOn 4 2 (some .int) 4 [some (.ref (Ω.2.2 34)), some (.int (nI q)), some (.int (nI (sumN (fun g => if v (33 + g) = q then lo v g else 0) g))), some (.int (nI g))] [] M := by
    intro k
    induction k with
    | zero =>
      intro g hk
      refine x_iload_n dX12_loadOn_4 rfl ?_
      refine x_aload_n dX12_loadOn_5 rfl ?_
      refine g_X12_19 dX12_loadOn_6 ?_
      refine y_iconst (a := 2) dX12_loadOn_9 rfl ?_
      refine x_ial dX12_loadOn_10 (⟨by decide, rfl, rfl, by decide⟩ : Ar 38 45) (by omega) ?_
      rw [hS.at (by omega)]
      refine y_icmp_ge 45 dX12_loadOn_11 (by omega) (by omega) (fun h_11 => ?_) (fun h_11 => ?_)
      · refine x_iload_n dX12_loadOn_45 rfl ?_
        refine x_iret dX12_loadOn_46 ?_
        obtain rfl : g = v 2 := by omega
        exact ⟨rfl, rfl⟩
      · exfalso; omega
    | succ k ih =>
      intro g hk
      refine x_iload_n dX12_loadOn_4 rfl ?_
      refine x_aload_n dX12_loadOn_5 rfl ?_
      refine g_X12_19 dX12_loadOn_6 ?_
      refine y_iconst (a := 2) dX12_loadOn_9 rfl ?_
      refine x_ial dX12_loadOn_10 (⟨by decide, rfl, rfl, by decide⟩ : Ar 38 45) (by omega) ?_
      rw [hS.at (by omega)]
      refine y_icmp_ge 45 dX12_loadOn_11 (by omega) (by omega) (fun h_11 => ?_) (fun h_11 => ?_)
      · refine x_iload_n dX12_loadOn_45 rfl ?_
        refine x_iret dX12_loadOn_46 ?_
        obtain rfl : g = v 2 := by omega
        exact ⟨rfl, rfl⟩
      · have hgo := hw.goer (g := g) (by omega)
        refine x_iload_n dX12_loadOn_14 rfl ?_
        refine x_aload_n dX12_loadOn_15 rfl ?_
        refine g_X12_19 dX12_loadOn_16 ?_
        refine x_bipush (v := nI 33) dX12_loadOn_19 rfl ?_
        refine x_iload_n dX12_loadOn_21 rfl ?_
        refine y_iadd dX12_loadOn_22 ?_
        refine x_ial dX12_loadOn_23 (⟨by decide, rfl, rfl, by decide⟩ : Ar 38 45) (by omega) ?_
        rw [hS.at (by omega)]
        refine x_iload_n dX12_loadOn_24 rfl ?_
        refine y_icmp_ne 36 dX12_loadOn_25 (by omega) (by omega) (fun h_25 => ?_) (fun h_25 => ?_)
        · refine y_iconst (a := 0) dX12_loadOn_36 rfl ?_
          refine y_iadd dX12_loadOn_37 ?_
          refine x_istore_n dX12_loadOn_38 ?_
          refine y_iinc dX12_loadOn_39 rfl ?_
          refine x_goto 4 dX12_loadOn_42 ?_
          have hh := ih (g + 1) (by omega)
          simp [sumN, *] at hh
          exact hh
        · refine x_aload_n dX12_loadOn_28 rfl ?_
          refine x_iload_n dX12_loadOn_29 rfl ?_
          refine q_X12_154 (m_loadOf hS hw (by omega)) dX12_loadOn_30 rfl ?_
          rintro _ _ ⟨rfl, rfl⟩
          refine x_goto 37 dX12_loadOn_33 ?_
          refine y_iadd dX12_loadOn_37 ?_
          refine x_istore_n dX12_loadOn_38 ?_
          refine y_iinc dX12_loadOn_39 rfl ?_
          refine x_goto 4 dX12_loadOn_42 ?_
          have hh := ih (g + 1) (by omega)
          simp [sumN, *] at hh
          exact hh
  refine y_iconst (a := 0) dX12_loadOn_0 rfl ?_
  refine x_istore_n dX12_loadOn_1 ?_
  refine y_iconst (a := 0) dX12_loadOn_2 rfl ?_
  refine x_istore_n dX12_loadOn_3 ?_
  exact key _ 0 (Nat.zero_add _)
set_option maxRecDepth 100000 in
set_option maxHeartbeats 4000000 in
theorem m_whoOn {Ω : Om} {l : Launch} {M : Mem} {v : Nat → Nat} (hS : MsR M v) (hw : Wv v) {q : Nat} (hq : q < 2 ^ 31) : Ct Ω l yX12_whoOn cX12_whoOn 4 1 (some .int) [.ref (Ω.2.2 34), .int (nI q)] M (fun ro M' => ro = some (.int (nI (whoA v q))) ∧ M = M') := by
  have hn := hw.nums
  refine ct_of (by decide) (Nat.le_of_ble_eq_true rfl) ?_
  intro p e R s m args below meth c
  have key : ∀ (k : Nat) (g : Nat), g + k = v 2 → X (mkG p l e R s m args below meth c Ω (fun ro M' => ro = some (.int (nI (whoA v q))) ∧ M = M')) Ω RX12 cX12_whoOn 4 1 (some .int) 4 [some (.ref (Ω.2.2 34)), some (.int (nI q)), some (.int (nI (orN (fun g => if v (33 + g) = q then 2 ^ g else 0) g))), some (.int (nI g))] [] M := by
    intro k
    induction k with
    | zero =>
      intro g hk
      refine x_iload_n dX12_whoOn_4 rfl ?_
      refine x_aload_n dX12_whoOn_5 rfl ?_
      refine g_X12_19 dX12_whoOn_6 ?_
      refine y_iconst (a := 2) dX12_whoOn_9 rfl ?_
      refine x_ial dX12_whoOn_10 (⟨by decide, rfl, rfl, by decide⟩ : Ar 38 45) (by omega) ?_
      rw [hS.at (by omega)]
      refine y_icmp_ge 43 dX12_whoOn_11 (by omega) (by omega) (fun h_11 => ?_) (fun h_11 => ?_)
      · refine x_iload_n dX12_whoOn_43 rfl ?_
        refine x_iret dX12_whoOn_44 ?_
        obtain rfl : g = v 2 := by omega
        exact ⟨rfl, rfl⟩
      · exfalso; omega
    | succ k ih =>
      intro g hk
      refine x_iload_n dX12_whoOn_4 rfl ?_
      refine x_aload_n dX12_whoOn_5 rfl ?_
      refine g_X12_19 dX12_whoOn_6 ?_
      refine y_iconst (a := 2) dX12_whoOn_9 rfl ?_
      refine x_ial dX12_whoOn_10 (⟨by decide, rfl, rfl, by decide⟩ : Ar 38 45) (by omega) ?_
      rw [hS.at (by omega)]
      refine y_icmp_ge 43 dX12_whoOn_11 (by omega) (by omega) (fun h_11 => ?_) (fun h_11 => ?_)
      · refine x_iload_n dX12_whoOn_43 rfl ?_
        refine x_iret dX12_whoOn_44 ?_
        obtain rfl : g = v 2 := by omega
        exact ⟨rfl, rfl⟩
      · have hgo := hw.goer (g := g) (by omega)
        refine x_iload_n dX12_whoOn_14 rfl ?_
        refine x_aload_n dX12_whoOn_15 rfl ?_
        refine g_X12_19 dX12_whoOn_16 ?_
        refine x_bipush (v := nI 33) dX12_whoOn_19 rfl ?_
        refine x_iload_n dX12_whoOn_21 rfl ?_
        refine y_iadd dX12_whoOn_22 ?_
        refine x_ial dX12_whoOn_23 (⟨by decide, rfl, rfl, by decide⟩ : Ar 38 45) (by omega) ?_
        rw [hS.at (by omega)]
        refine x_iload_n dX12_whoOn_24 rfl ?_
        refine y_icmp_ne 34 dX12_whoOn_25 (by omega) (by omega) (fun h_25 => ?_) (fun h_25 => ?_)
        · refine y_iconst (a := 0) dX12_whoOn_34 rfl ?_
          refine y_ior dX12_whoOn_35 ?_
          try rw [Nat.or_zero]
          refine x_istore_n dX12_whoOn_36 ?_
          refine y_iinc dX12_whoOn_37 rfl ?_
          refine x_goto 4 dX12_whoOn_40 ?_
          have hh := ih (g + 1) (by omega)
          simp [orN, *] at hh
          exact hh
        · refine y_iconst (a := 1) dX12_whoOn_28 rfl ?_
          refine x_iload_n dX12_whoOn_29 rfl ?_
          refine y_ishl dX12_whoOn_30 (by omega) ?_
          try rw [Nat.one_mul]
          refine x_goto 35 dX12_whoOn_31 ?_
          refine y_ior dX12_whoOn_35 ?_
          try rw [Nat.or_zero]
          refine x_istore_n dX12_whoOn_36 ?_
          refine y_iinc dX12_whoOn_37 rfl ?_
          refine x_goto 4 dX12_whoOn_40 ?_
          have hh := ih (g + 1) (by omega)
          simp [orN, *] at hh
          exact hh
  refine y_iconst (a := 0) dX12_whoOn_0 rfl ?_
  refine x_istore_n dX12_whoOn_1 ?_
  refine y_iconst (a := 0) dX12_whoOn_2 rfl ?_
  refine x_istore_n dX12_whoOn_3 ?_
  exact key _ 0 (Nat.zero_add _)
set_option maxRecDepth 100000 in
set_option maxHeartbeats 4000000 in
theorem m_loadAll {Ω : Om} {l : Launch} {M : Mem} {v : Nat → Nat} (hS : MsR M v) (hw : Wv v)  : Ct Ω l yX12_loadAll cX12_loadAll 3 3 (some .int) [.ref (Ω.2.2 34)] M (fun ro M' => ro = some (.int (nI (loadR v))) ∧ M = M') := by
  have hn := hw.nums
  refine ct_of (by decide) (Nat.le_of_ble_eq_true rfl) ?_
  intro p e R s m args below meth c
  have key : ∀ (k : Nat) (g : Nat), g + k = v 0 → X (mkG p l e R s m args below meth c Ω (fun ro M' => ro = some (.int (nI (loadR v))) ∧ M = M')) Ω RX12 cX12_loadAll 3 3 (some .int) 4 [some (.ref (Ω.2.2 34)), some (.int (nI (sumN (fun p => loadA v (p + 1)) g))), some (.int (nI (g + 1)))] [] M := by
    intro k
    induction k with
    | zero =>
      intro g hk
      have hll := loads_le hw g
      refine x_iload_n dX12_loadAll_4 rfl ?_
      refine x_aload_n dX12_loadAll_5 rfl ?_
      refine g_X12_19 dX12_loadAll_6 ?_
      refine y_iconst (a := 0) dX12_loadAll_9 rfl ?_
      refine x_ial dX12_loadAll_10 (⟨by decide, rfl, rfl, by decide⟩ : Ar 38 45) (by omega) ?_
      rw [hS.at (by omega)]
      refine y_icmp_gt 28 dX12_loadAll_11 (by omega) (by omega) (fun h_11 => ?_) (fun h_11 => ?_)
      · refine x_iload_n dX12_loadAll_28 rfl ?_
        refine x_iret dX12_loadAll_29 ?_
        obtain rfl : g = v 0 := by omega
        rw [loads_R]
        exact ⟨rfl, rfl⟩
      · exfalso; omega
    | succ k ih =>
      intro g hk
      have hll := loads_le hw g
      refine x_iload_n dX12_loadAll_4 rfl ?_
      refine x_aload_n dX12_loadAll_5 rfl ?_
      refine g_X12_19 dX12_loadAll_6 ?_
      refine y_iconst (a := 0) dX12_loadAll_9 rfl ?_
      refine x_ial dX12_loadAll_10 (⟨by decide, rfl, rfl, by decide⟩ : Ar 38 45) (by omega) ?_
      rw [hS.at (by omega)]
      refine y_icmp_gt 28 dX12_loadAll_11 (by omega) (by omega) (fun h_11 => ?_) (fun h_11 => ?_)
      · refine x_iload_n dX12_loadAll_28 rfl ?_
        refine x_iret dX12_loadAll_29 ?_
        obtain rfl : g = v 0 := by omega
        rw [loads_R]
        exact ⟨rfl, rfl⟩
      · refine x_iload_n dX12_loadAll_14 rfl ?_
        refine x_aload_n dX12_loadAll_15 rfl ?_
        refine x_iload_n dX12_loadAll_16 rfl ?_
        refine q_X12_157 (m_loadOn hS hw (by omega)) dX12_loadAll_17 rfl ?_
        rintro _ _ ⟨rfl, rfl⟩
        refine y_iadd dX12_loadAll_20 ?_
        refine x_istore_n dX12_loadAll_21 ?_
        refine y_iinc dX12_loadAll_22 rfl ?_
        refine x_goto 4 dX12_loadAll_25 ?_
        exact ih (g + 1) (by omega)
  refine y_iconst (a := 0) dX12_loadAll_0 rfl ?_
  refine x_istore_n dX12_loadAll_1 ?_
  refine y_iconst (a := 1) dX12_loadAll_2 rfl ?_
  refine x_istore_n dX12_loadAll_3 ?_
  exact key _ 0 (Nat.zero_add _)
set_option maxRecDepth 100000 in
set_option maxHeartbeats 4000000 in
theorem m_aboveSet {Ω : Om} {l : Launch} {M : Mem} {v : Nat → Nat} (hS : MsR M v) (hw : Wv v)  : Ct Ω l yX12_aboveSet cX12_aboveSet 1 2 (some .int) [.ref (Ω.2.2 34)] M (fun ro M' => ro = some (.int (nI (whoA v (v 0 + 1)))) ∧ M = M') := by
  have hn := hw.nums
  refine ct_of (by decide) (Nat.le_of_ble_eq_true rfl) ?_
  intro p e R s m args below meth c
  refine x_aload_n dX12_aboveSet_0 rfl ?_
  refine x_aload_n dX12_aboveSet_1 rfl ?_
  refine g_X12_19 dX12_aboveSet_2 ?_
  refine y_iconst (a := 0) dX12_aboveSet_5 rfl ?_
  refine x_ial dX12_aboveSet_6 (⟨by decide, rfl, rfl, by decide⟩ : Ar 38 45) (by omega) ?_
  rw [hS.at (by omega)]
  refine y_iconst (a := 1) dX12_aboveSet_7 rfl ?_
  refine y_iadd dX12_aboveSet_8 ?_
  refine q_X12_160 (m_whoOn hS hw (by omega)) dX12_aboveSet_9 rfl ?_
  rintro _ _ ⟨rfl, rfl⟩
  refine x_iret dX12_aboveSet_12 ?_
  exact ⟨rfl, rfl⟩
set_option maxRecDepth 100000 in
set_option maxHeartbeats 4000000 in
theorem m_sumFell {Ω : Om} {l : Launch} {M : Mem} {v : Nat → Nat} (hS : MsR M v) (hw : Wv v)  : Ct Ω l yX12_sumFell cX12_sumFell 3 1 (some .int) [.ref (Ω.2.2 34)] M (fun ro M' => ro = some (.int (nI (fal v))) ∧ M = M') := by
  have hn := hw.nums
  refine ct_of (by decide) (Nat.le_of_ble_eq_true rfl) ?_
  intro p e R s m args below meth c
  have key : ∀ (k : Nat) (g : Nat), g + k = v 2 → X (mkG p l e R s m args below meth c Ω (fun ro M' => ro = some (.int (nI (fal v))) ∧ M = M')) Ω RX12 cX12_sumFell 3 1 (some .int) 4 [some (.ref (Ω.2.2 34)), some (.int (nI (sumN (fun g => v (39 + g)) g))), some (.int (nI g))] [] M := by
    intro k
    induction k with
    | zero =>
      intro g hk
      refine x_iload_n dX12_sumFell_4 rfl ?_
      refine x_aload_n dX12_sumFell_5 rfl ?_
      refine g_X12_19 dX12_sumFell_6 ?_
      refine y_iconst (a := 2) dX12_sumFell_9 rfl ?_
      refine x_ial dX12_sumFell_10 (⟨by decide, rfl, rfl, by decide⟩ : Ar 38 45) (by omega) ?_
      rw [hS.at (by omega)]
      refine y_icmp_ge 32 dX12_sumFell_11 (by omega) (by omega) (fun h_11 => ?_) (fun h_11 => ?_)
      · refine x_iload_n dX12_sumFell_32 rfl ?_
        refine x_iret dX12_sumFell_33 ?_
        obtain rfl : g = v 2 := by omega
        exact ⟨rfl, rfl⟩
      · exfalso; omega
    | succ k ih =>
      intro g hk
      refine x_iload_n dX12_sumFell_4 rfl ?_
      refine x_aload_n dX12_sumFell_5 rfl ?_
      refine g_X12_19 dX12_sumFell_6 ?_
      refine y_iconst (a := 2) dX12_sumFell_9 rfl ?_
      refine x_ial dX12_sumFell_10 (⟨by decide, rfl, rfl, by decide⟩ : Ar 38 45) (by omega) ?_
      rw [hS.at (by omega)]
      refine y_icmp_ge 32 dX12_sumFell_11 (by omega) (by omega) (fun h_11 => ?_) (fun h_11 => ?_)
      · refine x_iload_n dX12_sumFell_32 rfl ?_
        refine x_iret dX12_sumFell_33 ?_
        obtain rfl : g = v 2 := by omega
        exact ⟨rfl, rfl⟩
      · refine x_iload_n dX12_sumFell_14 rfl ?_
        refine x_aload_n dX12_sumFell_15 rfl ?_
        refine g_X12_19 dX12_sumFell_16 ?_
        refine x_bipush (v := nI 39) dX12_sumFell_19 rfl ?_
        refine x_iload_n dX12_sumFell_21 rfl ?_
        refine y_iadd dX12_sumFell_22 ?_
        refine x_ial dX12_sumFell_23 (⟨by decide, rfl, rfl, by decide⟩ : Ar 38 45) (by omega) ?_
        rw [hS.at (by omega)]
        refine y_iadd dX12_sumFell_24 ?_
        refine x_istore_n dX12_sumFell_25 ?_
        refine y_iinc dX12_sumFell_26 rfl ?_
        refine x_goto 4 dX12_sumFell_29 ?_
        exact ih (g + 1) (by omega)
  refine y_iconst (a := 0) dX12_sumFell_0 rfl ?_
  refine x_istore_n dX12_sumFell_1 ?_
  refine y_iconst (a := 0) dX12_sumFell_2 rfl ?_
  refine x_istore_n dX12_sumFell_3 ?_
  exact key _ 0 (Nat.zero_add _)
set_option maxRecDepth 100000 in
set_option maxHeartbeats 4000000 in
theorem m_brokenSet {Ω : Om} {l : Launch} {M : Mem} {v : Nat → Nat} (hS : MsR M v) (hw : Wv v)  : Ct Ω l yX12_brokenSet cX12_brokenSet 3 1 (some .int) [.ref (Ω.2.2 34)] M (fun ro M' => ro = some (.int (nI (brkS v))) ∧ M = M') := by
  have hn := hw.nums
  refine ct_of (by decide) (Nat.le_of_ble_eq_true rfl) ?_
  intro p e R s m args below meth c
  have key : ∀ (k : Nat) (g : Nat), g + k = v 0 → X (mkG p l e R s m args below meth c Ω (fun ro M' => ro = some (.int (nI (brkS v))) ∧ M = M')) Ω RX12 cX12_brokenSet 3 1 (some .int) 4 [some (.ref (Ω.2.2 34)), some (.int (nI (orN (fun r => if v (6 + r) = 0 then 2 ^ r else 0) g))), some (.int (nI g))] [] M := by
    intro k
    induction k with
    | zero =>
      intro g hk
      refine x_iload_n dX12_brokenSet_4 rfl ?_
      refine x_aload_n dX12_brokenSet_5 rfl ?_
      refine g_X12_19 dX12_brokenSet_6 ?_
      refine y_iconst (a := 0) dX12_brokenSet_9 rfl ?_
      refine x_ial dX12_brokenSet_10 (⟨by decide, rfl, rfl, by decide⟩ : Ar 38 45) (by omega) ?_
      rw [hS.at (by omega)]
      refine y_icmp_ge 42 dX12_brokenSet_11 (by omega) (by omega) (fun h_11 => ?_) (fun h_11 => ?_)
      · refine x_iload_n dX12_brokenSet_42 rfl ?_
        refine x_iret dX12_brokenSet_43 ?_
        obtain rfl : g = v 0 := by omega
        exact ⟨rfl, rfl⟩
      · exfalso; omega
    | succ k ih =>
      intro g hk
      refine x_iload_n dX12_brokenSet_4 rfl ?_
      refine x_aload_n dX12_brokenSet_5 rfl ?_
      refine g_X12_19 dX12_brokenSet_6 ?_
      refine y_iconst (a := 0) dX12_brokenSet_9 rfl ?_
      refine x_ial dX12_brokenSet_10 (⟨by decide, rfl, rfl, by decide⟩ : Ar 38 45) (by omega) ?_
      rw [hS.at (by omega)]
      refine y_icmp_ge 42 dX12_brokenSet_11 (by omega) (by omega) (fun h_11 => ?_) (fun h_11 => ?_)
      · refine x_iload_n dX12_brokenSet_42 rfl ?_
        refine x_iret dX12_brokenSet_43 ?_
        obtain rfl : g = v 0 := by omega
        exact ⟨rfl, rfl⟩
      · have hst := hw.2.2.2.2.2.2.1 g (by omega)
        refine x_iload_n dX12_brokenSet_14 rfl ?_
        refine x_aload_n dX12_brokenSet_15 rfl ?_
        refine g_X12_19 dX12_brokenSet_16 ?_
        refine x_bipush (v := nI 6) dX12_brokenSet_19 rfl ?_
        refine x_iload_n dX12_brokenSet_21 rfl ?_
        refine y_iadd dX12_brokenSet_22 ?_
        refine x_ial dX12_brokenSet_23 (⟨by decide, rfl, rfl, by decide⟩ : Ar 38 45) (by omega) ?_
        rw [hS.at (by omega)]
        refine y_if_ne 33 dX12_brokenSet_24 (by omega) (fun h_24 => ?_) (fun h_24 => ?_)
        · refine y_iconst (a := 0) dX12_brokenSet_33 rfl ?_
          refine y_ior dX12_brokenSet_34 ?_
          try rw [Nat.or_zero]
          refine x_istore_n dX12_brokenSet_35 ?_
          refine y_iinc dX12_brokenSet_36 rfl ?_
          refine x_goto 4 dX12_brokenSet_39 ?_
          have hh := ih (g + 1) (by omega)
          simp [orN, *] at hh
          exact hh
        · refine y_iconst (a := 1) dX12_brokenSet_27 rfl ?_
          refine x_iload_n dX12_brokenSet_28 rfl ?_
          refine y_ishl dX12_brokenSet_29 (by omega) ?_
          try rw [Nat.one_mul]
          refine x_goto 34 dX12_brokenSet_30 ?_
          refine y_ior dX12_brokenSet_34 ?_
          try rw [Nat.or_zero]
          refine x_istore_n dX12_brokenSet_35 ?_
          refine y_iinc dX12_brokenSet_36 rfl ?_
          refine x_goto 4 dX12_brokenSet_39 ?_
          have hh := ih (g + 1) (by omega)
          simp [orN, *] at hh
          exact hh
  refine y_iconst (a := 0) dX12_brokenSet_0 rfl ?_
  refine x_istore_n dX12_brokenSet_1 ?_
  refine y_iconst (a := 0) dX12_brokenSet_2 rfl ?_
  refine x_istore_n dX12_brokenSet_3 ?_
  exact key _ 0 (Nat.zero_add _)
set_option maxRecDepth 100000 in
set_option maxHeartbeats 4000000 in
theorem m_stepUp {Ω : Om} {l : Launch} {M : Mem} {v : Nat → Nat} (hS : MsR M v) (hw : Wv v) {g : Nat} (hg : g < v 2) (hp : v (33 + g) ≤ v 0) : Ct Ω l yX12_stepTo cX12_stepTo 5 4 (some .int) [.ref (Ω.2.2 34), .int (nI g), .int (nI 1)] M (fun ro M' => ro = some (.int (nO (suP v g))) ∧ M = M') := by
  have hn := hw.nums
  have hgo := hw.goer hg
  have hlR := loadR_le hw
  have hlo := lo_le hw hg
  refine ct_of (by decide) (Nat.le_of_ble_eq_true rfl) ?_
  intro p e R s m args below meth c
  refine x_aload_n dX12_stepTo_0 rfl ?_
  refine g_X12_19 dX12_stepTo_1 ?_
  refine x_bipush (v := nI 33) dX12_stepTo_4 rfl ?_
  refine x_iload_n dX12_stepTo_6 rfl ?_
  refine y_iadd dX12_stepTo_7 ?_
  refine x_ial dX12_stepTo_8 (⟨by decide, rfl, rfl, by decide⟩ : Ar 38 45) (by omega) ?_
  rw [hS.at (by omega)]
  refine x_istore_n dX12_stepTo_9 ?_
  refine x_iload_n dX12_stepTo_10 rfl ?_
  refine y_if_ne 36 dX12_stepTo_11 (by omega) (fun h_11 => ?_) (fun h_11 => ?_)
  · refine x_iload_n dX12_stepTo_36 rfl ?_
    refine x_iload_n dX12_stepTo_37 rfl ?_
    refine y_iadd dX12_stepTo_38 ?_
    refine x_istore dX12_stepTo_39 ?_
    refine x_aload_n dX12_stepTo_41 rfl ?_
    refine x_iload dX12_stepTo_42 rfl ?_
    refine q_X12_168 (m_isBroken hS hw (by omega)) dX12_stepTo_44 rfl ?_
    rintro _ _ ⟨rfl, rfl⟩
    refine z_if_eq 57 dX12_stepTo_47 (fun h_47 => ?_) (fun h_47 => ?_)
    · refine x_iload dX12_stepTo_57 rfl ?_
      refine x_istore dX12_stepTo_59 ?_
      refine x_aload_n dX12_stepTo_61 rfl ?_
      refine x_iload dX12_stepTo_62 rfl ?_
      refine q_X12_168 (m_isBroken hS hw (by omega)) dX12_stepTo_64 rfl ?_
      rintro _ _ ⟨rfl, rfl⟩
      refine z_if_eq 75 dX12_stepTo_67 (fun h_67 => ?_) (fun h_67 => ?_)
      · refine x_iload dX12_stepTo_75 rfl ?_
        refine x_iret dX12_stepTo_77 ?_
        have hp' : ¬ v 0 < v (33 + g) := by omega
        refine ⟨congrArg (fun z => some (Value.int z)) ?_, rfl⟩
        unfold suP upF
        rw [if_neg hp']
        first
          | (have hro : v (33 + g) = 0 ∧ v 1 < loadR v + lo v g := by omega
             split
             · rfl
             · rw [if_pos hro]; rfl)
          | (have hro : ¬ (v (33 + g) = 0 ∧ v 1 < loadR v + lo v g) := by omega
             first
               | (rw [if_pos (by assumption), if_pos (by assumption)]; rfl)
               | (rw [if_pos (by assumption), if_neg (fun z => Bool.false_ne_true (h_67.symm.trans z))]
                  simp only []
                  rw [if_neg hro]; rfl)
               | (rw [if_neg (fun z => Bool.false_ne_true (h_47.symm.trans z))]
                  simp only []
                  rw [if_neg hro]; rfl)
               | (exfalso; simp_all))
      · refine x_ldc dX12_stepTo_70 k_X12_167 ?_
        refine x_goto 77 dX12_stepTo_72 ?_
        refine x_iret dX12_stepTo_77 ?_
        have hp' : ¬ v 0 < v (33 + g) := by omega
        refine ⟨congrArg (fun z => some (Value.int z)) ?_, rfl⟩
        unfold suP upF
        rw [if_neg hp']
        first
          | (have hro : v (33 + g) = 0 ∧ v 1 < loadR v + lo v g := by omega
             split
             · rfl
             · rw [if_pos hro]; rfl)
          | (have hro : ¬ (v (33 + g) = 0 ∧ v 1 < loadR v + lo v g) := by omega
             first
               | (rw [if_pos (by assumption), if_pos (by assumption)]; rfl)
               | (rw [if_pos (by assumption), if_neg (fun z => Bool.false_ne_true (h_67.symm.trans z))]
                  simp only []
                  rw [if_neg hro]; rfl)
               | (rw [if_neg (fun z => Bool.false_ne_true (h_47.symm.trans z))]
                  simp only []
                  rw [if_neg hro]; rfl)
               | (exfalso; simp_all))
    · refine x_iload dX12_stepTo_50 rfl ?_
      refine x_iload_n dX12_stepTo_52 rfl ?_
      refine y_iadd dX12_stepTo_53 ?_
      refine x_goto 59 dX12_stepTo_54 ?_
      refine x_istore dX12_stepTo_59 ?_
      refine x_aload_n dX12_stepTo_61 rfl ?_
      refine x_iload dX12_stepTo_62 rfl ?_
      refine q_X12_168 (m_isBroken hS hw (by omega)) dX12_stepTo_64 rfl ?_
      rintro _ _ ⟨rfl, rfl⟩
      refine z_if_eq 75 dX12_stepTo_67 (fun h_67 => ?_) (fun h_67 => ?_)
      · refine x_iload dX12_stepTo_75 rfl ?_
        refine x_iret dX12_stepTo_77 ?_
        have hp' : ¬ v 0 < v (33 + g) := by omega
        refine ⟨congrArg (fun z => some (Value.int z)) ?_, rfl⟩
        unfold suP upF
        rw [if_neg hp']
        first
          | (have hro : v (33 + g) = 0 ∧ v 1 < loadR v + lo v g := by omega
             split
             · rfl
             · rw [if_pos hro]; rfl)
          | (have hro : ¬ (v (33 + g) = 0 ∧ v 1 < loadR v + lo v g) := by omega
             first
               | (rw [if_pos (by assumption), if_pos (by assumption)]; rfl)
               | (rw [if_pos (by assumption), if_neg (fun z => Bool.false_ne_true (h_67.symm.trans z))]
                  simp only []
                  rw [if_neg hro]; rfl)
               | (rw [if_neg (fun z => Bool.false_ne_true (h_47.symm.trans z))]
                  simp only []
                  rw [if_neg hro]; rfl)
               | (exfalso; simp_all))
      · refine x_ldc dX12_stepTo_70 k_X12_167 ?_
        refine x_goto 77 dX12_stepTo_72 ?_
        refine x_iret dX12_stepTo_77 ?_
        have hp' : ¬ v 0 < v (33 + g) := by omega
        refine ⟨congrArg (fun z => some (Value.int z)) ?_, rfl⟩
        unfold suP upF
        rw [if_neg hp']
        first
          | (have hro : v (33 + g) = 0 ∧ v 1 < loadR v + lo v g := by omega
             split
             · rfl
             · rw [if_pos hro]; rfl)
          | (have hro : ¬ (v (33 + g) = 0 ∧ v 1 < loadR v + lo v g) := by omega
             first
               | (rw [if_pos (by assumption), if_pos (by assumption)]; rfl)
               | (rw [if_pos (by assumption), if_neg (fun z => Bool.false_ne_true (h_67.symm.trans z))]
                  simp only []
                  rw [if_neg hro]; rfl)
               | (rw [if_neg (fun z => Bool.false_ne_true (h_47.symm.trans z))]
                  simp only []
                  rw [if_neg hro]; rfl)
               | (exfalso; simp_all))
  · refine x_aload_n dX12_stepTo_14 rfl ?_
    refine q_X12_163 (m_loadAll hS hw) dX12_stepTo_15 rfl ?_
    rintro _ _ ⟨rfl, rfl⟩
    refine x_aload_n dX12_stepTo_18 rfl ?_
    refine x_iload_n dX12_stepTo_19 rfl ?_
    refine q_X12_154 (m_loadOf hS hw hg) dX12_stepTo_20 rfl ?_
    rintro _ _ ⟨rfl, rfl⟩
    refine y_iadd dX12_stepTo_23 ?_
    refine x_aload_n dX12_stepTo_24 rfl ?_
    refine g_X12_19 dX12_stepTo_25 ?_
    refine y_iconst (a := 1) dX12_stepTo_28 rfl ?_
    refine x_ial dX12_stepTo_29 (⟨by decide, rfl, rfl, by decide⟩ : Ar 38 45) (by omega) ?_
    rw [hS.at (by omega)]
    refine y_icmp_le 36 dX12_stepTo_30 (by omega) (by omega) (fun h_30 => ?_) (fun h_30 => ?_)
    · refine x_iload_n dX12_stepTo_36 rfl ?_
      refine x_iload_n dX12_stepTo_37 rfl ?_
      refine y_iadd dX12_stepTo_38 ?_
      refine x_istore dX12_stepTo_39 ?_
      refine x_aload_n dX12_stepTo_41 rfl ?_
      refine x_iload dX12_stepTo_42 rfl ?_
      refine q_X12_168 (m_isBroken hS hw (by omega)) dX12_stepTo_44 rfl ?_
      rintro _ _ ⟨rfl, rfl⟩
      refine z_if_eq 57 dX12_stepTo_47 (fun h_47 => ?_) (fun h_47 => ?_)
      · refine x_iload dX12_stepTo_57 rfl ?_
        refine x_istore dX12_stepTo_59 ?_
        refine x_aload_n dX12_stepTo_61 rfl ?_
        refine x_iload dX12_stepTo_62 rfl ?_
        refine q_X12_168 (m_isBroken hS hw (by omega)) dX12_stepTo_64 rfl ?_
        rintro _ _ ⟨rfl, rfl⟩
        refine z_if_eq 75 dX12_stepTo_67 (fun h_67 => ?_) (fun h_67 => ?_)
        · refine x_iload dX12_stepTo_75 rfl ?_
          refine x_iret dX12_stepTo_77 ?_
          have hp' : ¬ v 0 < v (33 + g) := by omega
          refine ⟨congrArg (fun z => some (Value.int z)) ?_, rfl⟩
          unfold suP upF
          rw [if_neg hp']
          first
            | (have hro : v (33 + g) = 0 ∧ v 1 < loadR v + lo v g := by omega
               split
               · rfl
               · rw [if_pos hro]; rfl)
            | (have hro : ¬ (v (33 + g) = 0 ∧ v 1 < loadR v + lo v g) := by omega
               first
                 | (rw [if_pos (by assumption), if_pos (by assumption)]; rfl)
                 | (rw [if_pos (by assumption), if_neg (fun z => Bool.false_ne_true (h_67.symm.trans z))]
                    simp only []
                    rw [if_neg hro]; rfl)
                 | (rw [if_neg (fun z => Bool.false_ne_true (h_47.symm.trans z))]
                    simp only []
                    rw [if_neg hro]; rfl)
                 | (exfalso; simp_all))
        · refine x_ldc dX12_stepTo_70 k_X12_167 ?_
          refine x_goto 77 dX12_stepTo_72 ?_
          refine x_iret dX12_stepTo_77 ?_
          have hp' : ¬ v 0 < v (33 + g) := by omega
          refine ⟨congrArg (fun z => some (Value.int z)) ?_, rfl⟩
          unfold suP upF
          rw [if_neg hp']
          first
            | (have hro : v (33 + g) = 0 ∧ v 1 < loadR v + lo v g := by omega
               split
               · rfl
               · rw [if_pos hro]; rfl)
            | (have hro : ¬ (v (33 + g) = 0 ∧ v 1 < loadR v + lo v g) := by omega
               first
                 | (rw [if_pos (by assumption), if_pos (by assumption)]; rfl)
                 | (rw [if_pos (by assumption), if_neg (fun z => Bool.false_ne_true (h_67.symm.trans z))]
                    simp only []
                    rw [if_neg hro]; rfl)
                 | (rw [if_neg (fun z => Bool.false_ne_true (h_47.symm.trans z))]
                    simp only []
                    rw [if_neg hro]; rfl)
                 | (exfalso; simp_all))
      · refine x_iload dX12_stepTo_50 rfl ?_
        refine x_iload_n dX12_stepTo_52 rfl ?_
        refine y_iadd dX12_stepTo_53 ?_
        refine x_goto 59 dX12_stepTo_54 ?_
        refine x_istore dX12_stepTo_59 ?_
        refine x_aload_n dX12_stepTo_61 rfl ?_
        refine x_iload dX12_stepTo_62 rfl ?_
        refine q_X12_168 (m_isBroken hS hw (by omega)) dX12_stepTo_64 rfl ?_
        rintro _ _ ⟨rfl, rfl⟩
        refine z_if_eq 75 dX12_stepTo_67 (fun h_67 => ?_) (fun h_67 => ?_)
        · refine x_iload dX12_stepTo_75 rfl ?_
          refine x_iret dX12_stepTo_77 ?_
          have hp' : ¬ v 0 < v (33 + g) := by omega
          refine ⟨congrArg (fun z => some (Value.int z)) ?_, rfl⟩
          unfold suP upF
          rw [if_neg hp']
          first
            | (have hro : v (33 + g) = 0 ∧ v 1 < loadR v + lo v g := by omega
               split
               · rfl
               · rw [if_pos hro]; rfl)
            | (have hro : ¬ (v (33 + g) = 0 ∧ v 1 < loadR v + lo v g) := by omega
               first
                 | (rw [if_pos (by assumption), if_pos (by assumption)]; rfl)
                 | (rw [if_pos (by assumption), if_neg (fun z => Bool.false_ne_true (h_67.symm.trans z))]
                    simp only []
                    rw [if_neg hro]; rfl)
                 | (rw [if_neg (fun z => Bool.false_ne_true (h_47.symm.trans z))]
                    simp only []
                    rw [if_neg hro]; rfl)
                 | (exfalso; simp_all))
        · refine x_ldc dX12_stepTo_70 k_X12_167 ?_
          refine x_goto 77 dX12_stepTo_72 ?_
          refine x_iret dX12_stepTo_77 ?_
          have hp' : ¬ v 0 < v (33 + g) := by omega
          refine ⟨congrArg (fun z => some (Value.int z)) ?_, rfl⟩
          unfold suP upF
          rw [if_neg hp']
          first
            | (have hro : v (33 + g) = 0 ∧ v 1 < loadR v + lo v g := by omega
               split
               · rfl
               · rw [if_pos hro]; rfl)
            | (have hro : ¬ (v (33 + g) = 0 ∧ v 1 < loadR v + lo v g) := by omega
               first
                 | (rw [if_pos (by assumption), if_pos (by assumption)]; rfl)
                 | (rw [if_pos (by assumption), if_neg (fun z => Bool.false_ne_true (h_67.symm.trans z))]
                    simp only []
                    rw [if_neg hro]; rfl)
                 | (rw [if_neg (fun z => Bool.false_ne_true (h_47.symm.trans z))]
                    simp only []
                    rw [if_neg hro]; rfl)
                 | (exfalso; simp_all))
    · refine x_ldc dX12_stepTo_33 k_X12_167 ?_
      refine x_iret dX12_stepTo_35 ?_
      have hp' : ¬ v 0 < v (33 + g) := by omega
      refine ⟨congrArg (fun z => some (Value.int z)) ?_, rfl⟩
      unfold suP upF
      rw [if_neg hp']
      first
        | (have hro : v (33 + g) = 0 ∧ v 1 < loadR v + lo v g := by omega
           split
           · rfl
           · rw [if_pos hro]; rfl)
        | (have hro : ¬ (v (33 + g) = 0 ∧ v 1 < loadR v + lo v g) := by omega
           first
             | (rw [if_pos (by assumption), if_pos (by assumption)]; rfl)
             | (rw [if_pos (by assumption), if_neg (fun z => Bool.false_ne_true (h_67.symm.trans z))]
                simp only []
                rw [if_neg hro]; rfl)
             | (rw [if_neg (fun z => Bool.false_ne_true (h_47.symm.trans z))]
                simp only []
                rw [if_neg hro]; rfl)
             | (exfalso; simp_all))
set_option maxRecDepth 100000 in
set_option maxHeartbeats 4000000 in
theorem m_stepDown {Ω : Om} {l : Launch} {M : Mem} {v : Nat → Nat} (hS : MsR M v) (hw : Wv v) {g : Nat} (hg : g < v 2) (hp : 1 ≤ v (33 + g)) : Ct Ω l yX12_stepTo cX12_stepTo 5 4 (some .int) [.ref (Ω.2.2 34), .int (nI g), .int (-1)] M (fun ro M' => ro = some (.int (nO (dnF v (v (33 + g))))) ∧ M = M') := by
  have hn := hw.nums
  have hgo := hw.goer hg
  have hlR := loadR_le hw
  have hlo := lo_le hw hg
  refine ct_of (by decide) (Nat.le_of_ble_eq_true rfl) ?_
  intro p e R s m args below meth c
  refine x_aload_n dX12_stepTo_0 rfl ?_
  refine g_X12_19 dX12_stepTo_1 ?_
  refine x_bipush (v := nI 33) dX12_stepTo_4 rfl ?_
  refine x_iload_n dX12_stepTo_6 rfl ?_
  refine y_iadd dX12_stepTo_7 ?_
  refine x_ial dX12_stepTo_8 (⟨by decide, rfl, rfl, by decide⟩ : Ar 38 45) (by omega) ?_
  rw [hS.at (by omega)]
  refine x_istore_n dX12_stepTo_9 ?_
  refine x_iload_n dX12_stepTo_10 rfl ?_
  refine y_if_ne 36 dX12_stepTo_11 (by omega) (fun h_11 => ?_) (fun h_11 => ?_)
  · refine x_iload_n dX12_stepTo_36 rfl ?_
    refine x_iload_n dX12_stepTo_37 rfl ?_
    refine x_iadd dX12_stepTo_38 ?_
    rw [m1_add hp]
    refine x_istore dX12_stepTo_39 ?_
    refine x_aload_n dX12_stepTo_41 rfl ?_
    refine x_iload dX12_stepTo_42 rfl ?_
    refine q_X12_168 (m_isBroken hS hw (by omega)) dX12_stepTo_44 rfl ?_
    rintro _ _ ⟨rfl, rfl⟩
    refine z_if_eq 57 dX12_stepTo_47 (fun h_47 => ?_) (fun h_47 => ?_)
    · refine x_iload dX12_stepTo_57 rfl ?_
      refine x_istore dX12_stepTo_59 ?_
      refine x_aload_n dX12_stepTo_61 rfl ?_
      refine x_iload dX12_stepTo_62 rfl ?_
      refine q_X12_168 (m_isBroken hS hw (by omega)) dX12_stepTo_64 rfl ?_
      rintro _ _ ⟨rfl, rfl⟩
      refine z_if_eq 75 dX12_stepTo_67 (fun h_67 => ?_) (fun h_67 => ?_)
      · refine x_iload dX12_stepTo_75 rfl ?_
        refine x_iret dX12_stepTo_77 ?_
        refine ⟨congrArg (fun z => some (Value.int z)) ?_, rfl⟩
        unfold dnF
        rw [if_neg (by omega)]
        first
          | (rw [if_pos (by assumption), if_pos (by assumption)]; rfl)
          | (rw [if_pos (by assumption), if_neg (by simp [*])]; rfl)
          | (rw [if_neg (by simp [*])]; rfl)
          | (exfalso; simp_all)
      · refine x_ldc dX12_stepTo_70 k_X12_167 ?_
        refine x_goto 77 dX12_stepTo_72 ?_
        refine x_iret dX12_stepTo_77 ?_
        refine ⟨congrArg (fun z => some (Value.int z)) ?_, rfl⟩
        unfold dnF
        rw [if_neg (by omega)]
        first
          | (rw [if_pos (by assumption), if_pos (by assumption)]; rfl)
          | (rw [if_pos (by assumption), if_neg (by simp [*])]; rfl)
          | (rw [if_neg (by simp [*])]; rfl)
          | (exfalso; simp_all)
    · refine x_iload dX12_stepTo_50 rfl ?_
      refine x_iload_n dX12_stepTo_52 rfl ?_
      refine x_iadd dX12_stepTo_53 ?_
      have hb1 : 1 ≤ v (33 + g) - 1 := by
        have hb := h_47
        simp only [brk, Bool.and_eq_true, decide_eq_true_eq] at hb
        omega
      rw [m1_add hb1, show v (33 + g) - 1 - 1 = v (33 + g) - 2 by omega]
      refine x_goto 59 dX12_stepTo_54 ?_
      refine x_istore dX12_stepTo_59 ?_
      refine x_aload_n dX12_stepTo_61 rfl ?_
      refine x_iload dX12_stepTo_62 rfl ?_
      refine q_X12_168 (m_isBroken hS hw (by omega)) dX12_stepTo_64 rfl ?_
      rintro _ _ ⟨rfl, rfl⟩
      refine z_if_eq 75 dX12_stepTo_67 (fun h_67 => ?_) (fun h_67 => ?_)
      · refine x_iload dX12_stepTo_75 rfl ?_
        refine x_iret dX12_stepTo_77 ?_
        refine ⟨congrArg (fun z => some (Value.int z)) ?_, rfl⟩
        unfold dnF
        rw [if_neg (by omega)]
        first
          | (rw [if_pos (by assumption), if_pos (by assumption)]; rfl)
          | (rw [if_pos (by assumption), if_neg (by simp [*])]; rfl)
          | (rw [if_neg (by simp [*])]; rfl)
          | (exfalso; simp_all)
      · refine x_ldc dX12_stepTo_70 k_X12_167 ?_
        refine x_goto 77 dX12_stepTo_72 ?_
        refine x_iret dX12_stepTo_77 ?_
        refine ⟨congrArg (fun z => some (Value.int z)) ?_, rfl⟩
        unfold dnF
        rw [if_neg (by omega)]
        first
          | (rw [if_pos (by assumption), if_pos (by assumption)]; rfl)
          | (rw [if_pos (by assumption), if_neg (by simp [*])]; rfl)
          | (rw [if_neg (by simp [*])]; rfl)
          | (exfalso; simp_all)
  · exfalso; omega
set_option maxRecDepth 100000 in
set_option maxHeartbeats 4000000 in
theorem m_goUp {Ω : Om} {l : Launch} {M : Mem} {v : Nat → Nat} (hS : MsR M v) (hw : Wv v) {g : Nat} (hg : g < v 2) (hp : v (33 + g) ≤ v 0) : Ct Ω l yX12_goes cX12_goes 4 5 (some .boolean) [.ref (Ω.2.2 34), .int (nI g), .int (nI 1)] M (fun ro M' => ro = some (.int (bI (suP v g).isSome)) ∧ MsR M' (suV v g) ∧ FS M M') := by
  have hn := hw.nums
  have hgo := hw.goer hg
  have hq : ∀ q, suP v g = some q → q < 2 ^ 31 := fun q h => by have := suP_le v h; omega
  have hne := nO_neg hq
  refine ct_of (by decide) (Nat.le_of_ble_eq_true rfl) ?_
  intro p e R s m args below meth c
  refine x_aload_n dX12_goes_0 rfl ?_
  refine x_iload_n dX12_goes_1 rfl ?_
  refine x_iload_n dX12_goes_2 rfl ?_
  refine q_X12_171 (m_stepUp hS hw hg hp) dX12_goes_3 rfl ?_
  rintro _ _ ⟨rfl, rfl⟩
  refine x_istore_n dX12_goes_6 ?_
  refine x_iload_n dX12_goes_7 rfl ?_
  refine x_if_ge 13 dX12_goes_8 (fun h_8 => ?_) (fun h_8 => ?_)
  · refine x_aload_n dX12_goes_13 rfl ?_
    refine g_X12_19 dX12_goes_14 ?_
    refine x_bipush (v := nI 33) dX12_goes_17 rfl ?_
    refine x_iload_n dX12_goes_19 rfl ?_
    refine y_iadd dX12_goes_20 ?_
    refine x_iload_n dX12_goes_21 rfl ?_
    refine x_ias dX12_goes_22 (⟨by decide, rfl, rfl, by decide⟩ : Ar 38 45) (by omega) ?_
    refine y_iconst (a := 1) dX12_goes_23 rfl ?_
    first | refine z_iret dX12_goes_24 ?_ | refine z_iret0 dX12_goes_24 ?_ | refine z_iret1 dX12_goes_24 ?_
    first
      | (have hs := hne.mp (by omega)
         rw [suV_none hs, hs]
         exact ⟨rfl, hS, FS.rf⟩)
      | (have hs : ¬ suP v g = none := fun z => by have := hne.mpr z; omega
         obtain ⟨q, hs⟩ : ∃ q, suP v g = some q := Option.ne_none_iff_exists'.mp hs
         rw [suV_some hs, hs]
         exact ⟨rfl, hS.set _ _, FS.rf.up⟩)
  · refine y_iconst (a := 0) dX12_goes_11 rfl ?_
    first | refine z_iret dX12_goes_12 ?_ | refine z_iret0 dX12_goes_12 ?_ | refine z_iret1 dX12_goes_12 ?_
    first
      | (have hs := hne.mp (by omega)
         rw [suV_none hs, hs]
         exact ⟨rfl, hS, FS.rf⟩)
      | (have hs : ¬ suP v g = none := fun z => by have := hne.mpr z; omega
         obtain ⟨q, hs⟩ : ∃ q, suP v g = some q := Option.ne_none_iff_exists'.mp hs
         rw [suV_some hs, hs]
         exact ⟨rfl, hS.set _ _, FS.rf.up⟩)
def dpV (v : Nat → Nat) (g : Nat) : Nat → Nat := match dnF v (v (33 + g)) with
  | none => v
  | some q => sv v (33 + g) q
set_option maxRecDepth 100000 in
set_option maxHeartbeats 4000000 in
theorem m_goDown {Ω : Om} {l : Launch} {M : Mem} {v : Nat → Nat} (hS : MsR M v) (hw : Wv v) {g : Nat} (hg : g < v 2) (hp : 1 ≤ v (33 + g)) : Ct Ω l yX12_goes cX12_goes 4 5 (some .boolean) [.ref (Ω.2.2 34), .int (nI g), .int (-1)] M (fun ro M' => ro = some (.int (bI (dnF v (v (33 + g))).isSome)) ∧ MsR M' (dpV v g) ∧ FS M M') := by
  have hn := hw.nums
  have hgo := hw.goer hg
  have hq : ∀ q, dnF v (v (33 + g)) = some q → q < 2 ^ 31 := fun q h => by have := dnF_le v h; omega
  have hne := nO_neg hq
  refine ct_of (by decide) (Nat.le_of_ble_eq_true rfl) ?_
  intro p e R s m args below meth c
  refine x_aload_n dX12_goes_0 rfl ?_
  refine x_iload_n dX12_goes_1 rfl ?_
  refine x_iload_n dX12_goes_2 rfl ?_
  refine q_X12_171 (m_stepDown hS hw hg hp) dX12_goes_3 rfl ?_
  rintro _ _ ⟨rfl, rfl⟩
  refine x_istore_n dX12_goes_6 ?_
  refine x_iload_n dX12_goes_7 rfl ?_
  refine x_if_ge 13 dX12_goes_8 (fun h_8 => ?_) (fun h_8 => ?_)
  · refine x_aload_n dX12_goes_13 rfl ?_
    refine g_X12_19 dX12_goes_14 ?_
    refine x_bipush (v := nI 33) dX12_goes_17 rfl ?_
    refine x_iload_n dX12_goes_19 rfl ?_
    refine y_iadd dX12_goes_20 ?_
    refine x_iload_n dX12_goes_21 rfl ?_
    refine x_ias dX12_goes_22 (⟨by decide, rfl, rfl, by decide⟩ : Ar 38 45) (by omega) ?_
    refine y_iconst (a := 1) dX12_goes_23 rfl ?_
    first | refine z_iret dX12_goes_24 ?_ | refine z_iret0 dX12_goes_24 ?_ | refine z_iret1 dX12_goes_24 ?_
    first
      | (have hs := hne.mp (by omega)
         unfold dpV
         rw [hs]
         exact ⟨rfl, hS, FS.rf⟩)
      | (have hs : ¬ dnF v (v (33 + g)) = none := fun z => by have := hne.mpr z; omega
         obtain ⟨q, hs⟩ : ∃ q, dnF v (v (33 + g)) = some q := Option.ne_none_iff_exists'.mp hs
         unfold dpV
         rw [hs]
         exact ⟨rfl, hS.set _ _, FS.rf.up⟩)
  · refine y_iconst (a := 0) dX12_goes_11 rfl ?_
    first | refine z_iret dX12_goes_12 ?_ | refine z_iret0 dX12_goes_12 ?_ | refine z_iret1 dX12_goes_12 ?_
    first
      | (have hs := hne.mp (by omega)
         unfold dpV
         rw [hs]
         exact ⟨rfl, hS, FS.rf⟩)
      | (have hs : ¬ dnF v (v (33 + g)) = none := fun z => by have := hne.mpr z; omega
         obtain ⟨q, hs⟩ : ∃ q, dnF v (v (33 + g)) = some q := Option.ne_none_iff_exists'.mp hs
         unfold dpV
         rw [hs]
         exact ⟨rfl, hS.set _ _, FS.rf.up⟩)
set_option maxRecDepth 100000 in
set_option maxHeartbeats 4000000 in
theorem m_highest {Ω : Om} {l : Launch} {M : Mem} {v : Nat → Nat} (hS : MsR M v) (hw : Wv v)  : Ct Ω l yX12_highest cX12_highest 2 3 (some .int) [.ref (Ω.2.2 34)] M (fun ro M' => ro = some (.int (nI (hiS v))) ∧ M = M') := by
  have hn := hw.nums
  refine ct_of (by decide) (Nat.le_of_ble_eq_true rfl) ?_
  intro p e R s m args below meth c
  have key : ∀ (k : Nat) , k ≤ v 0 → hiN v k = hiS v → X (mkG p l e R s m args below meth c Ω (fun ro M' => ro = some (.int (nI (hiS v))) ∧ M = M')) Ω RX12 cX12_highest 2 3 (some .int) 7 [some (.ref (Ω.2.2 34)), some (.int (nI k))] [] M := by
    intro k
    induction k with
    | zero =>
      intro hk he
      refine x_iload_n dX12_highest_7 rfl ?_
      refine y_if_le 25 dX12_highest_8 (by omega) (fun h_8 => ?_) (fun h_8 => ?_)
      · refine x_iload_n dX12_highest_25 rfl ?_
        refine x_iret dX12_highest_26 ?_
        rw [← he]
        first
          | exact ⟨rfl, rfl⟩
          | (exfalso; omega)
          | (rw [hiN_brk (by omega), if_neg (fun z => Bool.false_ne_true (h_16.symm.trans z))]
             exact ⟨rfl, rfl⟩)
          | (exfalso; omega)
      · exfalso; omega
    | succ k ih =>
      intro hk he
      refine x_iload_n dX12_highest_7 rfl ?_
      refine y_if_le 25 dX12_highest_8 (by omega) (fun h_8 => ?_) (fun h_8 => ?_)
      · refine x_iload_n dX12_highest_25 rfl ?_
        refine x_iret dX12_highest_26 ?_
        rw [← he]
        first
          | exact ⟨rfl, rfl⟩
          | (exfalso; omega)
          | (rw [hiN_brk (by omega), if_neg (fun z => Bool.false_ne_true (h_16.symm.trans z))]
             exact ⟨rfl, rfl⟩)
          | (exfalso; omega)
      · refine x_aload_n dX12_highest_11 rfl ?_
        refine x_iload_n dX12_highest_12 rfl ?_
        refine q_X12_168 (m_isBroken hS hw (by omega)) dX12_highest_13 rfl ?_
        rintro _ _ ⟨rfl, rfl⟩
        refine z_if_eq 25 dX12_highest_16 (fun h_16 => ?_) (fun h_16 => ?_)
        · refine x_iload_n dX12_highest_25 rfl ?_
          refine x_iret dX12_highest_26 ?_
          rw [← he]
          first
            | exact ⟨rfl, rfl⟩
            | (exfalso; omega)
            | (rw [hiN_brk (by omega), if_neg (fun z => Bool.false_ne_true (h_16.symm.trans z))]
               exact ⟨rfl, rfl⟩)
            | (exfalso; omega)
        · refine y_idec dX12_highest_19 rfl ?_
          refine x_goto 7 dX12_highest_22 ?_
          exact ih (by omega) (by rw [← he, hiN_brk (by omega), if_pos (by assumption)])
  refine x_aload_n dX12_highest_0 rfl ?_
  refine g_X12_19 dX12_highest_1 ?_
  refine y_iconst (a := 0) dX12_highest_4 rfl ?_
  refine x_ial dX12_highest_5 (⟨by decide, rfl, rfl, by decide⟩ : Ar 38 45) (by omega) ?_
  rw [hS.at (by omega)]
  refine x_istore_n dX12_highest_6 ?_
  exact key (v 0) (Nat.le_refl _) rfl
