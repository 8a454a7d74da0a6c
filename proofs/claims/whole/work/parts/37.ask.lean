/-! ASKED: the trace, the bodies (laid by gen_ask.py) -/
def TrL (M : Mem) (T : List Nat) : Prop := M.1 6 1 = nI T.length ∧ ∀ j, j < T.length → M.1 7 j = nI (T.getD j 0)
def AkR (M : Mem) (g w q : Nat) : Prop := M.1 6 2 = nI g ∧ M.1 6 3 = nI w ∧ M.1 6 4 = nI q
def FrA (M M' : Mem) : Prop := (∀ c, c ≠ 6 → c ≠ 7 → M'.1 c = M.1 c) ∧ ∀ k, k ≠ 1 → M'.1 6 k = M.1 6 k
theorem FrA.rf {M : Mem} : FrA M M := ⟨fun _ _ _ => rfl, fun _ _ => rfl⟩
theorem FrA.tr {M M1 M2 : Mem} (h : FrA M M1) (h2 : FrA M1 M2) : FrA M M2 := ⟨fun c a b => (h2.1 c a b).trans (h.1 c a b), fun k a => (h2.2 k a).trans (h.2 k a)⟩
theorem AkR.keep {M M' : Mem} {g w q : Nat} (h : AkR M g w q) (hF : FrA M M') : AkR M' g w q := ⟨(hF.2 2 (by decide)).trans h.1, (hF.2 3 (by decide)).trans h.2.1, (hF.2 4 (by decide)).trans h.2.2⟩
/-- what each kind answers, and the bodies that begin -/
def szA (k g w q : Nat) : Int32 × List Nat := if k = 1 then (nI w + (nI g + nI q), [11, 10, 21, 20]) else if k = 2 then (-(nI w + nI 2 * (nI g + nI q)), [12, 11, 10, 24, 21, 20]) else if k = 3 then (nI w + ((nI g + nI q) - nI 1000), [11, 10, 22, 21, 20]) else if k = 4 then (nI w - nI 100, [13, 10]) else (nI 2 * (nI w - nI 100), [14, 13, 10])
def mkA (k g w q : Nat) : Int32 × List Nat := if k = 1 then (nI g + nI q, [21, 20]) else if k = 2 then (nI 2 * (nI g + nI q), [24, 21, 20]) else if k = 3 then ((nI g + nI q) - nI 1000, [22, 21, 20]) else if k = 4 then (nI g - (nI w - nI 100), [23, 20, 13, 10]) else (nI g - nI 2 * (nI w - nI 100), [23, 20, 14, 13, 10])
def askA (v : Nat → Nat) (g : Nat) (w : Int32) : Int32 × List Nat := if w = nI 0 then szA (v (15 + g)) g (v (21 + g)) (v (33 + g)) else mkA (v (15 + g)) g (v (21 + g)) (v (33 + g))
def R_ask (σ : Sg) (x w : Int32) : Int32 × Sg := if inR x (σ.v 2) = true ∧ inB w 0 1 = true then ((askA σ.v (tN x) w).1, σ.uTr (askA σ.v (tN x) w).2.length (fun j => nI ((askA σ.v (tN x) w).2.getD j 0))) else (-1000001, σ)
theorem TrL.snoc {M : Mem} {T : List Nat} (h : TrL M T) (b : Nat) : TrL (up1 (up1 M 7 T.length (nI b)) 6 1 (nI (T.length + 1))) (T ++ [b]) := by
  refine ⟨by simp [up1_at], fun j hj => ?_⟩
  rw [up1_ne _ _ _ (by omega), up1_at]
  simp only [List.length_append, List.length_singleton] at hj
  by_cases e : j = T.length
  · subst e
    simp
  · rw [if_neg (by omega), h.2 j (by omega), List.getD_eq_getElem?_getD, List.getD_eq_getElem?_getD, List.getElem?_append_left (by omega)]
theorem IC.setTr {M M' : Mem} {σ : Sg} (h : IC M σ) {a : Nat} {f : Nat → Int32} (hr : TrC M' (σ.uTr a f)) (e : ∀ d, d ≠ 6 → d ≠ 7 → M'.1 d = M.1 d) : IC M' (σ.uTr a f) := by
  obtain ⟨h1, h2, h3, h4, h5, h6, h7, h8, h9⟩ := h
  have e0 := e 0 (by omega) (by omega)
  have e14 := e 14 (by omega) (by omega)
  exact ⟨RowsC.keep (σ := σ) h1 (fun c a b => e c (by omega) (by omega)), by rw [e0]; exact h2, TapeC.keep (σ := σ) h3 (fun c a b => e c (by omega) (by omega)), by rw [e0]; exact h4, h5.same (fun k hk => e _ (by omega) (by omega)), ActsC.keep (σ := σ) h6 (by rw [e0]) (by rw [e0]) (fun c a b => e c (by omega) (by omega)), ImgC.keep (σ := σ) h7 (by rw [e0]) (fun c a b => e c (by omega) (by omega)), hr, h9.keep (by rw [e14]) (by rw [e14]) (by rw [e14]) (e 16 (by omega) (by omega)) (fun c a b => e c (by omega) (by omega))⟩

set_option maxRecDepth 100000 in
set_option maxHeartbeats 4000000 in
theorem c_turnTo {Ω : Om} {l : Launch} {M : Mem} {v : Nat → Nat} (hR : LkR M 49 v) (hw : Wv v) {g : Nat} (hg : g < v 2) : Ct Ω l yX0_turnTo cX0_turnTo 3 1 none [.ref (Ω.2.2 6), .ref (Ω.2.2 49), .int (nI g)] M (fun ro M' => ro = none ∧ TrL M' [] ∧ AkR M' g (v (21 + g)) (v (33 + g)) ∧ ∀ c, c ≠ 6 → M'.1 c = M.1 c) := by
  have hL49 : Lk 49 := Lk49
  have hL57 : Lk 57 := Lk57
  have hn := hw.nums
  refine ct_of (by decide) (Nat.le_of_ble_eq_true rfl) ?_
  intro p e R s m args below meth c
  refine x_aload_n dX0_turnTo_0 rfl ?_
  refine y_iconst (a := 0) dX0_turnTo_1 rfl ?_
  refine p_X0_15 dX0_turnTo_2 ?_
  refine x_aload_n dX0_turnTo_5 rfl ?_
  refine x_iload_n dX0_turnTo_6 rfl ?_
  refine p_X0_19 dX0_turnTo_7 ?_
  refine x_aload_n dX0_turnTo_10 rfl ?_
  refine x_aload_n dX0_turnTo_11 rfl ?_
  refine g_X0_22 dX0_turnTo_12 ?_
  refine x_iload_n dX0_turnTo_15 rfl ?_
  refine x_ial dX0_turnTo_16 (ArL (by assumption) (Or.inr ⟨by decide, by decide, rfl⟩)) (by omega) ?_
  rw [up1_ne _ _ _ (by omega), up1_ne _ _ _ (by omega), hR.weight hg]
  refine p_X0_27 dX0_turnTo_17 ?_
  refine x_aload_n dX0_turnTo_20 rfl ?_
  refine x_aload_n dX0_turnTo_21 rfl ?_
  refine g_X0_29 dX0_turnTo_22 ?_
  refine x_iload_n dX0_turnTo_25 rfl ?_
  refine x_ial dX0_turnTo_26 (ArL (by assumption) (Or.inr ⟨by decide, by decide, rfl⟩)) (by omega) ?_
  rw [up1_ne _ _ _ (by omega), up1_ne _ _ _ (by omega), up1_ne _ _ _ (by omega), hR.place hg]
  refine p_X0_32 dX0_turnTo_27 ?_
  refine x_vret dX0_turnTo_30 ?_
  exact ⟨rfl, ⟨by simp [up1_at], fun j hj => absurd hj (Nat.not_lt_zero _)⟩, ⟨by simp [up1_at], by simp [up1_at], by simp [up1_at]⟩, fun c hc => by rw [up1_ne _ _ _ hc, up1_ne _ _ _ hc, up1_ne _ _ _ hc, up1_ne _ _ _ hc]⟩
set_option maxRecDepth 100000 in
set_option maxHeartbeats 4000000 in
theorem c_leave {Ω : Om} {l : Launch} {M : Mem} {T : List Nat} (hT : TrL M T) (hl : T.length ≤ 15) {b : Nat} : Ct Ω l yX0_leave cX0_leave 2 1 none [.ref (Ω.2.2 6), .int (nI b)] M (fun ro M' => ro = none ∧ TrL M' (T ++ [b]) ∧ FrA M M') := by
  have hL49 : Lk 49 := Lk49
  have hL57 : Lk 57 := Lk57
  have h1 := hT.1
  refine ct_of (by decide) (Nat.le_of_ble_eq_true rfl) ?_
  intro p e R s m args below meth c
  refine x_aload_n dX0_leave_0 rfl ?_
  refine g_X0_15 dX0_leave_1 ?_
  rw [h1]
  refine x_bipush (v := nI 16) dX0_leave_4 rfl ?_
  refine y_icmp_ge 29 dX0_leave_6 (by omega) (by omega) (fun h_6 => ?_) (fun h_6 => ?_)
  · refine x_vret dX0_leave_29 ?_
    first
      | (exfalso; omega)
      | exact ⟨rfl, hT.snoc b, fun c c1 c2 => by rw [up1_ne _ _ _ c1, up1_ne _ _ _ c2], fun k hk => by rw [up1_at, if_neg (by omega), up1_ne _ _ _ (by omega)]⟩
  · refine x_aload_n dX0_leave_9 rfl ?_
    refine g_X0_9 dX0_leave_10 ?_
    refine x_aload_n dX0_leave_13 rfl ?_
    refine g_X0_15 dX0_leave_14 ?_
    rw [h1]
    refine x_iload_n dX0_leave_17 rfl ?_
    refine x_ias dX0_leave_18 (⟨by decide, rfl, rfl, by decide⟩ : Ar 7 16) (by omega) ?_
    refine x_aload_n dX0_leave_19 rfl ?_
    refine x_dup dX0_leave_20 rfl ?_
    refine g_X0_15 dX0_leave_21 ?_
    rw [up1_ne _ _ _ (by omega), h1]
    refine y_iconst (a := 1) dX0_leave_24 rfl ?_
    refine y_iadd dX0_leave_25 ?_
    refine p_X0_15 dX0_leave_26 ?_
    refine x_vret dX0_leave_29 ?_
    first
      | (exfalso; omega)
      | exact ⟨rfl, hT.snoc b, fun c c1 c2 => by rw [up1_ne _ _ _ c1, up1_ne _ _ _ c2], fun k hk => by rw [up1_at, if_neg (by omega), up1_ne _ _ _ (by omega)]⟩
set_option maxRecDepth 100000 in
set_option maxHeartbeats 4000000 in
theorem c_gSize {Ω : Om} {l : Launch} {M : Mem} {T : List Nat} {g w q : Nat} (hT : TrL M T) (hl : T.length + 1 ≤ 16) (hA : AkR M g w q) {qq : Nat} : Ct Ω l yX7_tellSize cX7_tellSize 2 2 (some .int) [.ref (Ω.2.2 qq), .ref (Ω.2.2 6)] M (fun ro M' => ro = some (.int (nI w)) ∧ TrL M' (T ++ [10]) ∧ FrA M M') := by
  have hL49 : Lk 49 := Lk49
  have hL57 : Lk 57 := Lk57
  refine ct_of (by decide) (Nat.le_of_ble_eq_true rfl) ?_
  intro p e R s m args below meth c
  refine x_aload_n dX7_tellSize_0 rfl ?_
  refine x_bipush (v := nI 10) dX7_tellSize_1 rfl ?_
  refine q_X7_7 (c_leave hT (by omega)) dX7_tellSize_3 rfl ?_
  rintro _ M0 ⟨rfl, hT0, hF0⟩
  have hA0 := hA.keep hF0
  refine x_aload_n dX7_tellSize_6 rfl ?_
  refine g_X7_13 dX7_tellSize_7 ?_
  rw [hA0.2.1]
  refine x_iret dX7_tellSize_10 ?_
  refine ⟨rfl, ?_, hF0⟩
  have hz := hT0
  try simp only [List.append_assoc, List.singleton_append, List.cons_append, List.nil_append] at hz
  exact hz
set_option maxRecDepth 100000 in
set_option maxHeartbeats 4000000 in
theorem c_gMark {Ω : Om} {l : Launch} {M : Mem} {T : List Nat} {g w q : Nat} (hT : TrL M T) (hl : T.length + 1 ≤ 16) (hA : AkR M g w q) {qq : Nat} : Ct Ω l yX7_tellMark cX7_tellMark 2 2 (some .int) [.ref (Ω.2.2 qq), .ref (Ω.2.2 6)] M (fun ro M' => ro = some (.int (nI g)) ∧ TrL M' (T ++ [20]) ∧ FrA M M') := by
  have hL49 : Lk 49 := Lk49
  have hL57 : Lk 57 := Lk57
  refine ct_of (by decide) (Nat.le_of_ble_eq_true rfl) ?_
  intro p e R s m args below meth c
  refine x_aload_n dX7_tellMark_0 rfl ?_
  refine x_bipush (v := nI 20) dX7_tellMark_1 rfl ?_
  refine q_X7_7 (c_leave hT (by omega)) dX7_tellMark_3 rfl ?_
  rintro _ M0 ⟨rfl, hT0, hF0⟩
  have hA0 := hA.keep hF0
  refine x_aload_n dX7_tellMark_6 rfl ?_
  refine g_X7_17 dX7_tellMark_7 ?_
  rw [hA0.1]
  refine x_iret dX7_tellMark_10 ?_
  refine ⟨rfl, ?_, hF0⟩
  have hz := hT0
  try simp only [List.append_assoc, List.singleton_append, List.cons_append, List.nil_append] at hz
  exact hz
set_option maxRecDepth 100000 in
set_option maxHeartbeats 4000000 in
theorem c_cMark9 {Ω : Om} {l : Launch} {M : Mem} {T : List Nat} {g w q : Nat} (hT : TrL M T) (hl : T.length + 2 ≤ 16) (hA : AkR M g w q) : Ct Ω l yX1_tellMark cX1_tellMark 2 3 (some .int) [.ref (Ω.2.2 9), .ref (Ω.2.2 6)] M (fun ro M' => ro = some (.int (nI g + nI q)) ∧ TrL M' (T ++ [21, 20]) ∧ FrA M M') := by
  have hL49 : Lk 49 := Lk49
  have hL57 : Lk 57 := Lk57
  refine ct_of (by decide) (Nat.le_of_ble_eq_true rfl) ?_
  intro p e R s m args below meth c
  refine x_aload_n dX1_tellMark_0 rfl ?_
  refine x_bipush (v := nI 21) dX1_tellMark_1 rfl ?_
  refine q_X1_13 (c_leave hT (by omega)) dX1_tellMark_3 rfl ?_
  rintro _ M0 ⟨rfl, hT0, hF0⟩
  have hA0 := hA.keep hF0
  refine x_aload_n dX1_tellMark_6 rfl ?_
  refine x_aload_n dX1_tellMark_7 rfl ?_
  refine q_X1_28 (c_gMark hT0 (by simp; omega) hA0) dX1_tellMark_8 rfl (ci := 1) rfl (by decide) rfl (by decide) ?_
  rintro _ M1 ⟨rfl, hT1, hF1⟩
  have hA1 := hA0.keep hF1
  refine x_aload_n dX1_tellMark_11 rfl ?_
  refine g_X1_29 dX1_tellMark_12 ?_
  rw [hA1.2.2]
  refine x_iadd dX1_tellMark_15 ?_
  refine x_iret dX1_tellMark_16 ?_
  refine ⟨rfl, ?_, (hF0.tr hF1)⟩
  have hz := hT1
  try simp only [List.append_assoc, List.singleton_append, List.cons_append, List.nil_append] at hz
  exact hz
set_option maxRecDepth 100000 in
set_option maxHeartbeats 4000000 in
theorem c_cMark10 {Ω : Om} {l : Launch} {M : Mem} {T : List Nat} {g w q : Nat} (hT : TrL M T) (hl : T.length + 2 ≤ 16) (hA : AkR M g w q) : Ct Ω l yX1_tellMark cX1_tellMark 2 3 (some .int) [.ref (Ω.2.2 10), .ref (Ω.2.2 6)] M (fun ro M' => ro = some (.int (nI g + nI q)) ∧ TrL M' (T ++ [21, 20]) ∧ FrA M M') := by
  have hL49 : Lk 49 := Lk49
  have hL57 : Lk 57 := Lk57
  refine ct_of (by decide) (Nat.le_of_ble_eq_true rfl) ?_
  intro p e R s m args below meth c
  refine x_aload_n dX1_tellMark_0 rfl ?_
  refine x_bipush (v := nI 21) dX1_tellMark_1 rfl ?_
  refine q_X1_13 (c_leave hT (by omega)) dX1_tellMark_3 rfl ?_
  rintro _ M0 ⟨rfl, hT0, hF0⟩
  have hA0 := hA.keep hF0
  refine x_aload_n dX1_tellMark_6 rfl ?_
  refine x_aload_n dX1_tellMark_7 rfl ?_
  refine q_X1_28 (c_gMark hT0 (by simp; omega) hA0) dX1_tellMark_8 rfl (ci := 3) rfl (by decide) rfl (by decide) ?_
  rintro _ M1 ⟨rfl, hT1, hF1⟩
  have hA1 := hA0.keep hF1
  refine x_aload_n dX1_tellMark_11 rfl ?_
  refine g_X1_29 dX1_tellMark_12 ?_
  rw [hA1.2.2]
  refine x_iadd dX1_tellMark_15 ?_
  refine x_iret dX1_tellMark_16 ?_
  refine ⟨rfl, ?_, (hF0.tr hF1)⟩
  have hz := hT1
  try simp only [List.append_assoc, List.singleton_append, List.cons_append, List.nil_append] at hz
  exact hz
set_option maxRecDepth 100000 in
set_option maxHeartbeats 4000000 in
theorem c_cMark11 {Ω : Om} {l : Launch} {M : Mem} {T : List Nat} {g w q : Nat} (hT : TrL M T) (hl : T.length + 2 ≤ 16) (hA : AkR M g w q) : Ct Ω l yX1_tellMark cX1_tellMark 2 3 (some .int) [.ref (Ω.2.2 11), .ref (Ω.2.2 6)] M (fun ro M' => ro = some (.int (nI g + nI q)) ∧ TrL M' (T ++ [21, 20]) ∧ FrA M M') := by
  have hL49 : Lk 49 := Lk49
  have hL57 : Lk 57 := Lk57
  refine ct_of (by decide) (Nat.le_of_ble_eq_true rfl) ?_
  intro p e R s m args below meth c
  refine x_aload_n dX1_tellMark_0 rfl ?_
  refine x_bipush (v := nI 21) dX1_tellMark_1 rfl ?_
  refine q_X1_13 (c_leave hT (by omega)) dX1_tellMark_3 rfl ?_
  rintro _ M0 ⟨rfl, hT0, hF0⟩
  have hA0 := hA.keep hF0
  refine x_aload_n dX1_tellMark_6 rfl ?_
  refine x_aload_n dX1_tellMark_7 rfl ?_
  refine q_X1_28 (c_gMark hT0 (by simp; omega) hA0) dX1_tellMark_8 rfl (ci := 2) rfl (by decide) rfl (by decide) ?_
  rintro _ M1 ⟨rfl, hT1, hF1⟩
  have hA1 := hA0.keep hF1
  refine x_aload_n dX1_tellMark_11 rfl ?_
  refine g_X1_29 dX1_tellMark_12 ?_
  rw [hA1.2.2]
  refine x_iadd dX1_tellMark_15 ?_
  refine x_iret dX1_tellMark_16 ?_
  refine ⟨rfl, ?_, (hF0.tr hF1)⟩
  have hz := hT1
  try simp only [List.append_assoc, List.singleton_append, List.cons_append, List.nil_append] at hz
  exact hz
set_option maxRecDepth 100000 in
set_option maxHeartbeats 4000000 in
theorem c_dMark {Ω : Om} {l : Launch} {M : Mem} {T : List Nat} {g w q : Nat} (hT : TrL M T) (hl : T.length + 3 ≤ 16) (hA : AkR M g w q) : Ct Ω l yX3_tellMark cX3_tellMark 2 4 (some .int) [.ref (Ω.2.2 10), .ref (Ω.2.2 6)] M (fun ro M' => ro = some (.int (nI 2 * (nI g + nI q))) ∧ TrL M' (T ++ [24, 21, 20]) ∧ FrA M M') := by
  have hL49 : Lk 49 := Lk49
  have hL57 : Lk 57 := Lk57
  refine ct_of (by decide) (Nat.le_of_ble_eq_true rfl) ?_
  intro p e R s m args below meth c
  refine x_aload_n dX3_tellMark_0 rfl ?_
  refine x_bipush (v := nI 24) dX3_tellMark_1 rfl ?_
  refine q_X3_13 (c_leave hT (by omega)) dX3_tellMark_3 rfl ?_
  rintro _ M0 ⟨rfl, hT0, hF0⟩
  have hA0 := hA.keep hF0
  refine y_iconst (a := 2) dX3_tellMark_6 rfl ?_
  refine x_aload_n dX3_tellMark_7 rfl ?_
  refine x_aload_n dX3_tellMark_8 rfl ?_
  refine q_X3_23 (c_cMark10 hT0 (by simp; omega) hA0) dX3_tellMark_9 rfl (ci := 3) rfl (by decide) rfl (by decide) ?_
  rintro _ M1 ⟨rfl, hT1, hF1⟩
  have hA1 := hA0.keep hF1
  refine x_imul dX3_tellMark_12 ?_
  refine x_iret dX3_tellMark_13 ?_
  refine ⟨rfl, ?_, (hF0.tr hF1)⟩
  have hz := hT1
  try simp only [List.append_assoc, List.singleton_append, List.cons_append, List.nil_append] at hz
  exact hz
set_option maxRecDepth 100000 in
set_option maxHeartbeats 4000000 in
theorem c_kMark {Ω : Om} {l : Launch} {M : Mem} {T : List Nat} {g w q : Nat} (hT : TrL M T) (hl : T.length + 3 ≤ 16) (hA : AkR M g w q) : Ct Ω l yX2_tellMark cX2_tellMark 2 4 (some .int) [.ref (Ω.2.2 11), .ref (Ω.2.2 6)] M (fun ro M' => ro = some (.int ((nI g + nI q) - nI 1000)) ∧ TrL M' (T ++ [22, 21, 20]) ∧ FrA M M') := by
  have hL49 : Lk 49 := Lk49
  have hL57 : Lk 57 := Lk57
  refine ct_of (by decide) (Nat.le_of_ble_eq_true rfl) ?_
  intro p e R s m args below meth c
  refine x_aload_n dX2_tellMark_0 rfl ?_
  refine x_bipush (v := nI 22) dX2_tellMark_1 rfl ?_
  refine q_X2_17 (c_leave hT (by omega)) dX2_tellMark_3 rfl ?_
  rintro _ M0 ⟨rfl, hT0, hF0⟩
  have hA0 := hA.keep hF0
  refine x_aload_n dX2_tellMark_6 rfl ?_
  refine x_aload_n dX2_tellMark_7 rfl ?_
  refine q_X2_23 (c_cMark11 hT0 (by simp; omega) hA0) dX2_tellMark_8 rfl (ci := 2) rfl (by decide) rfl (by decide) ?_
  rintro _ M1 ⟨rfl, hT1, hF1⟩
  have hA1 := hA0.keep hF1
  refine x_sipush (v := nI 1000) dX2_tellMark_11 rfl ?_
  refine x_isub dX2_tellMark_14 ?_
  refine x_iret dX2_tellMark_15 ?_
  refine ⟨rfl, ?_, (hF0.tr hF1)⟩
  have hz := hT1
  try simp only [List.append_assoc, List.singleton_append, List.cons_append, List.nil_append] at hz
  exact hz
set_option maxRecDepth 100000 in
set_option maxHeartbeats 4000000 in
theorem c_cSize9 {Ω : Om} {l : Launch} {M : Mem} {T : List Nat} {g w q : Nat} (hT : TrL M T) (hl : T.length + 4 ≤ 16) (hA : AkR M g w q) : Ct Ω l yX1_tellSize cX1_tellSize 3 5 (some .int) [.ref (Ω.2.2 9), .ref (Ω.2.2 6)] M (fun ro M' => ro = some (.int (nI w + (nI g + nI q))) ∧ TrL M' (T ++ [11, 10, 21, 20]) ∧ FrA M M') := by
  have hL49 : Lk 49 := Lk49
  have hL57 : Lk 57 := Lk57
  refine ct_of (by decide) (Nat.le_of_ble_eq_true rfl) ?_
  intro p e R s m args below meth c
  refine x_aload_n dX1_tellSize_0 rfl ?_
  refine x_bipush (v := nI 11) dX1_tellSize_1 rfl ?_
  refine q_X1_13 (c_leave hT (by omega)) dX1_tellSize_3 rfl ?_
  rintro _ M0 ⟨rfl, hT0, hF0⟩
  have hA0 := hA.keep hF0
  refine x_aload_n dX1_tellSize_6 rfl ?_
  refine x_aload_n dX1_tellSize_7 rfl ?_
  refine q_X1_19 (c_gSize hT0 (by simp; omega) hA0) dX1_tellSize_8 rfl (ci := 1) rfl (by decide) rfl (by decide) ?_
  rintro _ M1 ⟨rfl, hT1, hF1⟩
  have hA1 := hA0.keep hF1
  refine x_istore_n dX1_tellSize_11 ?_
  refine x_iload_n dX1_tellSize_12 rfl ?_
  refine x_aload_n dX1_tellSize_13 rfl ?_
  refine x_aload_n dX1_tellSize_14 rfl ?_
  refine q_X1_23_X1 (c_cMark9 hT1 (by simp; omega) hA1) dX1_tellSize_15 rfl (by decide) rfl ?_
  rintro _ M2 ⟨rfl, hT2, hF2⟩
  have hA2 := hA1.keep hF2
  refine x_iadd dX1_tellSize_18 ?_
  refine x_iret dX1_tellSize_19 ?_
  refine ⟨rfl, ?_, ((hF0.tr hF1).tr hF2)⟩
  have hz := hT2
  try simp only [List.append_assoc, List.singleton_append, List.cons_append, List.nil_append] at hz
  exact hz
set_option maxRecDepth 100000 in
set_option maxHeartbeats 4000000 in
theorem c_cSize10 {Ω : Om} {l : Launch} {M : Mem} {T : List Nat} {g w q : Nat} (hT : TrL M T) (hl : T.length + 5 ≤ 16) (hA : AkR M g w q) : Ct Ω l yX1_tellSize cX1_tellSize 3 5 (some .int) [.ref (Ω.2.2 10), .ref (Ω.2.2 6)] M (fun ro M' => ro = some (.int (nI w + (nI 2 * (nI g + nI q)))) ∧ TrL M' (T ++ [11, 10, 24, 21, 20]) ∧ FrA M M') := by
  have hL49 : Lk 49 := Lk49
  have hL57 : Lk 57 := Lk57
  refine ct_of (by decide) (Nat.le_of_ble_eq_true rfl) ?_
  intro p e R s m args below meth c
  refine x_aload_n dX1_tellSize_0 rfl ?_
  refine x_bipush (v := nI 11) dX1_tellSize_1 rfl ?_
  refine q_X1_13 (c_leave hT (by omega)) dX1_tellSize_3 rfl ?_
  rintro _ M0 ⟨rfl, hT0, hF0⟩
  have hA0 := hA.keep hF0
  refine x_aload_n dX1_tellSize_6 rfl ?_
  refine x_aload_n dX1_tellSize_7 rfl ?_
  refine q_X1_19 (c_gSize hT0 (by simp; omega) hA0) dX1_tellSize_8 rfl (ci := 3) rfl (by decide) rfl (by decide) ?_
  rintro _ M1 ⟨rfl, hT1, hF1⟩
  have hA1 := hA0.keep hF1
  refine x_istore_n dX1_tellSize_11 ?_
  refine x_iload_n dX1_tellSize_12 rfl ?_
  refine x_aload_n dX1_tellSize_13 rfl ?_
  refine x_aload_n dX1_tellSize_14 rfl ?_
  refine q_X1_23_X3 (c_dMark hT1 (by simp; omega) hA1) dX1_tellSize_15 rfl (by decide) rfl ?_
  rintro _ M2 ⟨rfl, hT2, hF2⟩
  have hA2 := hA1.keep hF2
  refine x_iadd dX1_tellSize_18 ?_
  refine x_iret dX1_tellSize_19 ?_
  refine ⟨rfl, ?_, ((hF0.tr hF1).tr hF2)⟩
  have hz := hT2
  try simp only [List.append_assoc, List.singleton_append, List.cons_append, List.nil_append] at hz
  exact hz
set_option maxRecDepth 100000 in
set_option maxHeartbeats 4000000 in
theorem c_cSize11 {Ω : Om} {l : Launch} {M : Mem} {T : List Nat} {g w q : Nat} (hT : TrL M T) (hl : T.length + 5 ≤ 16) (hA : AkR M g w q) : Ct Ω l yX1_tellSize cX1_tellSize 3 5 (some .int) [.ref (Ω.2.2 11), .ref (Ω.2.2 6)] M (fun ro M' => ro = some (.int (nI w + ((nI g + nI q) - nI 1000))) ∧ TrL M' (T ++ [11, 10, 22, 21, 20]) ∧ FrA M M') := by
  have hL49 : Lk 49 := Lk49
  have hL57 : Lk 57 := Lk57
  refine ct_of (by decide) (Nat.le_of_ble_eq_true rfl) ?_
  intro p e R s m args below meth c
  refine x_aload_n dX1_tellSize_0 rfl ?_
  refine x_bipush (v := nI 11) dX1_tellSize_1 rfl ?_
  refine q_X1_13 (c_leave hT (by omega)) dX1_tellSize_3 rfl ?_
  rintro _ M0 ⟨rfl, hT0, hF0⟩
  have hA0 := hA.keep hF0
  refine x_aload_n dX1_tellSize_6 rfl ?_
  refine x_aload_n dX1_tellSize_7 rfl ?_
  refine q_X1_19 (c_gSize hT0 (by simp; omega) hA0) dX1_tellSize_8 rfl (ci := 2) rfl (by decide) rfl (by decide) ?_
  rintro _ M1 ⟨rfl, hT1, hF1⟩
  have hA1 := hA0.keep hF1
  refine x_istore_n dX1_tellSize_11 ?_
  refine x_iload_n dX1_tellSize_12 rfl ?_
  refine x_aload_n dX1_tellSize_13 rfl ?_
  refine x_aload_n dX1_tellSize_14 rfl ?_
  refine q_X1_23_X2 (c_kMark hT1 (by simp; omega) hA1) dX1_tellSize_15 rfl (by decide) rfl ?_
  rintro _ M2 ⟨rfl, hT2, hF2⟩
  have hA2 := hA1.keep hF2
  refine x_iadd dX1_tellSize_18 ?_
  refine x_iret dX1_tellSize_19 ?_
  refine ⟨rfl, ?_, ((hF0.tr hF1).tr hF2)⟩
  have hz := hT2
  try simp only [List.append_assoc, List.singleton_append, List.cons_append, List.nil_append] at hz
  exact hz
set_option maxRecDepth 100000 in
set_option maxHeartbeats 4000000 in
theorem c_dSize {Ω : Om} {l : Launch} {M : Mem} {T : List Nat} {g w q : Nat} (hT : TrL M T) (hl : T.length + 6 ≤ 16) (hA : AkR M g w q) : Ct Ω l yX3_tellSize cX3_tellSize 2 6 (some .int) [.ref (Ω.2.2 10), .ref (Ω.2.2 6)] M (fun ro M' => ro = some (.int (-(nI w + nI 2 * (nI g + nI q)))) ∧ TrL M' (T ++ [12, 11, 10, 24, 21, 20]) ∧ FrA M M') := by
  have hL49 : Lk 49 := Lk49
  have hL57 : Lk 57 := Lk57
  refine ct_of (by decide) (Nat.le_of_ble_eq_true rfl) ?_
  intro p e R s m args below meth c
  refine x_aload_n dX3_tellSize_0 rfl ?_
  refine x_bipush (v := nI 12) dX3_tellSize_1 rfl ?_
  refine q_X3_13 (c_leave hT (by omega)) dX3_tellSize_3 rfl ?_
  rintro _ M0 ⟨rfl, hT0, hF0⟩
  have hA0 := hA.keep hF0
  refine x_aload_n dX3_tellSize_6 rfl ?_
  refine x_aload_n dX3_tellSize_7 rfl ?_
  refine q_X3_19 (c_cSize10 hT0 (by simp; omega) hA0) dX3_tellSize_8 rfl (ci := 3) rfl (by decide) rfl (by decide) ?_
  rintro _ M1 ⟨rfl, hT1, hF1⟩
  have hA1 := hA0.keep hF1
  refine x_ineg dX3_tellSize_11 ?_
  refine x_iret dX3_tellSize_12 ?_
  refine ⟨rfl, ?_, (hF0.tr hF1)⟩
  have hz := hT1
  try simp only [List.append_assoc, List.singleton_append, List.cons_append, List.nil_append] at hz
  exact hz
set_option maxRecDepth 100000 in
set_option maxHeartbeats 4000000 in
theorem c_fSize12 {Ω : Om} {l : Launch} {M : Mem} {T : List Nat} {g w q : Nat} (hT : TrL M T) (hl : T.length + 2 ≤ 16) (hA : AkR M g w q) : Ct Ω l yX4_tellSize cX4_tellSize 2 3 (some .int) [.ref (Ω.2.2 12), .ref (Ω.2.2 6)] M (fun ro M' => ro = some (.int (nI w - nI 100)) ∧ TrL M' (T ++ [13, 10]) ∧ FrA M M') := by
  have hL49 : Lk 49 := Lk49
  have hL57 : Lk 57 := Lk57
  refine ct_of (by decide) (Nat.le_of_ble_eq_true rfl) ?_
  intro p e R s m args below meth c
  refine x_aload_n dX4_tellSize_0 rfl ?_
  refine x_bipush (v := nI 13) dX4_tellSize_1 rfl ?_
  refine q_X4_23 (c_leave hT (by omega)) dX4_tellSize_3 rfl ?_
  rintro _ M0 ⟨rfl, hT0, hF0⟩
  have hA0 := hA.keep hF0
  refine x_aload_n dX4_tellSize_6 rfl ?_
  refine x_aload_n dX4_tellSize_7 rfl ?_
  refine q_X4_28 (c_gSize hT0 (by simp; omega) hA0) dX4_tellSize_8 rfl (ci := 4) rfl (by decide) rfl (by decide) ?_
  rintro _ M1 ⟨rfl, hT1, hF1⟩
  have hA1 := hA0.keep hF1
  refine x_bipush (v := nI 100) dX4_tellSize_11 rfl ?_
  refine x_isub dX4_tellSize_13 ?_
  refine x_iret dX4_tellSize_14 ?_
  refine ⟨rfl, ?_, (hF0.tr hF1)⟩
  have hz := hT1
  try simp only [List.append_assoc, List.singleton_append, List.cons_append, List.nil_append] at hz
  exact hz
set_option maxRecDepth 100000 in
set_option maxHeartbeats 4000000 in
theorem c_fSize13 {Ω : Om} {l : Launch} {M : Mem} {T : List Nat} {g w q : Nat} (hT : TrL M T) (hl : T.length + 2 ≤ 16) (hA : AkR M g w q) : Ct Ω l yX4_tellSize cX4_tellSize 2 3 (some .int) [.ref (Ω.2.2 13), .ref (Ω.2.2 6)] M (fun ro M' => ro = some (.int (nI w - nI 100)) ∧ TrL M' (T ++ [13, 10]) ∧ FrA M M') := by
  have hL49 : Lk 49 := Lk49
  have hL57 : Lk 57 := Lk57
  refine ct_of (by decide) (Nat.le_of_ble_eq_true rfl) ?_
  intro p e R s m args below meth c
  refine x_aload_n dX4_tellSize_0 rfl ?_
  refine x_bipush (v := nI 13) dX4_tellSize_1 rfl ?_
  refine q_X4_23 (c_leave hT (by omega)) dX4_tellSize_3 rfl ?_
  rintro _ M0 ⟨rfl, hT0, hF0⟩
  have hA0 := hA.keep hF0
  refine x_aload_n dX4_tellSize_6 rfl ?_
  refine x_aload_n dX4_tellSize_7 rfl ?_
  refine q_X4_28 (c_gSize hT0 (by simp; omega) hA0) dX4_tellSize_8 rfl (ci := 6) rfl (by decide) rfl (by decide) ?_
  rintro _ M1 ⟨rfl, hT1, hF1⟩
  have hA1 := hA0.keep hF1
  refine x_bipush (v := nI 100) dX4_tellSize_11 rfl ?_
  refine x_isub dX4_tellSize_13 ?_
  refine x_iret dX4_tellSize_14 ?_
  refine ⟨rfl, ?_, (hF0.tr hF1)⟩
  have hz := hT1
  try simp only [List.append_assoc, List.singleton_append, List.cons_append, List.nil_append] at hz
  exact hz
set_option maxRecDepth 100000 in
set_option maxHeartbeats 4000000 in
theorem c_lSize {Ω : Om} {l : Launch} {M : Mem} {T : List Nat} {g w q : Nat} (hT : TrL M T) (hl : T.length + 3 ≤ 16) (hA : AkR M g w q) : Ct Ω l yX6_tellSize cX6_tellSize 2 4 (some .int) [.ref (Ω.2.2 13), .ref (Ω.2.2 6)] M (fun ro M' => ro = some (.int (nI 2 * (nI w - nI 100))) ∧ TrL M' (T ++ [14, 13, 10]) ∧ FrA M M') := by
  have hL49 : Lk 49 := Lk49
  have hL57 : Lk 57 := Lk57
  refine ct_of (by decide) (Nat.le_of_ble_eq_true rfl) ?_
  intro p e R s m args below meth c
  refine x_aload_n dX6_tellSize_0 rfl ?_
  refine x_bipush (v := nI 14) dX6_tellSize_1 rfl ?_
  refine q_X6_7 (c_leave hT (by omega)) dX6_tellSize_3 rfl ?_
  rintro _ M0 ⟨rfl, hT0, hF0⟩
  have hA0 := hA.keep hF0
  refine y_iconst (a := 2) dX6_tellSize_6 rfl ?_
  refine x_aload_n dX6_tellSize_7 rfl ?_
  refine x_aload_n dX6_tellSize_8 rfl ?_
  refine q_X6_13 (c_fSize13 hT0 (by simp; omega) hA0) dX6_tellSize_9 rfl (ci := 6) rfl (by decide) rfl (by decide) ?_
  rintro _ M1 ⟨rfl, hT1, hF1⟩
  have hA1 := hA0.keep hF1
  refine x_imul dX6_tellSize_12 ?_
  refine x_iret dX6_tellSize_13 ?_
  refine ⟨rfl, ?_, (hF0.tr hF1)⟩
  have hz := hT1
  try simp only [List.append_assoc, List.singleton_append, List.cons_append, List.nil_append] at hz
  exact hz
set_option maxRecDepth 100000 in
set_option maxHeartbeats 4000000 in
theorem c_fMark12 {Ω : Om} {l : Launch} {M : Mem} {T : List Nat} {g w q : Nat} (hT : TrL M T) (hl : T.length + 4 ≤ 16) (hA : AkR M g w q) : Ct Ω l yX4_tellMark cX4_tellMark 3 5 (some .int) [.ref (Ω.2.2 12), .ref (Ω.2.2 6)] M (fun ro M' => ro = some (.int (nI g - (nI w - nI 100))) ∧ TrL M' (T ++ [23, 20, 13, 10]) ∧ FrA M M') := by
  have hL49 : Lk 49 := Lk49
  have hL57 : Lk 57 := Lk57
  refine ct_of (by decide) (Nat.le_of_ble_eq_true rfl) ?_
  intro p e R s m args below meth c
  refine x_aload_n dX4_tellMark_0 rfl ?_
  refine x_bipush (v := nI 23) dX4_tellMark_1 rfl ?_
  refine q_X4_23 (c_leave hT (by omega)) dX4_tellMark_3 rfl ?_
  rintro _ M0 ⟨rfl, hT0, hF0⟩
  have hA0 := hA.keep hF0
  refine x_aload_n dX4_tellMark_6 rfl ?_
  refine x_aload_n dX4_tellMark_7 rfl ?_
  refine q_X4_32 (c_gMark hT0 (by simp; omega) hA0) dX4_tellMark_8 rfl (ci := 4) rfl (by decide) rfl (by decide) ?_
  rintro _ M1 ⟨rfl, hT1, hF1⟩
  have hA1 := hA0.keep hF1
  refine x_istore_n dX4_tellMark_11 ?_
  refine x_iload_n dX4_tellMark_12 rfl ?_
  refine x_aload_n dX4_tellMark_13 rfl ?_
  refine x_aload_n dX4_tellMark_14 rfl ?_
  refine q_X4_35_X4 (c_fSize12 hT1 (by simp; omega) hA1) dX4_tellMark_15 rfl (by decide) rfl ?_
  rintro _ M2 ⟨rfl, hT2, hF2⟩
  have hA2 := hA1.keep hF2
  refine x_isub dX4_tellMark_18 ?_
  refine x_iret dX4_tellMark_19 ?_
  refine ⟨rfl, ?_, ((hF0.tr hF1).tr hF2)⟩
  have hz := hT2
  try simp only [List.append_assoc, List.singleton_append, List.cons_append, List.nil_append] at hz
  exact hz
set_option maxRecDepth 100000 in
set_option maxHeartbeats 4000000 in
theorem c_fMark13 {Ω : Om} {l : Launch} {M : Mem} {T : List Nat} {g w q : Nat} (hT : TrL M T) (hl : T.length + 5 ≤ 16) (hA : AkR M g w q) : Ct Ω l yX4_tellMark cX4_tellMark 3 5 (some .int) [.ref (Ω.2.2 13), .ref (Ω.2.2 6)] M (fun ro M' => ro = some (.int (nI g - (nI 2 * (nI w - nI 100)))) ∧ TrL M' (T ++ [23, 20, 14, 13, 10]) ∧ FrA M M') := by
  have hL49 : Lk 49 := Lk49
  have hL57 : Lk 57 := Lk57
  refine ct_of (by decide) (Nat.le_of_ble_eq_true rfl) ?_
  intro p e R s m args below meth c
  refine x_aload_n dX4_tellMark_0 rfl ?_
  refine x_bipush (v := nI 23) dX4_tellMark_1 rfl ?_
  refine q_X4_23 (c_leave hT (by omega)) dX4_tellMark_3 rfl ?_
  rintro _ M0 ⟨rfl, hT0, hF0⟩
  have hA0 := hA.keep hF0
  refine x_aload_n dX4_tellMark_6 rfl ?_
  refine x_aload_n dX4_tellMark_7 rfl ?_
  refine q_X4_32 (c_gMark hT0 (by simp; omega) hA0) dX4_tellMark_8 rfl (ci := 6) rfl (by decide) rfl (by decide) ?_
  rintro _ M1 ⟨rfl, hT1, hF1⟩
  have hA1 := hA0.keep hF1
  refine x_istore_n dX4_tellMark_11 ?_
  refine x_iload_n dX4_tellMark_12 rfl ?_
  refine x_aload_n dX4_tellMark_13 rfl ?_
  refine x_aload_n dX4_tellMark_14 rfl ?_
  refine q_X4_35_X6 (c_lSize hT1 (by simp; omega) hA1) dX4_tellMark_15 rfl (by decide) rfl ?_
  rintro _ M2 ⟨rfl, hT2, hF2⟩
  have hA2 := hA1.keep hF2
  refine x_isub dX4_tellMark_18 ?_
  refine x_iret dX4_tellMark_19 ?_
  refine ⟨rfl, ?_, ((hF0.tr hF1).tr hF2)⟩
  have hz := hT2
  try simp only [List.append_assoc, List.singleton_append, List.cons_append, List.nil_append] at hz
  exact hz
set_option maxRecDepth 100000 in
set_option maxHeartbeats 4000000 in
theorem c_ask {Ω : Om} {l : Launch} {M : Mem} {σ : Sg} (hC : IC M σ) (hW : SgW σ) {x w : Int32} : Ct Ω l yX11_ask cX11_ask 4 7 (some .int) [.ref (Ω.2.2 0), .int x, .int w] M (fun ro M' => ro = some (.int (R_ask σ x w).1) ∧ IC M' (R_ask σ x w).2 ∧ FrM M M') := by
  have hL49 : Lk 49 := Lk49
  have hL57 : Lk 57 := Lk57
  have hR := hC.lake
  have hLv : Lv σ.v := hW.2.2.1
  have hw := hLv.wv
  have hn := hw.nums
  have hL65 : Lk 65 := Lk65
  refine ct_of (by decide) (Nat.le_of_ble_eq_true rfl) ?_
  intro p e R s m args below meth c
  refine x_aload_n dX11_ask_0 rfl ?_
  refine x_iload_n dX11_ask_1 rfl ?_
  refine q_X11_180 (c_isGoer hR hw) dX11_ask_2 rfl ?_
  rintro _ _ ⟨rfl, rfl⟩
  refine z_if_eq 17 dX11_ask_5 (fun h_5 => ?_) (fun h_5 => ?_)
  · refine x_ldc dX11_ask_17 k_X11_81 ?_
    refine x_iret dX11_ask_19 ?_
    unfold R_ask
    rw [if_neg (by simp [*])]
    exact ⟨rfl, hC, FrM.rf⟩
  · refine x_iload_n dX11_ask_8 rfl ?_
    refine y_iconst (a := 0) dX11_ask_9 rfl ?_
    refine y_iconst (a := 1) dX11_ask_10 rfl ?_
    refine q_X11_77 (c_within (by omega) (by omega)) dX11_ask_11 rfl ?_
    rintro _ _ ⟨rfl, rfl⟩
    refine z_if_ne 20 dX11_ask_14 (fun h_14 => ?_) (fun h_14 => ?_)
    · obtain ⟨g, hg, rfl⟩ := inR_nI h_5 (by omega)
      obtain ⟨hI, h999⟩ := hLv.goer hg
      have tg := tN_nI (g := g) (by omega)
      have hgo := hw.goer hg
      obtain ⟨w0, hw0, hw1, rfl⟩ := inB_nI h_14 (by omega)
      refine x_aload_n dX11_ask_20 rfl ?_
      refine g_X11_58 dX11_ask_21 ?_
      refine x_iload_n dX11_ask_24 rfl ?_
      refine q_X11_326 (c_sortOf Lk49 hR hw hg) dX11_ask_25 rfl ?_
      rintro _ _ ⟨rfl, rfl⟩
      rcases (show σ.v (15 + g) = 1 ∨ σ.v (15 + g) = 2 ∨ σ.v (15 + g) = 3 ∨ σ.v (15 + g) = 4 ∨ σ.v (15 + g) = 5 by omega) with hk | hk | hk | hk | hk
      · rw [hk]
        refine x_astore_n dX11_ask_28 ?_
        refine x_aload_n dX11_ask_29 rfl ?_
        refine x_ifnonnull 36 dX11_ask_30 ?_
        refine x_aload_n dX11_ask_36 rfl ?_
        refine g_X11_34 dX11_ask_37 ?_
        refine x_aload_n dX11_ask_40 rfl ?_
        refine g_X11_58 dX11_ask_41 ?_
        refine x_iload_n dX11_ask_44 rfl ?_
        refine q_X11_334 (c_turnTo hR hw hg) dX11_ask_45 rfl ?_
        rintro _ M1 ⟨rfl, hT1, hA1, hF1⟩
        refine x_iload_n dX11_ask_48 rfl ?_
        refine y_if_ne 63 dX11_ask_49 (by omega) (fun h_49 => ?_) (fun h_49 => ?_)
        · refine x_aload_n dX11_ask_63 rfl ?_
          refine x_aload_n dX11_ask_64 rfl ?_
          refine g_X11_34 dX11_ask_65 ?_
          refine q_X11_341_X1 (c_cMark9 hT1 (by decide) hA1) dX11_ask_68 rfl (by decide) rfl ?_
          rintro _ M2 ⟨rfl, hT2, hF2⟩
          refine x_iret dX11_ask_71 ?_
          unfold R_ask
          rw [if_pos ⟨h_5, h_14⟩, tg]
          first
            | (obtain rfl : w0 = 0 := h_49
               have hz : askA σ.v g (nI 0) = szA 1 g (σ.v (21 + g)) (σ.v (33 + g)) := by unfold askA; rw [if_pos rfl, hk]
               rw [hz]
               exact ⟨rfl, hC.setTr ⟨hT2.1, fun j hj => hT2.2 j hj⟩ (fun d d1 d2 => by rw [hF2.1 d d1 d2]; exact hF1 d d1), fun d d1 d2 => by rw [hF2.1 d (by omega) (by omega)]; exact hF1 d (by omega)⟩)
            | (have hz : askA σ.v g (nI w0) = mkA 1 g (σ.v (21 + g)) (σ.v (33 + g)) := by unfold askA; rw [if_neg (fun z => h_49 ((nI_eq (by omega) (by omega)).mp z)), hk]
               rw [hz]
               exact ⟨rfl, hC.setTr ⟨hT2.1, fun j hj => hT2.2 j hj⟩ (fun d d1 d2 => by rw [hF2.1 d d1 d2]; exact hF1 d d1), fun d d1 d2 => by rw [hF2.1 d (by omega) (by omega)]; exact hF1 d (by omega)⟩)
        · refine x_aload_n dX11_ask_52 rfl ?_
          refine x_aload_n dX11_ask_53 rfl ?_
          refine g_X11_34 dX11_ask_54 ?_
          refine q_X11_337_X1 (c_cSize9 hT1 (by decide) hA1) dX11_ask_57 rfl (by decide) rfl ?_
          rintro _ M2 ⟨rfl, hT2, hF2⟩
          refine x_goto 71 dX11_ask_60 ?_
          refine x_iret dX11_ask_71 ?_
          unfold R_ask
          rw [if_pos ⟨h_5, h_14⟩, tg]
          first
            | (obtain rfl : w0 = 0 := h_49
               have hz : askA σ.v g (nI 0) = szA 1 g (σ.v (21 + g)) (σ.v (33 + g)) := by unfold askA; rw [if_pos rfl, hk]
               rw [hz]
               exact ⟨rfl, hC.setTr ⟨hT2.1, fun j hj => hT2.2 j hj⟩ (fun d d1 d2 => by rw [hF2.1 d d1 d2]; exact hF1 d d1), fun d d1 d2 => by rw [hF2.1 d (by omega) (by omega)]; exact hF1 d (by omega)⟩)
            | (have hz : askA σ.v g (nI w0) = mkA 1 g (σ.v (21 + g)) (σ.v (33 + g)) := by unfold askA; rw [if_neg (fun z => h_49 ((nI_eq (by omega) (by omega)).mp z)), hk]
               rw [hz]
               exact ⟨rfl, hC.setTr ⟨hT2.1, fun j hj => hT2.2 j hj⟩ (fun d d1 d2 => by rw [hF2.1 d d1 d2]; exact hF1 d d1), fun d d1 d2 => by rw [hF2.1 d (by omega) (by omega)]; exact hF1 d (by omega)⟩)
      · rw [hk]
        refine x_astore_n dX11_ask_28 ?_
        refine x_aload_n dX11_ask_29 rfl ?_
        refine x_ifnonnull 36 dX11_ask_30 ?_
        refine x_aload_n dX11_ask_36 rfl ?_
        refine g_X11_34 dX11_ask_37 ?_
        refine x_aload_n dX11_ask_40 rfl ?_
        refine g_X11_58 dX11_ask_41 ?_
        refine x_iload_n dX11_ask_44 rfl ?_
        refine q_X11_334 (c_turnTo hR hw hg) dX11_ask_45 rfl ?_
        rintro _ M1 ⟨rfl, hT1, hA1, hF1⟩
        refine x_iload_n dX11_ask_48 rfl ?_
        refine y_if_ne 63 dX11_ask_49 (by omega) (fun h_49 => ?_) (fun h_49 => ?_)
        · refine x_aload_n dX11_ask_63 rfl ?_
          refine x_aload_n dX11_ask_64 rfl ?_
          refine g_X11_34 dX11_ask_65 ?_
          refine q_X11_341_X3 (c_dMark hT1 (by decide) hA1) dX11_ask_68 rfl (by decide) rfl ?_
          rintro _ M2 ⟨rfl, hT2, hF2⟩
          refine x_iret dX11_ask_71 ?_
          unfold R_ask
          rw [if_pos ⟨h_5, h_14⟩, tg]
          first
            | (obtain rfl : w0 = 0 := h_49
               have hz : askA σ.v g (nI 0) = szA 2 g (σ.v (21 + g)) (σ.v (33 + g)) := by unfold askA; rw [if_pos rfl, hk]
               rw [hz]
               exact ⟨rfl, hC.setTr ⟨hT2.1, fun j hj => hT2.2 j hj⟩ (fun d d1 d2 => by rw [hF2.1 d d1 d2]; exact hF1 d d1), fun d d1 d2 => by rw [hF2.1 d (by omega) (by omega)]; exact hF1 d (by omega)⟩)
            | (have hz : askA σ.v g (nI w0) = mkA 2 g (σ.v (21 + g)) (σ.v (33 + g)) := by unfold askA; rw [if_neg (fun z => h_49 ((nI_eq (by omega) (by omega)).mp z)), hk]
               rw [hz]
               exact ⟨rfl, hC.setTr ⟨hT2.1, fun j hj => hT2.2 j hj⟩ (fun d d1 d2 => by rw [hF2.1 d d1 d2]; exact hF1 d d1), fun d d1 d2 => by rw [hF2.1 d (by omega) (by omega)]; exact hF1 d (by omega)⟩)
        · refine x_aload_n dX11_ask_52 rfl ?_
          refine x_aload_n dX11_ask_53 rfl ?_
          refine g_X11_34 dX11_ask_54 ?_
          refine q_X11_337_X3 (c_dSize hT1 (by decide) hA1) dX11_ask_57 rfl (by decide) rfl ?_
          rintro _ M2 ⟨rfl, hT2, hF2⟩
          refine x_goto 71 dX11_ask_60 ?_
          refine x_iret dX11_ask_71 ?_
          unfold R_ask
          rw [if_pos ⟨h_5, h_14⟩, tg]
          first
            | (obtain rfl : w0 = 0 := h_49
               have hz : askA σ.v g (nI 0) = szA 2 g (σ.v (21 + g)) (σ.v (33 + g)) := by unfold askA; rw [if_pos rfl, hk]
               rw [hz]
               exact ⟨rfl, hC.setTr ⟨hT2.1, fun j hj => hT2.2 j hj⟩ (fun d d1 d2 => by rw [hF2.1 d d1 d2]; exact hF1 d d1), fun d d1 d2 => by rw [hF2.1 d (by omega) (by omega)]; exact hF1 d (by omega)⟩)
            | (have hz : askA σ.v g (nI w0) = mkA 2 g (σ.v (21 + g)) (σ.v (33 + g)) := by unfold askA; rw [if_neg (fun z => h_49 ((nI_eq (by omega) (by omega)).mp z)), hk]
               rw [hz]
               exact ⟨rfl, hC.setTr ⟨hT2.1, fun j hj => hT2.2 j hj⟩ (fun d d1 d2 => by rw [hF2.1 d d1 d2]; exact hF1 d d1), fun d d1 d2 => by rw [hF2.1 d (by omega) (by omega)]; exact hF1 d (by omega)⟩)
      · rw [hk]
        refine x_astore_n dX11_ask_28 ?_
        refine x_aload_n dX11_ask_29 rfl ?_
        refine x_ifnonnull 36 dX11_ask_30 ?_
        refine x_aload_n dX11_ask_36 rfl ?_
        refine g_X11_34 dX11_ask_37 ?_
        refine x_aload_n dX11_ask_40 rfl ?_
        refine g_X11_58 dX11_ask_41 ?_
        refine x_iload_n dX11_ask_44 rfl ?_
        refine q_X11_334 (c_turnTo hR hw hg) dX11_ask_45 rfl ?_
        rintro _ M1 ⟨rfl, hT1, hA1, hF1⟩
        refine x_iload_n dX11_ask_48 rfl ?_
        refine y_if_ne 63 dX11_ask_49 (by omega) (fun h_49 => ?_) (fun h_49 => ?_)
        · refine x_aload_n dX11_ask_63 rfl ?_
          refine x_aload_n dX11_ask_64 rfl ?_
          refine g_X11_34 dX11_ask_65 ?_
          refine q_X11_341_X2 (c_kMark hT1 (by decide) hA1) dX11_ask_68 rfl (by decide) rfl ?_
          rintro _ M2 ⟨rfl, hT2, hF2⟩
          refine x_iret dX11_ask_71 ?_
          unfold R_ask
          rw [if_pos ⟨h_5, h_14⟩, tg]
          first
            | (obtain rfl : w0 = 0 := h_49
               have hz : askA σ.v g (nI 0) = szA 3 g (σ.v (21 + g)) (σ.v (33 + g)) := by unfold askA; rw [if_pos rfl, hk]
               rw [hz]
               exact ⟨rfl, hC.setTr ⟨hT2.1, fun j hj => hT2.2 j hj⟩ (fun d d1 d2 => by rw [hF2.1 d d1 d2]; exact hF1 d d1), fun d d1 d2 => by rw [hF2.1 d (by omega) (by omega)]; exact hF1 d (by omega)⟩)
            | (have hz : askA σ.v g (nI w0) = mkA 3 g (σ.v (21 + g)) (σ.v (33 + g)) := by unfold askA; rw [if_neg (fun z => h_49 ((nI_eq (by omega) (by omega)).mp z)), hk]
               rw [hz]
               exact ⟨rfl, hC.setTr ⟨hT2.1, fun j hj => hT2.2 j hj⟩ (fun d d1 d2 => by rw [hF2.1 d d1 d2]; exact hF1 d d1), fun d d1 d2 => by rw [hF2.1 d (by omega) (by omega)]; exact hF1 d (by omega)⟩)
        · refine x_aload_n dX11_ask_52 rfl ?_
          refine x_aload_n dX11_ask_53 rfl ?_
          refine g_X11_34 dX11_ask_54 ?_
          refine q_X11_337_X2 (c_cSize11 hT1 (by decide) hA1) dX11_ask_57 rfl (by decide) rfl ?_
          rintro _ M2 ⟨rfl, hT2, hF2⟩
          refine x_goto 71 dX11_ask_60 ?_
          refine x_iret dX11_ask_71 ?_
          unfold R_ask
          rw [if_pos ⟨h_5, h_14⟩, tg]
          first
            | (obtain rfl : w0 = 0 := h_49
               have hz : askA σ.v g (nI 0) = szA 3 g (σ.v (21 + g)) (σ.v (33 + g)) := by unfold askA; rw [if_pos rfl, hk]
               rw [hz]
               exact ⟨rfl, hC.setTr ⟨hT2.1, fun j hj => hT2.2 j hj⟩ (fun d d1 d2 => by rw [hF2.1 d d1 d2]; exact hF1 d d1), fun d d1 d2 => by rw [hF2.1 d (by omega) (by omega)]; exact hF1 d (by omega)⟩)
            | (have hz : askA σ.v g (nI w0) = mkA 3 g (σ.v (21 + g)) (σ.v (33 + g)) := by unfold askA; rw [if_neg (fun z => h_49 ((nI_eq (by omega) (by omega)).mp z)), hk]
               rw [hz]
               exact ⟨rfl, hC.setTr ⟨hT2.1, fun j hj => hT2.2 j hj⟩ (fun d d1 d2 => by rw [hF2.1 d d1 d2]; exact hF1 d d1), fun d d1 d2 => by rw [hF2.1 d (by omega) (by omega)]; exact hF1 d (by omega)⟩)
      · rw [hk]
        refine x_astore_n dX11_ask_28 ?_
        refine x_aload_n dX11_ask_29 rfl ?_
        refine x_ifnonnull 36 dX11_ask_30 ?_
        refine x_aload_n dX11_ask_36 rfl ?_
        refine g_X11_34 dX11_ask_37 ?_
        refine x_aload_n dX11_ask_40 rfl ?_
        refine g_X11_58 dX11_ask_41 ?_
        refine x_iload_n dX11_ask_44 rfl ?_
        refine q_X11_334 (c_turnTo hR hw hg) dX11_ask_45 rfl ?_
        rintro _ M1 ⟨rfl, hT1, hA1, hF1⟩
        refine x_iload_n dX11_ask_48 rfl ?_
        refine y_if_ne 63 dX11_ask_49 (by omega) (fun h_49 => ?_) (fun h_49 => ?_)
        · refine x_aload_n dX11_ask_63 rfl ?_
          refine x_aload_n dX11_ask_64 rfl ?_
          refine g_X11_34 dX11_ask_65 ?_
          refine q_X11_341_X4 (c_fMark12 hT1 (by decide) hA1) dX11_ask_68 rfl (by decide) rfl ?_
          rintro _ M2 ⟨rfl, hT2, hF2⟩
          refine x_iret dX11_ask_71 ?_
          unfold R_ask
          rw [if_pos ⟨h_5, h_14⟩, tg]
          first
            | (obtain rfl : w0 = 0 := h_49
               have hz : askA σ.v g (nI 0) = szA 4 g (σ.v (21 + g)) (σ.v (33 + g)) := by unfold askA; rw [if_pos rfl, hk]
               rw [hz]
               exact ⟨rfl, hC.setTr ⟨hT2.1, fun j hj => hT2.2 j hj⟩ (fun d d1 d2 => by rw [hF2.1 d d1 d2]; exact hF1 d d1), fun d d1 d2 => by rw [hF2.1 d (by omega) (by omega)]; exact hF1 d (by omega)⟩)
            | (have hz : askA σ.v g (nI w0) = mkA 4 g (σ.v (21 + g)) (σ.v (33 + g)) := by unfold askA; rw [if_neg (fun z => h_49 ((nI_eq (by omega) (by omega)).mp z)), hk]
               rw [hz]
               exact ⟨rfl, hC.setTr ⟨hT2.1, fun j hj => hT2.2 j hj⟩ (fun d d1 d2 => by rw [hF2.1 d d1 d2]; exact hF1 d d1), fun d d1 d2 => by rw [hF2.1 d (by omega) (by omega)]; exact hF1 d (by omega)⟩)
        · refine x_aload_n dX11_ask_52 rfl ?_
          refine x_aload_n dX11_ask_53 rfl ?_
          refine g_X11_34 dX11_ask_54 ?_
          refine q_X11_337_X4 (c_fSize12 hT1 (by decide) hA1) dX11_ask_57 rfl (by decide) rfl ?_
          rintro _ M2 ⟨rfl, hT2, hF2⟩
          refine x_goto 71 dX11_ask_60 ?_
          refine x_iret dX11_ask_71 ?_
          unfold R_ask
          rw [if_pos ⟨h_5, h_14⟩, tg]
          first
            | (obtain rfl : w0 = 0 := h_49
               have hz : askA σ.v g (nI 0) = szA 4 g (σ.v (21 + g)) (σ.v (33 + g)) := by unfold askA; rw [if_pos rfl, hk]
               rw [hz]
               exact ⟨rfl, hC.setTr ⟨hT2.1, fun j hj => hT2.2 j hj⟩ (fun d d1 d2 => by rw [hF2.1 d d1 d2]; exact hF1 d d1), fun d d1 d2 => by rw [hF2.1 d (by omega) (by omega)]; exact hF1 d (by omega)⟩)
            | (have hz : askA σ.v g (nI w0) = mkA 4 g (σ.v (21 + g)) (σ.v (33 + g)) := by unfold askA; rw [if_neg (fun z => h_49 ((nI_eq (by omega) (by omega)).mp z)), hk]
               rw [hz]
               exact ⟨rfl, hC.setTr ⟨hT2.1, fun j hj => hT2.2 j hj⟩ (fun d d1 d2 => by rw [hF2.1 d d1 d2]; exact hF1 d d1), fun d d1 d2 => by rw [hF2.1 d (by omega) (by omega)]; exact hF1 d (by omega)⟩)
      · rw [hk]
        refine x_astore_n dX11_ask_28 ?_
        refine x_aload_n dX11_ask_29 rfl ?_
        refine x_ifnonnull 36 dX11_ask_30 ?_
        refine x_aload_n dX11_ask_36 rfl ?_
        refine g_X11_34 dX11_ask_37 ?_
        refine x_aload_n dX11_ask_40 rfl ?_
        refine g_X11_58 dX11_ask_41 ?_
        refine x_iload_n dX11_ask_44 rfl ?_
        refine q_X11_334 (c_turnTo hR hw hg) dX11_ask_45 rfl ?_
        rintro _ M1 ⟨rfl, hT1, hA1, hF1⟩
        refine x_iload_n dX11_ask_48 rfl ?_
        refine y_if_ne 63 dX11_ask_49 (by omega) (fun h_49 => ?_) (fun h_49 => ?_)
        · refine x_aload_n dX11_ask_63 rfl ?_
          refine x_aload_n dX11_ask_64 rfl ?_
          refine g_X11_34 dX11_ask_65 ?_
          refine q_X11_341_X6 (c_fMark13 hT1 (by decide) hA1) dX11_ask_68 rfl (by decide) rfl ?_
          rintro _ M2 ⟨rfl, hT2, hF2⟩
          refine x_iret dX11_ask_71 ?_
          unfold R_ask
          rw [if_pos ⟨h_5, h_14⟩, tg]
          first
            | (obtain rfl : w0 = 0 := h_49
               have hz : askA σ.v g (nI 0) = szA 5 g (σ.v (21 + g)) (σ.v (33 + g)) := by unfold askA; rw [if_pos rfl, hk]
               rw [hz]
               exact ⟨rfl, hC.setTr ⟨hT2.1, fun j hj => hT2.2 j hj⟩ (fun d d1 d2 => by rw [hF2.1 d d1 d2]; exact hF1 d d1), fun d d1 d2 => by rw [hF2.1 d (by omega) (by omega)]; exact hF1 d (by omega)⟩)
            | (have hz : askA σ.v g (nI w0) = mkA 5 g (σ.v (21 + g)) (σ.v (33 + g)) := by unfold askA; rw [if_neg (fun z => h_49 ((nI_eq (by omega) (by omega)).mp z)), hk]
               rw [hz]
               exact ⟨rfl, hC.setTr ⟨hT2.1, fun j hj => hT2.2 j hj⟩ (fun d d1 d2 => by rw [hF2.1 d d1 d2]; exact hF1 d d1), fun d d1 d2 => by rw [hF2.1 d (by omega) (by omega)]; exact hF1 d (by omega)⟩)
        · refine x_aload_n dX11_ask_52 rfl ?_
          refine x_aload_n dX11_ask_53 rfl ?_
          refine g_X11_34 dX11_ask_54 ?_
          refine q_X11_337_X6 (c_lSize hT1 (by decide) hA1) dX11_ask_57 rfl (by decide) rfl ?_
          rintro _ M2 ⟨rfl, hT2, hF2⟩
          refine x_goto 71 dX11_ask_60 ?_
          refine x_iret dX11_ask_71 ?_
          unfold R_ask
          rw [if_pos ⟨h_5, h_14⟩, tg]
          first
            | (obtain rfl : w0 = 0 := h_49
               have hz : askA σ.v g (nI 0) = szA 5 g (σ.v (21 + g)) (σ.v (33 + g)) := by unfold askA; rw [if_pos rfl, hk]
               rw [hz]
               exact ⟨rfl, hC.setTr ⟨hT2.1, fun j hj => hT2.2 j hj⟩ (fun d d1 d2 => by rw [hF2.1 d d1 d2]; exact hF1 d d1), fun d d1 d2 => by rw [hF2.1 d (by omega) (by omega)]; exact hF1 d (by omega)⟩)
            | (have hz : askA σ.v g (nI w0) = mkA 5 g (σ.v (21 + g)) (σ.v (33 + g)) := by unfold askA; rw [if_neg (fun z => h_49 ((nI_eq (by omega) (by omega)).mp z)), hk]
               rw [hz]
               exact ⟨rfl, hC.setTr ⟨hT2.1, fun j hj => hT2.2 j hj⟩ (fun d d1 d2 => by rw [hF2.1 d d1 d2]; exact hF1 d d1), fun d d1 d2 => by rw [hF2.1 d (by omega) (by omega)]; exact hF1 d (by omega)⟩)
    · refine x_ldc dX11_ask_17 k_X11_81 ?_
      refine x_iret dX11_ask_19 ?_
      unfold R_ask
      rw [if_neg (by simp [*])]
      exact ⟨rfl, hC, FrM.rf⟩
