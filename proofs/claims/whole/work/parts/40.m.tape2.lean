/-! TAPE, further (laid by gen_tape2.py) -/
theorem TkR.err {M : Mem} {T : Tp} {a f : Nat} (h : TkR M T a) : ErR (up1 M 2 3 (nI f)) (f, a) := ⟨by rw [up1_at, if_pos ⟨rfl, rfl⟩], by rw [up1_at, if_neg (by omega)]; exact h.2.1⟩
theorem TkR.keep {M M' : Mem} {T : Tp} {a : Nat} (h : TkR M T a) (e2 : M'.1 2 = M.1 2) (e3 : M'.1 3 = M.1 3) : TkR M' T a := by
  unfold TkR TbR
  rw [e2, e3]
  exact h
theorem kdO_ne {t : Nat} (h : t < 99 ∨ 107 < t) : kdO t = 0 := by
  unfold kdO
  rw [if_neg (by omega), if_neg (by omega), if_neg (by omega), if_neg (by omega), if_neg (by omega)]
def F257 (M M' : Mem) : Prop := M'.2 = M.2 ∧ ∀ c, c ≠ 2 → ¬ (57 ≤ c ∧ c < 65) → M'.1 c = M.1 c
theorem F257.rf {M : Mem} : F257 M M := ⟨rfl, fun _ _ _ => rfl⟩
theorem F257.tr {M M1 M2 : Mem} (h : F257 M M1) (h2 : F257 M1 M2) : F257 M M2 := ⟨h2.1.trans h.1, fun c a b => (h2.2 c a b).trans (h.2 c a b)⟩
theorem F2.w {M M' : Mem} (h : F2 M M') : F257 M M' := ⟨h.1, fun c a _ => h.2 c a⟩
theorem Fr.w57 {M M' : Mem} (h : Fr 57 M M') : F257 M M' := ⟨h.1, fun c _ b => h.2 c (by omega)⟩
theorem LkN.same {M M' : Mem} {v : Nat → Nat} {n : Nat} (h : LkN M 57 v n) (e : ∀ k, k < 8 → M'.1 (57 + k) = M.1 (57 + k)) : LkN M' 57 v n := by
  have e0 := e 0 (by decide); have e2 := e 2 (by decide); have e3 := e 3 (by decide); have e4 := e 4 (by decide); have e5 := e 5 (by decide); have e6 := e 6 (by decide); have e7 := e 7 (by decide)
  rw [Nat.add_zero] at e0
  unfold LkN
  rw [e0, e2, e3, e4, e5, e6, e7]
  exact h
theorem LkN.full {M : Mem} {v : Nat → Nat} (h : LkN M 57 v (v 0)) : LkR M 57 v := h
theorem LkN.set {M : Mem} {v : Nat → Nat} {i x : Nat} (h : LkN M 57 v i) (hi : i < v 0) (h9 : v 0 ≤ 9) (h2 : v 2 = 0) : LkN (up1 M 59 (i + 1) (nI x)) 57 (sv v (6 + i) x) (i + 1) := by
  obtain ⟨a0, a1, a2, a3, a4, a5, a6, a7⟩ := h
  have e : ∀ j, j < 6 → sv v (6 + i) x j = v j := fun j hj => sv_ne _ _ (by omega)
  unfold LkN
  rw [e 0 (by omega), e 1 (by omega), e 2 (by omega), e 3 (by omega), e 4 (by omega), e 5 (by omega)]
  rw [up1_ne _ _ _ (show 57 ≠ 59 by decide)]
  refine ⟨a0, a1, a2, a3, a4, a5, fun q q1 q2 => ?_, fun g hg => by omega⟩
  rw [up1_at]
  by_cases e1 : q = i + 1
  · rw [if_pos ⟨rfl, e1⟩, e1, show 5 + (i + 1) = 6 + i by omega, sv_eq]
  · rw [if_neg (by omega), sv_ne _ _ (by omega)]
    exact a6 q q1 (by omega)
section
variable {T : Tp} {f i a b : Nat} {v : Nat → Nat} {e : Nat × Nat} {q t : Nat × Nat}
theorem pRun_r1 (hi : i < v 0) (h : pPass T 114 a = .inl e) : pRun T (f + 1) i a v = .inl e := by
  unfold pRun; rw [if_pos hi, h]
theorem pRun_r2 (hi : i < v 0) (h : pPass T 114 a = .inr b) (h2 : pNum T 0 99 59 b = .inl e) : pRun T (f + 1) i a v = .inl e := by
  unfold pRun; rw [if_pos hi, h]; simp only; rw [h2]
theorem pRun_r3 (hi : i < v 0) (h : pPass T 114 a = .inr b) (h2 : pNum T 0 99 59 b = .inr q) : pRun T (f + 1) i a v = pRun T f (i + 1) q.2 (sv v (6 + i) q.1) := by
  conv => lhs; unfold pRun
  rw [if_pos hi, h]; simp only; rw [h2]
theorem pRun_g0 (hi : ¬ i < v 0) (h : v 2 = 0 ∧ tcd T a = 114) : pRun T (f + 1) i a v = .inl (3, a) := by
  unfold pRun; rw [if_neg hi, if_pos h]
theorem pRun_gE (hi : ¬ i < v 0) (h : 0 < v 2 ∧ tcd T a = 256) : pRun T (f + 1) i a v = .inr v := by
  unfold pRun; rw [if_neg hi, if_neg (by omega), if_pos h]
theorem pRun_g1 (hi : ¬ i < v 0) (h : ¬ (v 2 = 0 ∧ tcd T a = 114)) (h2 : ¬ (0 < v 2 ∧ tcd T a = 256)) (h3 : kdO (tcd T a) = 0) : pRun T (f + 1) i a v = .inl (1, a) := by
  unfold pRun; rw [if_neg hi, if_neg h, if_neg h2, if_pos h3]
theorem kdO_r {c : Nat} (h : ¬ kdO c = 0) : c ≠ 114 ∧ c ≠ 256 := by
  constructor
  · intro z; rw [z] at h; exact h rfl
  · intro z; rw [z] at h; exact h rfl
theorem pRun_g6 (hi : ¬ i < v 0) (h3 : ¬ kdO (tcd T a) = 0) (h6 : v 2 = 6) : pRun T (f + 1) i a v = .inl (3, a) := by
  have := kdO_r h3
  unfold pRun; rw [if_neg hi, if_neg (by omega), if_neg (by omega), if_neg h3, if_pos h6]
theorem pRun_n1 (hi : ¬ i < v 0) (h3 : ¬ kdO (tcd T a) = 0) (h6 : ¬ v 2 = 6) (h : pNum T 1 30 44 (nx T a) = .inl e) : pRun T (f + 1) i a v = .inl e := by
  have := kdO_r h3
  unfold pRun; rw [if_neg hi, if_neg (by omega), if_neg (by omega), if_neg h3, if_neg h6, h]
theorem pRun_n2 (hi : ¬ i < v 0) (h3 : ¬ kdO (tcd T a) = 0) (h6 : ¬ v 2 = 6) (h : pNum T 1 30 44 (nx T a) = .inr q) (h2 : pNum T 0 30 59 q.2 = .inl e) : pRun T (f + 1) i a v = .inl e := by
  have := kdO_r h3
  unfold pRun; rw [if_neg hi, if_neg (by omega), if_neg (by omega), if_neg h3, if_neg h6, h]; simp only; rw [h2]
theorem pRun_n3 (hi : ¬ i < v 0) (h3 : ¬ kdO (tcd T a) = 0) (h6 : ¬ v 2 = 6) (h : pNum T 1 30 44 (nx T a) = .inr q) (h2 : pNum T 0 30 59 q.2 = .inr t) : pRun T (f + 1) i a v = pRun T f i t.2 (agV v (kdO (tcd T a)) q.1 t.1) := by
  have := kdO_r h3
  conv => lhs; unfold pRun
  rw [if_neg hi, if_neg (by omega), if_neg (by omega), if_neg h3, if_neg h6, h]; simp only; rw [h2]
theorem pNum_le2 {lo hi sg : Nat} (h : pNum T lo hi sg a = .inr q) : lo ≤ q.1 ∧ q.1 ≤ hi := pNum_le (x := q.1) (b := q.2) h
end
theorem inB_n {x a b : Nat} (h : x < 2 ^ 31) : inB (nI x) a b = decide (a ≤ x ∧ x ≤ b) := by
  unfold inB
  rw [nI_toInt h]
  exact decide_eq_decide.mpr (by omega)

set_option maxRecDepth 100000 in
set_option maxHeartbeats 4000000 in
theorem c_kindOf {Ω : Om} {l : Launch} {M : Mem} {t : Nat} (ht : t < 259) : Ct Ω l yX10_kindOf cX10_kindOf 1 1 (some .int) [.int (tokI t)] M (fun ro M' => ro = some (.int (nI (kdO t))) ∧ M = M') := by
  have hL49 : Lk 49 := Lk49
  have hL57 : Lk 57 := Lk57
  refine ct_of (by decide) (Nat.le_of_ble_eq_true rfl) ?_
  intro p e R s m args below meth c
  refine x_iload_n dX10_kindOf_0 rfl ?_
  rcases (show t = 99 ∨ t = 100 ∨ t = 101 ∨ t = 102 ∨ t = 103 ∨ t = 104 ∨ t = 105 ∨ t = 106 ∨ t = 107 ∨ (t < 99 ∨ 107 < t) by omega) with rfl | rfl | rfl | rfl | rfl | rfl | rfl | rfl | rfl | ho
  · refine x_tableIn 52 dX10_kindOf_1 (by decide) (by decide) rfl ?_
    refine y_iconst (a := 1) dX10_kindOf_52 rfl ?_
    refine x_iret dX10_kindOf_53 ?_
    exact ⟨rfl, rfl⟩
  · refine x_tableIn 54 dX10_kindOf_1 (by decide) (by decide) rfl ?_
    refine y_iconst (a := 2) dX10_kindOf_54 rfl ?_
    refine x_iret dX10_kindOf_55 ?_
    exact ⟨rfl, rfl⟩
  · refine x_tableIn 62 dX10_kindOf_1 (by decide) (by decide) rfl ?_
    refine y_iconst (a := 0) dX10_kindOf_62 rfl ?_
    refine x_iret dX10_kindOf_63 ?_
    exact ⟨rfl, rfl⟩
  · refine x_tableIn 58 dX10_kindOf_1 (by decide) (by decide) rfl ?_
    refine y_iconst (a := 4) dX10_kindOf_58 rfl ?_
    refine x_iret dX10_kindOf_59 ?_
    exact ⟨rfl, rfl⟩
  · refine x_tableIn 60 dX10_kindOf_1 (by decide) (by decide) rfl ?_
    refine y_iconst (a := 5) dX10_kindOf_60 rfl ?_
    refine x_iret dX10_kindOf_61 ?_
    exact ⟨rfl, rfl⟩
  · refine x_tableIn 62 dX10_kindOf_1 (by decide) (by decide) rfl ?_
    refine y_iconst (a := 0) dX10_kindOf_62 rfl ?_
    refine x_iret dX10_kindOf_63 ?_
    exact ⟨rfl, rfl⟩
  · refine x_tableIn 62 dX10_kindOf_1 (by decide) (by decide) rfl ?_
    refine y_iconst (a := 0) dX10_kindOf_62 rfl ?_
    refine x_iret dX10_kindOf_63 ?_
    exact ⟨rfl, rfl⟩
  · refine x_tableIn 62 dX10_kindOf_1 (by decide) (by decide) rfl ?_
    refine y_iconst (a := 0) dX10_kindOf_62 rfl ?_
    refine x_iret dX10_kindOf_63 ?_
    exact ⟨rfl, rfl⟩
  · refine x_tableIn 56 dX10_kindOf_1 (by decide) (by decide) rfl ?_
    refine y_iconst (a := 3) dX10_kindOf_56 rfl ?_
    refine x_iret dX10_kindOf_57 ?_
    exact ⟨rfl, rfl⟩
  · refine x_tableOut 62 dX10_kindOf_1 (by rw [tokI_toInt ht]; unfold tkZ; split; (left; omega); split; (left; omega); split; (left; omega); omega) ?_
    refine y_iconst (a := 0) dX10_kindOf_62 rfl ?_
    refine x_iret dX10_kindOf_63 ?_
    exact ⟨by rw [kdO_ne ho], rfl⟩
set_option maxRecDepth 100000 in
set_option maxHeartbeats 4000000 in
theorem c_pass {Ω : Om} {l : Launch} {M : Mem} {T : Tp} (hT : TW T) {a : Nat} (hK : TkR M T a) {c0 : Nat} (hc : c0 < 256) : Ct Ω l yX10_pass cX10_pass 2 4 (some .boolean) [.ref (Ω.2.2 2), .int (nI c0)] M (fun ro M' => F2 M M' ∧ (match pPass T c0 a with
  | .inl e => ro = some (.int (bI false)) ∧ ErR M' e
  | .inr q => ro = some (.int (bI true)) ∧ TkR M' T q)) := by
  have hL49 : Lk 49 := Lk49
  have hL57 : Lk 57 := Lk57
  have htc := tcd_lt hT a
  have hT1 := hT.1
  refine ct_of (by decide) (Nat.le_of_ble_eq_true rfl) ?_
  intro p e R s m args below meth c
  refine x_aload_n dX10_pass_0 rfl ?_
  refine g_X10_58 dX10_pass_1 ?_
  rw [hK.2.2.1]
  refine x_iload_n dX10_pass_4 rfl ?_
  refine x_icmp_eq 14 dX10_pass_5 (fun h_5 => ?_) (fun h_5 => ?_)
  · refine x_aload_n dX10_pass_14 rfl ?_
    refine q_X10_25 (c_next hT hK.1 hK.2.1 hK.2.2.2.1 (tln_le T hK.2.2.2.2.2)) dX10_pass_15 rfl ?_
    rintro _ M1 ⟨rfl, hK1, hF1⟩
    replace hK1 : TkR M1 T (nx T a) := hK1
    refine y_iconst (a := 1) dX10_pass_18 rfl ?_
    first | refine z_iret dX10_pass_19 ?_ | refine z_iret0 dX10_pass_19 ?_ | refine z_iret1 dX10_pass_19 ?_
    first
      | (have hz : pPass T c0 a = .inr (nx T a) := by unfold pPass; rw [if_pos ((tok_c htc hc).mp h_5)]
         rw [hz]
         exact ⟨hF1, rfl, hK1⟩)
      | (have hz : pPass T c0 a = .inl (1, a) := by unfold pPass; rw [if_neg (fun z => h_5 ((tok_c htc hc).mpr z))]
         rw [hz]
         exact ⟨F2.rf.up, rfl, hK.err⟩)
  · refine x_aload_n dX10_pass_8 rfl ?_
    refine y_iconst (a := 1) dX10_pass_9 rfl ?_
    refine q_X10_61 (c_blame) dX10_pass_10 rfl ?_
    rintro _ _ ⟨rfl, rfl⟩
    first | refine z_iret dX10_pass_13 ?_ | refine z_iret0 dX10_pass_13 ?_ | refine z_iret1 dX10_pass_13 ?_
    first
      | (have hz : pPass T c0 a = .inr (nx T a) := by unfold pPass; rw [if_pos ((tok_c htc hc).mp h_5)]
         rw [hz]
         exact ⟨hF1, rfl, hK1⟩)
      | (have hz : pPass T c0 a = .inl (1, a) := by unfold pPass; rw [if_neg (fun z => h_5 ((tok_c htc hc).mpr z))]
         rw [hz]
         exact ⟨F2.rf.up, rfl, hK.err⟩)
set_option maxRecDepth 100000 in
set_option maxHeartbeats 4000000 in
theorem c_numberThen {Ω : Om} {l : Launch} {M : Mem} {T : Tp} (hT : TW T) {a : Nat} (hK : TkR M T a) {lo hi sg : Nat} (hlo : lo < 2 ^ 31) (hhi : hi < 2 ^ 31) (hsg : sg < 256) : Ct Ω l yX10_numberThen cX10_numberThen 5 5 (some .int) [.ref (Ω.2.2 2), .int (nI lo), .int (nI hi), .int (nI sg)] M (fun ro M' => F2 M M' ∧ (match pNum T lo hi sg a with
  | .inl e => ro = some (.int (-1)) ∧ ErR M' e
  | .inr q => ro = some (.int (nI q.1)) ∧ TkR M' T q.2)) := by
  have hL49 : Lk 49 := Lk49
  have hL57 : Lk 57 := Lk57
  have htc := tcd_lt hT a
  have hT1 := hT.1
  refine ct_of (by decide) (Nat.le_of_ble_eq_true rfl) ?_
  intro p e R s m args below meth c
  refine x_aload_n dX10_numberThen_0 rfl ?_
  refine g_X10_58 dX10_numberThen_1 ?_
  rw [hK.2.2.1]
  refine x_bipush (v := (-2)) dX10_numberThen_4 rfl ?_
  refine x_icmp_eq 17 dX10_numberThen_6 (fun h_6 => ?_) (fun h_6 => ?_)
  · have h7 : tcd T a = 257 := (tok_m2 htc).mp h_6
    have hv9 := tvl_le h7 hT
    refine x_aload_n dX10_numberThen_17 rfl ?_
    refine g_X10_73 dX10_numberThen_18 ?_
    rw [hK.2.2.2.2.1 h7]
    refine x_iload_n dX10_numberThen_21 rfl ?_
    refine x_iload_n dX10_numberThen_22 rfl ?_
    refine q_X10_76 (c_within hlo hhi) dX10_numberThen_23 rfl ?_
    rintro _ _ ⟨rfl, rfl⟩
    rw [inB_n (by omega)]
    refine z_if_ne 37 dX10_numberThen_26 (fun h_26 => ?_) (fun h_26 => ?_)
    · refine x_aload_n dX10_numberThen_37 rfl ?_
      refine g_X10_73 dX10_numberThen_38 ?_
      rw [hK.2.2.2.2.1 h7]
      refine x_istore dX10_numberThen_41 ?_
      refine x_aload_n dX10_numberThen_43 rfl ?_
      refine q_X10_25 (c_next hT hK.1 hK.2.1 hK.2.2.2.1 (tln_le T hK.2.2.2.2.2)) dX10_numberThen_44 rfl ?_
      rintro _ M1 ⟨rfl, hK1, hF1⟩
      replace hK1 : TkR M1 T (nx T a) := hK1
      rcases hps : pPass T sg (nx T a) with e1 | b1
      · refine x_aload_n dX10_numberThen_47 rfl ?_
        refine x_iload_n dX10_numberThen_48 rfl ?_
        refine q_X10_38 (c_pass hT hK1 hsg) dX10_numberThen_49 rfl ?_
        intro ro M2 hp
        obtain ⟨hF2, hp⟩ := hp
        rw [hps] at hp
        obtain ⟨rfl, hE2⟩ := hp
        refine z_if_eq 60 dX10_numberThen_52 (fun h_52 => ?_) (fun h_52 => ?_)
        · refine x_iconst (v := -1) dX10_numberThen_60 rfl ?_
          refine x_iret dX10_numberThen_61 ?_
          first
            | (have hz : pNum T lo hi sg a = .inr (tvl T a, b1) := by unfold pNum; rw [if_pos h7, if_pos (by simpa using h_26), hps]
               rw [hz]
               exact ⟨hF1.tr hF2, rfl, hK2⟩)
            | (have hz : pNum T lo hi sg a = .inl e1 := by unfold pNum; rw [if_pos h7, if_pos (by simpa using h_26), hps]
               rw [hz]
               exact ⟨hF1.tr hF2, rfl, hE2⟩)
            | (have hz : pNum T lo hi sg a = .inl (2, a) := by unfold pNum; rw [if_pos h7, if_neg (by simpa using h_26)]
               rw [hz]
               exact ⟨F2.rf.up, rfl, hK.err⟩)
            | (have hz : pNum T lo hi sg a = .inl (1, a) := by unfold pNum; rw [if_neg (fun z => h_6 ((tok_m2 htc).mpr z))]
               rw [hz]
               exact ⟨F2.rf.up, rfl, hK.err⟩)
        · cases h_52
      · refine x_aload_n dX10_numberThen_47 rfl ?_
        refine x_iload_n dX10_numberThen_48 rfl ?_
        refine q_X10_38 (c_pass hT hK1 hsg) dX10_numberThen_49 rfl ?_
        intro ro M2 hp
        obtain ⟨hF2, hp⟩ := hp
        rw [hps] at hp
        obtain ⟨rfl, hK2⟩ := hp
        refine z_if_eq 60 dX10_numberThen_52 (fun h_52 => ?_) (fun h_52 => ?_)
        · cases h_52
        · refine x_iload dX10_numberThen_55 rfl ?_
          refine x_goto 61 dX10_numberThen_57 ?_
          refine x_iret dX10_numberThen_61 ?_
          first
            | (have hz : pNum T lo hi sg a = .inr (tvl T a, b1) := by unfold pNum; rw [if_pos h7, if_pos (by simpa using h_26), hps]
               rw [hz]
               exact ⟨hF1.tr hF2, rfl, hK2⟩)
            | (have hz : pNum T lo hi sg a = .inl e1 := by unfold pNum; rw [if_pos h7, if_pos (by simpa using h_26), hps]
               rw [hz]
               exact ⟨hF1.tr hF2, rfl, hE2⟩)
            | (have hz : pNum T lo hi sg a = .inl (2, a) := by unfold pNum; rw [if_pos h7, if_neg (by simpa using h_26)]
               rw [hz]
               exact ⟨F2.rf.up, rfl, hK.err⟩)
            | (have hz : pNum T lo hi sg a = .inl (1, a) := by unfold pNum; rw [if_neg (fun z => h_6 ((tok_m2 htc).mpr z))]
               rw [hz]
               exact ⟨F2.rf.up, rfl, hK.err⟩)
    · refine x_aload_n dX10_numberThen_29 rfl ?_
      refine y_iconst (a := 2) dX10_numberThen_30 rfl ?_
      refine q_X10_61 (c_blame) dX10_numberThen_31 rfl ?_
      rintro _ _ ⟨rfl, rfl⟩
      refine x_pop dX10_numberThen_34 rfl ?_
      refine x_iconst (v := -1) dX10_numberThen_35 rfl ?_
      refine x_iret dX10_numberThen_36 ?_
      first
        | (have hz : pNum T lo hi sg a = .inr (tvl T a, b1) := by unfold pNum; rw [if_pos h7, if_pos (by simpa using h_26), hps]
           rw [hz]
           exact ⟨hF1.tr hF2, rfl, hK2⟩)
        | (have hz : pNum T lo hi sg a = .inl e1 := by unfold pNum; rw [if_pos h7, if_pos (by simpa using h_26), hps]
           rw [hz]
           exact ⟨hF1.tr hF2, rfl, hE2⟩)
        | (have hz : pNum T lo hi sg a = .inl (2, a) := by unfold pNum; rw [if_pos h7, if_neg (by simpa using h_26)]
           rw [hz]
           exact ⟨F2.rf.up, rfl, hK.err⟩)
        | (have hz : pNum T lo hi sg a = .inl (1, a) := by unfold pNum; rw [if_neg (fun z => h_6 ((tok_m2 htc).mpr z))]
           rw [hz]
           exact ⟨F2.rf.up, rfl, hK.err⟩)
  · refine x_aload_n dX10_numberThen_9 rfl ?_
    refine y_iconst (a := 1) dX10_numberThen_10 rfl ?_
    refine q_X10_61 (c_blame) dX10_numberThen_11 rfl ?_
    rintro _ _ ⟨rfl, rfl⟩
    refine x_pop dX10_numberThen_14 rfl ?_
    refine x_iconst (v := -1) dX10_numberThen_15 rfl ?_
    refine x_iret dX10_numberThen_16 ?_
    first
      | (have hz : pNum T lo hi sg a = .inr (tvl T a, b1) := by unfold pNum; rw [if_pos h7, if_pos (by simpa using h_26), hps]
         rw [hz]
         exact ⟨hF1.tr hF2, rfl, hK2⟩)
      | (have hz : pNum T lo hi sg a = .inl e1 := by unfold pNum; rw [if_pos h7, if_pos (by simpa using h_26), hps]
         rw [hz]
         exact ⟨hF1.tr hF2, rfl, hE2⟩)
      | (have hz : pNum T lo hi sg a = .inl (2, a) := by unfold pNum; rw [if_pos h7, if_neg (by simpa using h_26)]
         rw [hz]
         exact ⟨F2.rf.up, rfl, hK.err⟩)
      | (have hz : pNum T lo hi sg a = .inl (1, a) := by unfold pNum; rw [if_neg (fun z => h_6 ((tok_m2 htc).mpr z))]
         rw [hz]
         exact ⟨F2.rf.up, rfl, hK.err⟩)
set_option maxRecDepth 100000 in
set_option maxHeartbeats 4000000 in
theorem c_readLaw {Ω : Om} {l : Launch} {M : Mem} {T : Tp} (hT : TW T) (hK : TkR M T 0) : Ct Ω l yX10_readLaw cX10_readLaw 4 6 (some .boolean) [.ref (Ω.2.2 2), .ref (Ω.2.2 57)] M (fun ro M' => F257 M M' ∧ (match pLaw T with
  | .inl e => ro = some (.int (bI false)) ∧ ErR M' e
  | .inr q => ro = some (.int (bI true)) ∧ TkR M' T q.2.2 ∧ LkN M' 57 (hgV q.1 q.2.1) 0)) := by
  have hL49 : Lk 49 := Lk49
  have hL57 : Lk 57 := Lk57
  refine ct_of (by decide) (Nat.le_of_ble_eq_true rfl) ?_
  intro p e R s m args below meth c
  rcases hn1 : pPass T 108 0 with e1 | b1
  · refine x_aload_n dX10_readLaw_0 rfl ?_
    refine x_bipush (v := nI 108) dX10_readLaw_1 rfl ?_
    refine q_X10_38 (c_pass hT hK (c0 := 108) (by decide)) dX10_readLaw_3 rfl ?_
    intro ro M1 hp
    obtain ⟨hF1, hp⟩ := hp
    rw [hn1] at hp
    obtain ⟨rfl, hE1⟩ := hp
    refine z_if_ne 11 dX10_readLaw_6 (fun h_6 => ?_) (fun h_6 => ?_)
    · cases h_6
    · refine y_iconst (a := 0) dX10_readLaw_9 rfl ?_
      first | refine z_iret dX10_readLaw_10 ?_ | refine z_iret0 dX10_readLaw_10 ?_ | refine z_iret1 dX10_readLaw_10 ?_
      have hz : pLaw T = .inl e1 := by unfold pLaw; rw [hn1]
      rw [hz]
      exact ⟨(hF1).w, rfl, hE1⟩
  · refine x_aload_n dX10_readLaw_0 rfl ?_
    refine x_bipush (v := nI 108) dX10_readLaw_1 rfl ?_
    refine q_X10_38 (c_pass hT hK (c0 := 108) (by decide)) dX10_readLaw_3 rfl ?_
    intro ro M1 hp
    obtain ⟨hF1, hp⟩ := hp
    rw [hn1] at hp
    obtain ⟨rfl, hK1⟩ := hp
    refine z_if_ne 11 dX10_readLaw_6 (fun h_6 => ?_) (fun h_6 => ?_)
    · rcases hn2 : pNum T 2 9 44 b1 with e2 | b2
      · refine x_aload_n dX10_readLaw_11 rfl ?_
        refine y_iconst (a := 2) dX10_readLaw_12 rfl ?_
        refine x_bipush (v := nI 9) dX10_readLaw_13 rfl ?_
        refine x_bipush (v := nI 44) dX10_readLaw_15 rfl ?_
        refine q_X10_42 (c_numberThen hT hK1 (lo := 2) (hi := 9) (sg := 44) (by decide) (by decide) (by decide)) dX10_readLaw_17 rfl ?_
        intro ro M2 hp
        obtain ⟨hF2, hp⟩ := hp
        rw [hn2] at hp
        obtain ⟨rfl, hE2⟩ := hp
        refine x_istore_n dX10_readLaw_20 ?_
        refine x_iload_n dX10_readLaw_21 rfl ?_
        refine x_if_ge 27 dX10_readLaw_22 (fun z => absurd z (by decide)) (fun _ => ?_)
        refine y_iconst (a := 0) dX10_readLaw_25 rfl ?_
        first | refine z_iret dX10_readLaw_26 ?_ | refine z_iret0 dX10_readLaw_26 ?_ | refine z_iret1 dX10_readLaw_26 ?_
        have hz : pLaw T = .inl e2 := by unfold pLaw; rw [hn1]; simp only; rw [hn2]
        rw [hz]
        exact ⟨(hF1.tr hF2).w, rfl, hE2⟩
      · refine x_aload_n dX10_readLaw_11 rfl ?_
        refine y_iconst (a := 2) dX10_readLaw_12 rfl ?_
        refine x_bipush (v := nI 9) dX10_readLaw_13 rfl ?_
        refine x_bipush (v := nI 44) dX10_readLaw_15 rfl ?_
        refine q_X10_42 (c_numberThen hT hK1 (lo := 2) (hi := 9) (sg := 44) (by decide) (by decide) (by decide)) dX10_readLaw_17 rfl ?_
        intro ro M2 hp
        obtain ⟨hF2, hp⟩ := hp
        rw [hn2] at hp
        obtain ⟨rfl, hK2⟩ := hp
        have hle2 := pNum_le2 hn2
        refine x_istore_n dX10_readLaw_20 ?_
        refine x_iload_n dX10_readLaw_21 rfl ?_
        refine y_if_ge 27 dX10_readLaw_22 (by omega) ?_
        rcases hn3 : pNum T 1 99 59 b2.2 with e3 | b3
        · refine x_aload_n dX10_readLaw_27 rfl ?_
          refine y_iconst (a := 1) dX10_readLaw_28 rfl ?_
          refine x_bipush (v := nI 99) dX10_readLaw_29 rfl ?_
          refine x_bipush (v := nI 59) dX10_readLaw_31 rfl ?_
          refine q_X10_42 (c_numberThen hT hK2 (lo := 1) (hi := 99) (sg := 59) (by decide) (by decide) (by decide)) dX10_readLaw_33 rfl ?_
          intro ro M3 hp
          obtain ⟨hF3, hp⟩ := hp
          rw [hn3] at hp
          obtain ⟨rfl, hE3⟩ := hp
          refine x_istore_n dX10_readLaw_36 ?_
          refine x_iload_n dX10_readLaw_37 rfl ?_
          refine x_if_ge 43 dX10_readLaw_38 (fun z => absurd z (by decide)) (fun _ => ?_)
          refine y_iconst (a := 0) dX10_readLaw_41 rfl ?_
          first | refine z_iret dX10_readLaw_42 ?_ | refine z_iret0 dX10_readLaw_42 ?_ | refine z_iret1 dX10_readLaw_42 ?_
          have hz : pLaw T = .inl e3 := by unfold pLaw; rw [hn1]; simp only; rw [hn2]; simp only; rw [hn3]
          rw [hz]
          exact ⟨((hF1.tr hF2).tr hF3).w, rfl, hE3⟩
        · refine x_aload_n dX10_readLaw_27 rfl ?_
          refine y_iconst (a := 1) dX10_readLaw_28 rfl ?_
          refine x_bipush (v := nI 99) dX10_readLaw_29 rfl ?_
          refine x_bipush (v := nI 59) dX10_readLaw_31 rfl ?_
          refine q_X10_42 (c_numberThen hT hK2 (lo := 1) (hi := 99) (sg := 59) (by decide) (by decide) (by decide)) dX10_readLaw_33 rfl ?_
          intro ro M3 hp
          obtain ⟨hF3, hp⟩ := hp
          rw [hn3] at hp
          obtain ⟨rfl, hK3⟩ := hp
          have hle3 := pNum_le2 hn3
          refine x_istore_n dX10_readLaw_36 ?_
          refine x_iload_n dX10_readLaw_37 rfl ?_
          refine y_if_ge 43 dX10_readLaw_38 (by omega) ?_
          refine x_aload_n dX10_readLaw_43 rfl ?_
          refine x_iload_n dX10_readLaw_44 rfl ?_
          refine x_iload_n dX10_readLaw_45 rfl ?_
          refine q_X10_46 (c_hang Lk57) dX10_readLaw_46 rfl ?_
          rintro _ M4 ⟨rfl, hN4, hF4⟩
          refine y_iconst (a := 1) dX10_readLaw_49 rfl ?_
          first | refine z_iret dX10_readLaw_50 ?_ | refine z_iret0 dX10_readLaw_50 ?_ | refine z_iret1 dX10_readLaw_50 ?_
          have hz : pLaw T = .inr (b2.1, b3.1, b3.2) := by unfold pLaw; rw [hn1]; simp only; rw [hn2]; simp only; rw [hn3]
          rw [hz]
          exact ⟨((hF1.tr hF2).tr hF3).w.tr hF4.w57, rfl, hK3.keep (hF4.2 2 (by omega)) (hF4.2 3 (by omega)), hN4⟩
    · cases h_6
set_option maxRecDepth 100000 in
set_option maxHeartbeats 4000000 in
theorem c_readRungs {Ω : Om} {l : Launch} {M : Mem} {T : Tp} (hT : TW T) {a f : Nat} {v : Nat → Nat} {Rz : (Nat × Nat) ⊕ (Nat → Nat)} (hTl : Tl v 0) (hv2 : v 2 = 0) (hf : v 0 + 7 ≤ f) (hN : LkN M 57 v 0) (hK : TkR M T a) (hRz : pRun T f 0 a v = Rz) : Ct Ω l yX10_readRungs cX10_readRungs 4 6 (some .boolean) [.ref (Ω.2.2 2), .ref (Ω.2.2 57)] M (fun ro M' => F257 M M' ∧ ((ro = some (.int (bI false)) ∧ ∃ e, Rz = .inl e ∧ ErR M' e) ∨ (ro = some (.int (bI true)) ∧ ∃ (f2 a2 : Nat) (w : Nat → Nat), 7 ≤ f2 ∧ pRun T f2 (w 0) a2 w = Rz ∧ Tl w (w 0) ∧ w 2 = 0 ∧ LkR M' 57 w ∧ TkR M' T a2 ∧ ¬ tcd T a2 = 114))) := by
  have hL49 : Lk 49 := Lk49
  have hL57 : Lk 57 := Lk57
  refine ct_of (by decide) (Nat.le_of_ble_eq_true rfl) ?_
  intro p e R s m args below meth c
  have key : ∀ (k i : Nat) (w : Nat → Nat) (a f : Nat) (u : Option Value) (M1 : Mem), i + k = w 0 ∧ Tl w i ∧ w 2 = 0 ∧ k + 7 ≤ f ∧ LkN M1 57 w i ∧ TkR M1 T a ∧ pRun T f i a w = Rz ∧ F257 M M1 → X (mkG p l e R s m args below meth c Ω (fun ro M' => F257 M M' ∧ ((ro = some (.int (bI false)) ∧ ∃ e, Rz = .inl e ∧ ErR M' e) ∨ (ro = some (.int (bI true)) ∧ ∃ (f2 a2 : Nat) (w : Nat → Nat), 7 ≤ f2 ∧ pRun T f2 (w 0) a2 w = Rz ∧ Tl w (w 0) ∧ w 2 = 0 ∧ LkR M' 57 w ∧ TkR M' T a2 ∧ ¬ tcd T a2 = 114)))) Ω RX10 cX10_readRungs 4 6 (some .boolean) 2 [some (.ref (Ω.2.2 2)), some (.ref (Ω.2.2 57)), some (.int (nI (i + 1))), u] [] M1 := by
    intro k
    induction k with
    | zero =>
      intro i w a f u M1 hh
      obtain ⟨hk, hTl, hw2, hf, hN, hK, hRz, hF⟩ := hh
      have hn := hTl.1.1.nums
      have htc := tcd_lt hT a
      obtain ⟨f, rfl⟩ : ∃ f2, f = f2 + 1 := ⟨f - 1, by omega⟩
      refine x_iload_n dX10_readRungs_2 rfl ?_
      refine x_aload_n dX10_readRungs_3 rfl ?_
      refine g_X10_52 dX10_readRungs_4 ?_
      rw [hN.1]
      refine y_icmp_gt 50 dX10_readRungs_7 (by omega) (by omega) (fun h_7 => ?_) (fun h_7 => ?_)
      · obtain rfl : i = w 0 := by omega
        refine x_aload_n dX10_readRungs_50 rfl ?_
        refine g_X10_58 dX10_readRungs_51 ?_
        rw [hK.2.2.1]
        refine x_bipush (v := nI 114) dX10_readRungs_54 rfl ?_
        by_cases h114 : tcd T a = 114
        · refine x_icmp_ne 67 dX10_readRungs_56 (fun z => absurd ((tok_c htc (by decide)).mpr h114) z) (fun _ => ?_)
          refine x_aload_n dX10_readRungs_59 rfl ?_
          refine y_iconst (a := 3) dX10_readRungs_60 rfl ?_
          refine q_X10_61 (c_blame) dX10_readRungs_61 rfl ?_
          rintro _ _ ⟨rfl, rfl⟩
          refine z_if_eq 71 dX10_readRungs_64 (fun _ => ?_) (fun z => by cases z)
          refine y_iconst (a := 0) dX10_readRungs_71 rfl ?_
          first | refine z_iret dX10_readRungs_72 ?_ | refine z_iret0 dX10_readRungs_72 ?_ | refine z_iret1 dX10_readRungs_72 ?_
          refine ⟨hF.tr F2.rf.up.w, Or.inl ⟨rfl, (3, a), ?_, hK.err⟩⟩
          rw [← hRz]
          exact pRun_g0 (Nat.lt_irrefl _) ⟨hw2, h114⟩
        · refine x_icmp_ne 67 dX10_readRungs_56 (fun _ => ?_) (fun z => absurd ((tok_c htc (by decide)).mp z) h114)
          refine y_iconst (a := 1) dX10_readRungs_67 rfl ?_
          refine x_goto 72 dX10_readRungs_68 ?_
          first | refine z_iret dX10_readRungs_72 ?_ | refine z_iret0 dX10_readRungs_72 ?_ | refine z_iret1 dX10_readRungs_72 ?_
          exact ⟨hF, Or.inr ⟨rfl, f + 1, a, w, by omega, hRz, hTl, hw2, hN.full, hK, h114⟩⟩
      · exfalso; omega
    | succ k ih =>
      intro i w a f u M1 hh
      obtain ⟨hk, hTl, hw2, hf, hN, hK, hRz, hF⟩ := hh
      have hn := hTl.1.1.nums
      have htc := tcd_lt hT a
      obtain ⟨f, rfl⟩ : ∃ f2, f = f2 + 1 := ⟨f - 1, by omega⟩
      refine x_iload_n dX10_readRungs_2 rfl ?_
      refine x_aload_n dX10_readRungs_3 rfl ?_
      refine g_X10_52 dX10_readRungs_4 ?_
      rw [hN.1]
      refine y_icmp_gt 50 dX10_readRungs_7 (by omega) (by omega) (fun h_7 => ?_) (fun h_7 => ?_)
      · exfalso; omega
      · have hil : i < w 0 := by omega
        rcases hn1 : pPass T 114 a with e1 | b1
        · refine x_aload_n dX10_readRungs_10 rfl ?_
          refine x_bipush (v := nI 114) dX10_readRungs_11 rfl ?_
          refine q_X10_38 (c_pass hT hK (c0 := 114) (by decide)) dX10_readRungs_13 rfl ?_
          intro ro M1 hp
          obtain ⟨hF1, hp⟩ := hp
          rw [hn1] at hp
          obtain ⟨rfl, hE1⟩ := hp
          refine z_if_ne 21 dX10_readRungs_16 (fun h_16 => ?_) (fun h_16 => ?_)
          · cases h_16
          · refine y_iconst (a := 0) dX10_readRungs_19 rfl ?_
            first | refine z_iret dX10_readRungs_20 ?_ | refine z_iret0 dX10_readRungs_20 ?_ | refine z_iret1 dX10_readRungs_20 ?_
            exact ⟨hF.tr hF1.w, Or.inl ⟨rfl, e1, by rw [← hRz]; exact pRun_r1 hil hn1, hE1⟩⟩
        · refine x_aload_n dX10_readRungs_10 rfl ?_
          refine x_bipush (v := nI 114) dX10_readRungs_11 rfl ?_
          refine q_X10_38 (c_pass hT hK (c0 := 114) (by decide)) dX10_readRungs_13 rfl ?_
          intro ro M1 hp
          obtain ⟨hF1, hp⟩ := hp
          rw [hn1] at hp
          obtain ⟨rfl, hK1⟩ := hp
          refine z_if_ne 21 dX10_readRungs_16 (fun h_16 => ?_) (fun h_16 => ?_)
          · rcases hn2 : pNum T 0 99 59 b1 with e2 | b2
            · refine x_aload_n dX10_readRungs_21 rfl ?_
              refine y_iconst (a := 0) dX10_readRungs_22 rfl ?_
              refine x_bipush (v := nI 99) dX10_readRungs_23 rfl ?_
              refine x_bipush (v := nI 59) dX10_readRungs_25 rfl ?_
              refine q_X10_42 (c_numberThen hT hK1 (lo := 0) (hi := 99) (sg := 59) (by decide) (by decide) (by decide)) dX10_readRungs_27 rfl ?_
              intro ro M2 hp
              obtain ⟨hF2, hp⟩ := hp
              rw [hn2] at hp
              obtain ⟨rfl, hE2⟩ := hp
              refine x_istore_n dX10_readRungs_30 ?_
              refine x_iload_n dX10_readRungs_31 rfl ?_
              refine x_if_ge 37 dX10_readRungs_32 (fun z => absurd z (by decide)) (fun _ => ?_)
              refine y_iconst (a := 0) dX10_readRungs_35 rfl ?_
              first | refine z_iret dX10_readRungs_36 ?_ | refine z_iret0 dX10_readRungs_36 ?_ | refine z_iret1 dX10_readRungs_36 ?_
              exact ⟨hF.tr (hF1.tr hF2).w, Or.inl ⟨rfl, e2, by rw [← hRz]; exact pRun_r2 hil hn1 hn2, hE2⟩⟩
            · refine x_aload_n dX10_readRungs_21 rfl ?_
              refine y_iconst (a := 0) dX10_readRungs_22 rfl ?_
              refine x_bipush (v := nI 99) dX10_readRungs_23 rfl ?_
              refine x_bipush (v := nI 59) dX10_readRungs_25 rfl ?_
              refine q_X10_42 (c_numberThen hT hK1 (lo := 0) (hi := 99) (sg := 59) (by decide) (by decide) (by decide)) dX10_readRungs_27 rfl ?_
              intro ro M2 hp
              obtain ⟨hF2, hp⟩ := hp
              rw [hn2] at hp
              obtain ⟨rfl, hK2⟩ := hp
              have hle2 := pNum_le2 hn2
              refine x_istore_n dX10_readRungs_30 ?_
              refine x_iload_n dX10_readRungs_31 rfl ?_
              refine y_if_ge 37 dX10_readRungs_32 (by omega) ?_
              refine x_aload_n dX10_readRungs_37 rfl ?_
              refine g_X10_55 dX10_readRungs_38 ?_
              refine x_iload_n dX10_readRungs_41 rfl ?_
              refine x_iload_n dX10_readRungs_42 rfl ?_
              refine x_ias dX10_readRungs_43 (ArL (by assumption) (Or.inl ⟨by decide, by decide, rfl⟩)) (by omega) ?_
              refine y_iinc dX10_readRungs_44 rfl ?_
              refine x_goto 2 dX10_readRungs_47 ?_
              refine ih (i + 1) (sv w (6 + i) b2.1) b2.2 f _ _ ⟨?_, hTl.rung hil hle2.2, ?_, by omega, ?_, (hK2.keep (up1_ne _ _ _ (by omega)) (up1_ne _ _ _ (by omega))), ?_, ?_⟩
              · rw [sv_ne _ _ (by omega)]; omega
              · rw [sv_ne _ _ (by omega)]; exact hw2
              · exact (hN.same (fun k hk => by rw [hF2.2 _ (by omega), hF1.2 _ (by omega)])).set hil (by omega) hw2
              · rw [← hRz]; exact (pRun_r3 hil hn1 hn2).symm
              · exact (hF.tr (hF1.tr hF2).w).tr ⟨rfl, fun c c1 c2 => up1_ne _ _ _ (by omega)⟩
          · cases h_16
  refine y_iconst (a := 1) dX10_readRungs_0 rfl ?_
  refine x_istore_n dX10_readRungs_1 ?_
  exact key (v 0) 0 v a f _ _ ⟨Nat.zero_add _, hTl, hv2, hf, hN, hK, hRz, F257.rf⟩
