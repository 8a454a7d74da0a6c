/-! THE TAPE: the text's reading, as numbers; TAPE (laid by gen_tape.py). T: how many bytes, and which -/
abbrev Tp : Type := Nat × (Nat → Nat)
def TW (T : Tp) : Prop := T.1 ≤ 100 ∧ ∀ j, j < T.1 → T.2 j < 256
def fg (T : Tp) (i : Nat) : Bool := decide (i < T.1) && (decide (48 ≤ T.2 i) && decide (T.2 i ≤ 57))
/-- how many figures stand from a on (3: three or more) -/
def fgn (T : Tp) (a : Nat) : Nat := if fg T a = true then (if fg T (a + 1) = true then (if fg T (a + 2) = true then 3 else 2) else 1) else 0
def vl (T : Tp) (a : Nat) : Nat → Nat
  | 0 => 0
  | i + 1 => vl T a i * 10 + T.2 (a + i) - 48
/-- the token at a: a byte; 256 the end, 257 a number, 258 none -/
def tcd (T : Tp) (a : Nat) : Nat := if T.1 ≤ a then 256 else if fgn T a = 0 then T.2 a else if fgn T a = 3 then 258 else 257
def tvl (T : Tp) (a : Nat) : Nat := vl T a (fgn T a)
def tln (T : Tp) (a : Nat) : Nat := if T.1 ≤ a then 0 else if fgn T a = 0 then 1 else fgn T a
def nx (T : Tp) (a : Nat) : Nat := a + tln T a
def tokI (c : Nat) : Int32 := if c = 256 then -1 else if c = 257 then -2 else if c = 258 then -3 else nI c
def tkZ (c : Nat) : Int := if c = 256 then -1 else if c = 257 then -2 else if c = 258 then -3 else c
theorem tokI_toInt {c : Nat} (h : c < 259) : (tokI c).toInt = tkZ c := by
  unfold tokI tkZ
  split
  · rfl
  split
  · rfl
  split
  · rfl
  exact nI_toInt (by omega)
theorem tokI_inj {s t : Nat} (hs : s < 259) (ht : t < 259) : tokI s = tokI t ↔ s = t := by
  constructor
  · intro h
    have h2 := congrArg Int32.toInt h
    rw [tokI_toInt hs, tokI_toInt ht] at h2
    unfold tkZ at h2
    repeat' split at h2
    all_goals omega
  · intro h; rw [h]
theorem tokI_nI {c : Nat} (h : c < 256) : tokI c = nI c := by
  unfold tokI
  rw [if_neg (by omega), if_neg (by omega), if_neg (by omega)]
theorem tok_c {s c : Nat} (hs : s < 259) (hc : c < 256) : tokI s = nI c ↔ s = c := by rw [← tokI_nI hc]; exact tokI_inj hs (by omega)
theorem tok_m1 {s : Nat} (hs : s < 259) : tokI s = -1 ↔ s = 256 := tokI_inj hs (t := 256) (by decide)
theorem tok_m2 {s : Nat} (hs : s < 259) : tokI s = -2 ↔ s = 257 := tokI_inj hs (t := 257) (by decide)
theorem fg_lt {T : Tp} {i : Nat} (h : fg T i = true) : i < T.1 ∧ 48 ≤ T.2 i ∧ T.2 i ≤ 57 := by
  simp [fg] at h; exact ⟨h.1, h.2.1, h.2.2⟩
theorem fgn_eq {T : Tp} {a i : Nat} (h3 : i ≤ 3) (h : ∀ j, j < i → fg T (a + j) = true) (he : i = 3 ∨ fg T (a + i) = false) : fgn T a = i := by
  unfold fgn
  rcases (show i = 0 ∨ i = 1 ∨ i = 2 ∨ i = 3 by omega) with rfl | rfl | rfl | rfl
  · rcases he with z | z
    · omega
    · rw [Nat.add_zero] at z; rw [if_neg (by rw [z]; decide)]
  · have h0 := h 0 (by omega)
    rcases he with z | z
    · omega
    · rw [Nat.add_zero] at h0
      rw [if_pos h0, if_neg (by rw [z]; decide)]
  · have h0 := h 0 (by omega)
    have h1 := h 1 (by omega)
    rcases he with z | z
    · omega
    · rw [Nat.add_zero] at h0
      rw [if_pos h0, if_pos h1, if_neg (by rw [z]; decide)]
  · have h0 := h 0 (by omega)
    have h1 := h 1 (by omega)
    have h2 := h 2 (by omega)
    rw [Nat.add_zero] at h0
    rw [if_pos h0, if_pos h1, if_pos h2]
theorem fgn_le (T : Tp) (a : Nat) : fgn T a ≤ 3 := by
  unfold fgn
  repeat' split
  all_goals omega
theorem fgn_fg {T : Tp} {a : Nat} : ∀ j, j < fgn T a → fg T (a + j) = true := by
  intro j hj
  have h3 := fgn_le T a
  unfold fgn at hj
  split at hj
  · rename_i h0
    split at hj
    · rename_i h1
      split at hj
      · rename_i h2
        rcases (show j = 0 ∨ j = 1 ∨ j = 2 by omega) with rfl | rfl | rfl <;> assumption
      · rcases (show j = 0 ∨ j = 1 by omega) with rfl | rfl <;> assumption
    · obtain rfl : j = 0 := by omega
      assumption
  · omega
theorem fgn_0 {T : Tp} {a : Nat} (h : fg T a = false) : fgn T a = 0 := by unfold fgn; rw [if_neg (by rw [h]; decide)]
theorem fgn_1 {T : Tp} {a : Nat} (h : fg T a = true) : 1 ≤ fgn T a := by
  unfold fgn
  rw [if_pos h]
  repeat' split
  all_goals omega
theorem vl_le {T : Tp} {a : Nat} : ∀ i, (∀ j, j < i → T.2 (a + j) ≤ 57) → vl T a i + 1 ≤ 10 ^ i
  | 0, _ => by simp [vl]
  | i + 1, h => by
    have h1 := vl_le i (fun j hj => h j (by omega))
    have h2 := h i (by omega)
    rw [Nat.pow_succ]
    simp only [vl]
    omega
theorem tcd_lt {T : Tp} (h : TW T) (a : Nat) : tcd T a < 259 := by
  unfold tcd
  split
  · omega
  split
  · have := h.2 a (by omega); omega
  split <;> omega
theorem tvl_le {T : Tp} {a : Nat} (h : tcd T a = 257) (hT : TW T) : tvl T a ≤ 99 := by
  have h3 := fgn_le T a
  have hf := fgn_fg (T := T) (a := a)
  unfold tcd at h
  split at h
  · omega
  split at h
  · have := hT.2 a (by omega); omega
  split at h
  · omega
  have := vl_le (T := T) (a := a) (fgn T a) (fun j hj => (fg_lt (hf j hj)).2.2)
  unfold tvl
  have h4 : fgn T a ≤ 2 := by omega
  have : 10 ^ fgn T a ≤ 10 ^ 2 := Nat.pow_le_pow_right (by decide) h4
  omega
theorem tln_le (T : Tp) {a : Nat} (h : a ≤ T.1) : nx T a ≤ T.1 := by
  unfold nx tln
  split
  · omega
  split
  · omega
  · rename_i h1 h2
    have := fg_lt (fgn_fg (T := T) (a := a) (fgn T a - 1) (by omega))
    omega
/-! the reading -/
def pPass (T : Tp) (c a : Nat) : (Nat × Nat) ⊕ Nat := if tcd T a = c then .inr (nx T a) else .inl (1, a)
def pNum (T : Tp) (lo hi sg a : Nat) : (Nat × Nat) ⊕ (Nat × Nat) := if tcd T a = 257 then (if lo ≤ tvl T a ∧ tvl T a ≤ hi then (match pPass T sg (nx T a) with
    | .inl e => .inl e
    | .inr b => .inr (tvl T a, b)) else .inl (2, a)) else .inl (1, a)
def kdO (c : Nat) : Nat := if c = 99 then 1 else if c = 100 then 2 else if c = 107 then 3 else if c = 102 then 4 else if c = 103 then 5 else 0
def pLaw (T : Tp) : (Nat × Nat) ⊕ (Nat × Nat × Nat) := match pPass T 108 0 with
  | .inl e => .inl e
  | .inr a => match pNum T 2 9 44 a with
    | .inl e => .inl e
    | .inr (r, b) => match pNum T 1 99 59 b with
      | .inl e => .inl e
      | .inr (q, c) => .inr (r, q, c)
def pRun (T : Tp) : Nat → Nat → Nat → (Nat → Nat) → (Nat × Nat) ⊕ (Nat → Nat)
  | 0, _, _, _ => .inl (0, 0)
  | f + 1, i, a, v => if i < v 0 then (match pPass T 114 a with
      | .inl e => .inl e
      | .inr b => match pNum T 0 99 59 b with
        | .inl e => .inl e
        | .inr (x, c) => pRun T f (i + 1) c (sv v (6 + i) x))
    else if v 2 = 0 ∧ tcd T a = 114 then .inl (3, a)
    else if 0 < v 2 ∧ tcd T a = 256 then .inr v
    else if kdO (tcd T a) = 0 then .inl (1, a)
    else if v 2 = 6 then .inl (3, a)
    else match pNum T 1 30 44 (nx T a) with
      | .inl e => .inl e
      | .inr (x, b) => match pNum T 0 30 59 b with
        | .inl e => .inl e
        | .inr (t, c) => pRun T f i c (agV v (kdO (tcd T a)) x t)
def pLake (T : Tp) : (Nat × Nat) ⊕ (Nat → Nat) := match pLaw T with
  | .inl e => .inl e
  | .inr (r, q, a) => pRun T 17 0 a (hgV r q)
theorem pNum_le {T : Tp} {lo hi sg a x b : Nat} (h : pNum T lo hi sg a = .inr (x, b)) : lo ≤ x ∧ x ≤ hi := by
  unfold pNum at h
  split at h
  · split at h
    · rename_i h2
      split at h
      · cases h
      · cases h; exact h2
    · cases h
  · cases h
theorem kdO_le (c : Nat) : kdO c ≤ 5 := by
  unfold kdO
  repeat' split
  all_goals omega
/-- a lake that is being told: i of its rungs are told -/
def Tl (v : Nat → Nat) (i : Nat) : Prop := Iv v ∧ v 3 = 0 ∧ v 4 = 0 ∧ i ≤ v 0 ∧ (i < v 0 → v 2 = 0)
theorem hgV_Tl {r q : Nat} (hr : 2 ≤ r ∧ r ≤ 9) (hq : q ≤ 99) : Tl (hgV r q) 0 := by
  refine ⟨⟨⟨hr.2, hq, Nat.zero_le _, Nat.zero_le _, (show (0 : Nat) < 64 by decide), (show (0 : Nat) < 2 ^ 0 by decide), fun j _ => ?_, fun g hg => absurd hg (Nat.not_lt_zero _)⟩, hr.1, fun g hg => absurd hg (Nat.not_lt_zero _)⟩, rfl, rfl, Nat.zero_le _, fun _ => rfl⟩
  unfold hgV
  rw [if_neg (by omega), if_neg (by omega)]
  omega
theorem Tl.rung {v : Nat → Nat} {i x : Nat} (h : Tl v i) (hi : i < v 0) (hx : x ≤ 99) : Tl (sv v (6 + i) x) (i + 1) := by
  obtain ⟨h1, h2, h3, h4, h5⟩ := h
  have hn := h1.1.nums
  have e : ∀ j, j < 6 → sv v (6 + i) x j = v j := fun j hj => sv_ne _ _ (by omega)
  refine ⟨?_, by rw [e 3 (by omega)]; exact h2, by rw [e 4 (by omega)]; exact h3, by rw [e 0 (by omega)]; omega, fun _ => by rw [e 2 (by omega)]; exact h5 hi⟩
  have := h1.setS (p := i + 1) (y := x) (by omega) (by omega) hx (fun _ g hg => by have := h5 hi; omega)
  rw [show 5 + (i + 1) = 6 + i by omega] at this
  exact this
theorem Tl.goer {v : Nat → Nat} (h : Tl v (v 0)) (h6 : v 2 < 6) {k x t : Nat} (hk : 1 ≤ k ∧ k ≤ 5) (hx : x ≤ 30) (ht : t ≤ 30) : Tl (agV v k x t) (agV v k x t 0) := by
  obtain ⟨h1, h2, h3, h4, h5⟩ := h
  have e : ∀ j, j < 5 → j ≠ 2 → agV v k x t j = v j := fun j hj h2 => agV_ne h2 (by omega) (by omega) (by omega) (by omega) (by omega) (by omega)
  exact ⟨agV_Iv h1 h6 hk hx (by omega), by rw [e 3 (by omega) (by omega)]; exact h2, by rw [e 4 (by omega) (by omega)]; exact h3, Nat.le_refl _, fun z => absurd z (Nat.lt_irrefl _)⟩
theorem pRun_Tl {T : Tp} {w : Nat → Nat} : ∀ (f i a : Nat) (v : Nat → Nat), Tl v i → pRun T f i a v = .inr w → Iv w ∧ w 3 = 0
  | 0, _, _, _, _, h => by cases h
  | f + 1, i, a, v, hv, h => by
    unfold pRun at h
    split at h
    · rename_i hi
      split at h
      · cases h
      · split at h
        · cases h
        · rename_i x c hx
          exact pRun_Tl f _ _ _ (hv.rung hi (pNum_le hx).2) h
    · rename_i hi
      have hi0 : i = v 0 := by have := hv.2.2.2.1; omega
      subst hi0
      split at h
      · cases h
      split at h
      · cases h; exact ⟨hv.1, hv.2.1⟩
      split at h
      · cases h
      split at h
      · cases h
      · rename_i hk h6
        split at h
        · cases h
        · split at h
          · cases h
          · rename_i x b hx _ t c ht
            have hn := hv.1.1.nums
            have hkd := kdO_le (tcd T a)
            have h2 := hv.goer (k := kdO (tcd T a)) (x := x) (t := t) (by omega) (by omega) (pNum_le hx).2 (pNum_le ht).2
            have e0 : agV v (kdO (tcd T a)) x t 0 = v 0 := agV_ne (by omega) (by omega) (by omega) (by omega) (by omega) (by omega) (by omega)
            rw [e0] at h2
            exact pRun_Tl f _ _ _ h2 h
theorem pLake_Iv {T : Tp} {w : Nat → Nat} (h : pLake T = .inr w) : Iv w ∧ w 3 = 0 := by
  unfold pLake pLaw at h
  split at h
  · cases h
  · rename_i r q a hl
    split at hl
    · cases hl
    · split at hl
      · cases hl
      · rename_i hr
        split at hl
        · cases hl
        · rename_i hq
          cases hl
          exact pRun_Tl 17 0 _ _ (hgV_Tl (pNum_le hr) (pNum_le hq).2) h
def R_lake (σ : Sg) : Int32 × Sg := match pLake (σ.tn, σ.tb) with
  | .inl e => (-1000100 - nI e.2, (σ.uTape 0 σ.tb).uFl (nI e.1))
  | .inr v => (nI (v 2), (σ.uTape 0 σ.tb).uLake v 0 σ.ah)
/-! the class's cells -/
def TbR (M : Mem) (T : Tp) : Prop := M.1 2 1 = nI T.1 ∧ ∀ j, j < T.1 → M.1 3 j = nI (T.2 j)
def TkR (M : Mem) (T : Tp) (a : Nat) : Prop := TbR M T ∧ M.1 2 2 = nI a ∧ M.1 2 4 = tokI (tcd T a) ∧ M.1 2 5 = nI (tln T a) ∧ (tcd T a = 257 → M.1 2 6 = nI (tvl T a)) ∧ a ≤ T.1
def ErR (M : Mem) (e : Nat × Nat) : Prop := M.1 2 3 = nI e.1 ∧ M.1 2 2 = nI e.2
def F2 (M M' : Mem) : Prop := M'.2 = M.2 ∧ ∀ c, c ≠ 2 → M'.1 c = M.1 c
theorem F2.rf {M : Mem} : F2 M M := ⟨rfl, fun _ _ => rfl⟩
theorem F2.tr {M M1 M2 : Mem} (h : F2 M M1) (h2 : F2 M1 M2) : F2 M M2 := ⟨h2.1.trans h.1, fun c a => (h2.2 c a).trans (h.2 c a)⟩
theorem F2.up {M M1 : Mem} (h : F2 M M1) {k : Nat} {x : Int32} : F2 M (up1 M1 2 k x) := ⟨h.1, fun c hc => by rw [up1_ne _ _ _ hc]; exact h.2 c hc⟩
theorem TbR.up {M : Mem} {T : Tp} (h : TbR M T) {k : Nat} {x : Int32} (hk : k ≠ 1) : TbR (up1 M 2 k x) T := ⟨by rw [up1_at, if_neg (by omega)]; exact h.1, fun j hj => by rw [up1_ne _ _ _ (by omega)]; exact h.2 j hj⟩

set_option maxRecDepth 100000 in
set_option maxHeartbeats 4000000 in
theorem c_isFigure {Ω : Om} {l : Launch} {M : Mem} {x : Nat} (hx : x < 2 ^ 31) : Ct Ω l yX10_isFigure cX10_isFigure 1 1 (some .boolean) [.int (nI x)] M (fun ro M' => ro = some (.int (bI (decide (48 ≤ x) && decide (x ≤ 57)))) ∧ M = M') := by
  have hL49 : Lk 49 := Lk49
  have hL57 : Lk 57 := Lk57
  refine ct_of (by decide) (Nat.le_of_ble_eq_true rfl) ?_
  intro p e R s m args below meth c
  refine x_iload_n dX10_isFigure_0 rfl ?_
  refine x_bipush (v := nI 48) dX10_isFigure_1 rfl ?_
  refine y_icmp_lt 16 dX10_isFigure_3 (by omega) (by omega) (fun h_3 => ?_) (fun h_3 => ?_)
  · refine y_iconst (a := 0) dX10_isFigure_16 rfl ?_
    first | refine z_iret dX10_isFigure_17 ?_ | refine z_iret0 dX10_isFigure_17 ?_ | refine z_iret1 dX10_isFigure_17 ?_
    exact ⟨cB _ _ (by simp <;> omega), rfl⟩
  · refine x_iload_n dX10_isFigure_6 rfl ?_
    refine x_bipush (v := nI 57) dX10_isFigure_7 rfl ?_
    refine y_icmp_gt 16 dX10_isFigure_9 (by omega) (by omega) (fun h_9 => ?_) (fun h_9 => ?_)
    · refine y_iconst (a := 0) dX10_isFigure_16 rfl ?_
      first | refine z_iret dX10_isFigure_17 ?_ | refine z_iret0 dX10_isFigure_17 ?_ | refine z_iret1 dX10_isFigure_17 ?_
      exact ⟨cB _ _ (by simp <;> omega), rfl⟩
    · refine y_iconst (a := 1) dX10_isFigure_12 rfl ?_
      refine x_goto 17 dX10_isFigure_13 ?_
      first | refine z_iret dX10_isFigure_17 ?_ | refine z_iret0 dX10_isFigure_17 ?_ | refine z_iret1 dX10_isFigure_17 ?_
      exact ⟨cB _ _ (by simp <;> omega), rfl⟩
set_option maxRecDepth 100000 in
set_option maxHeartbeats 4000000 in
theorem c_blame {Ω : Om} {l : Launch} {M : Mem} {x : Int32} : Ct Ω l yX10_blame cX10_blame 2 1 (some .boolean) [.ref (Ω.2.2 2), .int x] M (fun ro M' => ro = some (.int (bI false)) ∧ M' = up1 M 2 3 x) := by
  have hL49 : Lk 49 := Lk49
  have hL57 : Lk 57 := Lk57
  refine ct_of (by decide) (Nat.le_of_ble_eq_true rfl) ?_
  intro p e R s m args below meth c
  refine x_aload_n dX10_blame_0 rfl ?_
  refine x_iload_n dX10_blame_1 rfl ?_
  refine p_X10_80 dX10_blame_2 ?_
  refine y_iconst (a := 0) dX10_blame_5 rfl ?_
  first | refine z_iret dX10_blame_6 ?_ | refine z_iret0 dX10_blame_6 ?_ | refine z_iret1 dX10_blame_6 ?_
  exact ⟨rfl, rfl⟩
set_option maxRecDepth 100000 in
set_option maxHeartbeats 4000000 in
theorem c_readFigures {Ω : Om} {l : Launch} {M : Mem} {T : Tp} (hT : TW T) (hB : TbR M T) {a : Nat} (hat : M.1 2 2 = nI a) (h0 : fg T a = true) : Ct Ω l yX10_readFigures cX10_readFigures 2 2 none [.ref (Ω.2.2 2)] M (fun ro M' => ro = none ∧ TkR M' T a ∧ F2 M M') := by
  have hL49 : Lk 49 := Lk49
  have hL57 : Lk 57 := Lk57
  refine ct_of (by decide) (Nat.le_of_ble_eq_true rfl) ?_
  intro p e R s m args below meth c
  have key : ∀ (k : Nat) (i : Nat) (M1 : Mem), i + k = 3 ∧ TbR M1 T ∧ M1.1 2 2 = nI a ∧ M1.1 2 6 = nI (vl T a i) ∧ (∀ j, j < i → fg T (a + j) = true) ∧ F2 M M1 → X (mkG p l e R s m args below meth c Ω (fun ro M' => ro = none ∧ TkR M' T a ∧ F2 M M')) Ω RX10 cX10_readFigures 2 2 none 10 [some (.ref (Ω.2.2 2)), some (.int (nI (a + i)))] [] M1 := by
    intro k
    induction k with
    | zero =>
      intro i M1 hk
      obtain ⟨hk, hB, hat, hval, hfg, hF1⟩ := hk
      have hT1 := hT.1
      have hat1 := (fg_lt h0).1
      refine x_iload_n dX10_readFigures_10 rfl ?_
      refine x_aload_n dX10_readFigures_11 rfl ?_
      refine g_X10_15 dX10_readFigures_12 ?_
      rw [hB.1]
      refine y_icmp_ge 67 dX10_readFigures_15 (by omega) (by omega) (fun h_15 => ?_) (fun h_15 => ?_)
      · refine x_aload_n dX10_readFigures_67 rfl ?_
        refine x_iload_n dX10_readFigures_68 rfl ?_
        refine x_aload_n dX10_readFigures_69 rfl ?_
        refine g_X10_19 dX10_readFigures_70 ?_
        rw [hat]
        refine y_isub dX10_readFigures_73 (by omega) ?_
        refine p_X10_22 dX10_readFigures_74 ?_
        refine x_aload_n dX10_readFigures_77 rfl ?_
        refine x_aload_n dX10_readFigures_78 rfl ?_
        refine g_X10_22 dX10_readFigures_79 ?_
        rw [up1_at, if_pos ⟨rfl, rfl⟩]
        refine y_iconst (a := 2) dX10_readFigures_82 rfl ?_
        refine y_icmp_le 91 dX10_readFigures_83 (by omega) (by omega) (fun h_83 => ?_) (fun h_83 => ?_)
        · refine x_bipush (v := (-2)) dX10_readFigures_91 rfl ?_
          refine p_X10_58 dX10_readFigures_93 ?_
          refine x_vret dX10_readFigures_96 ?_
          have hz : fgn T a = i := fgn_eq (by omega) hfg (by
            first
              | (left; omega)
              | (right
                 have z1 : ¬ a + i < T.1 := by omega
                 simp [fg, z1])
              | (right
                 have z2 := h_37
                 unfold fg
                 rw [z2]
                 simp))
          have hi1 : 1 ≤ i := by have := fgn_1 h0; omega
          have hat2 : a < T.1 := (fg_lt h0).1
          refine ⟨rfl, ⟨(hB.up (by decide)).up (by decide), ?_, ?_, ?_, fun h257 => ?_, by omega⟩, hF1.up.up⟩
          · rw [up1_at, if_neg (by omega), up1_at, if_neg (by omega)]; exact hat
          · rw [up1_at, if_pos ⟨rfl, rfl⟩]
            unfold tcd
            rw [if_neg (by omega), if_neg (by omega), hz]
            first
              | (rw [if_pos (by omega)]; rfl)
              | (rw [if_neg (by omega)]; rfl)
          · rw [up1_at, if_neg (by omega), up1_at, if_pos ⟨rfl, rfl⟩]
            unfold tln
            rw [if_neg (by omega), if_neg (by omega), hz, Nat.add_sub_cancel_left]
          · rw [up1_at, if_neg (by omega), up1_at, if_neg (by omega), hval]
            unfold tvl
            rw [hz]
        · refine x_bipush (v := (-3)) dX10_readFigures_86 rfl ?_
          refine x_goto 93 dX10_readFigures_88 ?_
          refine p_X10_58 dX10_readFigures_93 ?_
          refine x_vret dX10_readFigures_96 ?_
          have hz : fgn T a = i := fgn_eq (by omega) hfg (by
            first
              | (left; omega)
              | (right
                 have z1 : ¬ a + i < T.1 := by omega
                 simp [fg, z1])
              | (right
                 have z2 := h_37
                 unfold fg
                 rw [z2]
                 simp))
          have hi1 : 1 ≤ i := by have := fgn_1 h0; omega
          have hat2 : a < T.1 := (fg_lt h0).1
          refine ⟨rfl, ⟨(hB.up (by decide)).up (by decide), ?_, ?_, ?_, fun h257 => ?_, by omega⟩, hF1.up.up⟩
          · rw [up1_at, if_neg (by omega), up1_at, if_neg (by omega)]; exact hat
          · rw [up1_at, if_pos ⟨rfl, rfl⟩]
            unfold tcd
            rw [if_neg (by omega), if_neg (by omega), hz]
            first
              | (rw [if_pos (by omega)]; rfl)
              | (rw [if_neg (by omega)]; rfl)
          · rw [up1_at, if_neg (by omega), up1_at, if_pos ⟨rfl, rfl⟩]
            unfold tln
            rw [if_neg (by omega), if_neg (by omega), hz, Nat.add_sub_cancel_left]
          · rw [up1_at, if_neg (by omega), up1_at, if_neg (by omega), hval]
            unfold tvl
            rw [hz]
      · refine x_iload_n dX10_readFigures_18 rfl ?_
        refine x_aload_n dX10_readFigures_19 rfl ?_
        refine g_X10_19 dX10_readFigures_20 ?_
        rw [hat]
        skip
        refine y_isub dX10_readFigures_23 (by omega) ?_
        refine y_iconst (a := 2) dX10_readFigures_24 rfl ?_
        refine y_icmp_gt 67 dX10_readFigures_25 (by omega) (by omega) (fun h_25 => ?_) (fun h_25 => ?_)
        · refine x_aload_n dX10_readFigures_67 rfl ?_
          refine x_iload_n dX10_readFigures_68 rfl ?_
          refine x_aload_n dX10_readFigures_69 rfl ?_
          refine g_X10_19 dX10_readFigures_70 ?_
          rw [hat]
          refine y_isub dX10_readFigures_73 (by omega) ?_
          refine p_X10_22 dX10_readFigures_74 ?_
          refine x_aload_n dX10_readFigures_77 rfl ?_
          refine x_aload_n dX10_readFigures_78 rfl ?_
          refine g_X10_22 dX10_readFigures_79 ?_
          rw [up1_at, if_pos ⟨rfl, rfl⟩]
          refine y_iconst (a := 2) dX10_readFigures_82 rfl ?_
          refine y_icmp_le 91 dX10_readFigures_83 (by omega) (by omega) (fun h_83 => ?_) (fun h_83 => ?_)
          · refine x_bipush (v := (-2)) dX10_readFigures_91 rfl ?_
            refine p_X10_58 dX10_readFigures_93 ?_
            refine x_vret dX10_readFigures_96 ?_
            have hz : fgn T a = i := fgn_eq (by omega) hfg (by
              first
                | (left; omega)
                | (right
                   have z1 : ¬ a + i < T.1 := by omega
                   simp [fg, z1])
                | (right
                   have z2 := h_37
                   unfold fg
                   rw [z2]
                   simp))
            have hi1 : 1 ≤ i := by have := fgn_1 h0; omega
            have hat2 : a < T.1 := (fg_lt h0).1
            refine ⟨rfl, ⟨(hB.up (by decide)).up (by decide), ?_, ?_, ?_, fun h257 => ?_, by omega⟩, hF1.up.up⟩
            · rw [up1_at, if_neg (by omega), up1_at, if_neg (by omega)]; exact hat
            · rw [up1_at, if_pos ⟨rfl, rfl⟩]
              unfold tcd
              rw [if_neg (by omega), if_neg (by omega), hz]
              first
                | (rw [if_pos (by omega)]; rfl)
                | (rw [if_neg (by omega)]; rfl)
            · rw [up1_at, if_neg (by omega), up1_at, if_pos ⟨rfl, rfl⟩]
              unfold tln
              rw [if_neg (by omega), if_neg (by omega), hz, Nat.add_sub_cancel_left]
            · rw [up1_at, if_neg (by omega), up1_at, if_neg (by omega), hval]
              unfold tvl
              rw [hz]
          · refine x_bipush (v := (-3)) dX10_readFigures_86 rfl ?_
            refine x_goto 93 dX10_readFigures_88 ?_
            refine p_X10_58 dX10_readFigures_93 ?_
            refine x_vret dX10_readFigures_96 ?_
            have hz : fgn T a = i := fgn_eq (by omega) hfg (by
              first
                | (left; omega)
                | (right
                   have z1 : ¬ a + i < T.1 := by omega
                   simp [fg, z1])
                | (right
                   have z2 := h_37
                   unfold fg
                   rw [z2]
                   simp))
            have hi1 : 1 ≤ i := by have := fgn_1 h0; omega
            have hat2 : a < T.1 := (fg_lt h0).1
            refine ⟨rfl, ⟨(hB.up (by decide)).up (by decide), ?_, ?_, ?_, fun h257 => ?_, by omega⟩, hF1.up.up⟩
            · rw [up1_at, if_neg (by omega), up1_at, if_neg (by omega)]; exact hat
            · rw [up1_at, if_pos ⟨rfl, rfl⟩]
              unfold tcd
              rw [if_neg (by omega), if_neg (by omega), hz]
              first
                | (rw [if_pos (by omega)]; rfl)
                | (rw [if_neg (by omega)]; rfl)
            · rw [up1_at, if_neg (by omega), up1_at, if_pos ⟨rfl, rfl⟩]
              unfold tln
              rw [if_neg (by omega), if_neg (by omega), hz, Nat.add_sub_cancel_left]
            · rw [up1_at, if_neg (by omega), up1_at, if_neg (by omega), hval]
              unfold tvl
              rw [hz]
        · exfalso; omega
    | succ k ih =>
      intro i M1 hk
      obtain ⟨hk, hB, hat, hval, hfg, hF1⟩ := hk
      have hT1 := hT.1
      have hat1 := (fg_lt h0).1
      refine x_iload_n dX10_readFigures_10 rfl ?_
      refine x_aload_n dX10_readFigures_11 rfl ?_
      refine g_X10_15 dX10_readFigures_12 ?_
      rw [hB.1]
      refine y_icmp_ge 67 dX10_readFigures_15 (by omega) (by omega) (fun h_15 => ?_) (fun h_15 => ?_)
      · refine x_aload_n dX10_readFigures_67 rfl ?_
        refine x_iload_n dX10_readFigures_68 rfl ?_
        refine x_aload_n dX10_readFigures_69 rfl ?_
        refine g_X10_19 dX10_readFigures_70 ?_
        rw [hat]
        refine y_isub dX10_readFigures_73 (by omega) ?_
        refine p_X10_22 dX10_readFigures_74 ?_
        refine x_aload_n dX10_readFigures_77 rfl ?_
        refine x_aload_n dX10_readFigures_78 rfl ?_
        refine g_X10_22 dX10_readFigures_79 ?_
        rw [up1_at, if_pos ⟨rfl, rfl⟩]
        refine y_iconst (a := 2) dX10_readFigures_82 rfl ?_
        refine y_icmp_le 91 dX10_readFigures_83 (by omega) (by omega) (fun h_83 => ?_) (fun h_83 => ?_)
        · refine x_bipush (v := (-2)) dX10_readFigures_91 rfl ?_
          refine p_X10_58 dX10_readFigures_93 ?_
          refine x_vret dX10_readFigures_96 ?_
          have hz : fgn T a = i := fgn_eq (by omega) hfg (by
            first
              | (left; omega)
              | (right
                 have z1 : ¬ a + i < T.1 := by omega
                 simp [fg, z1])
              | (right
                 have z2 := h_37
                 unfold fg
                 rw [z2]
                 simp))
          have hi1 : 1 ≤ i := by have := fgn_1 h0; omega
          have hat2 : a < T.1 := (fg_lt h0).1
          refine ⟨rfl, ⟨(hB.up (by decide)).up (by decide), ?_, ?_, ?_, fun h257 => ?_, by omega⟩, hF1.up.up⟩
          · rw [up1_at, if_neg (by omega), up1_at, if_neg (by omega)]; exact hat
          · rw [up1_at, if_pos ⟨rfl, rfl⟩]
            unfold tcd
            rw [if_neg (by omega), if_neg (by omega), hz]
            first
              | (rw [if_pos (by omega)]; rfl)
              | (rw [if_neg (by omega)]; rfl)
          · rw [up1_at, if_neg (by omega), up1_at, if_pos ⟨rfl, rfl⟩]
            unfold tln
            rw [if_neg (by omega), if_neg (by omega), hz, Nat.add_sub_cancel_left]
          · rw [up1_at, if_neg (by omega), up1_at, if_neg (by omega), hval]
            unfold tvl
            rw [hz]
        · refine x_bipush (v := (-3)) dX10_readFigures_86 rfl ?_
          refine x_goto 93 dX10_readFigures_88 ?_
          refine p_X10_58 dX10_readFigures_93 ?_
          refine x_vret dX10_readFigures_96 ?_
          have hz : fgn T a = i := fgn_eq (by omega) hfg (by
            first
              | (left; omega)
              | (right
                 have z1 : ¬ a + i < T.1 := by omega
                 simp [fg, z1])
              | (right
                 have z2 := h_37
                 unfold fg
                 rw [z2]
                 simp))
          have hi1 : 1 ≤ i := by have := fgn_1 h0; omega
          have hat2 : a < T.1 := (fg_lt h0).1
          refine ⟨rfl, ⟨(hB.up (by decide)).up (by decide), ?_, ?_, ?_, fun h257 => ?_, by omega⟩, hF1.up.up⟩
          · rw [up1_at, if_neg (by omega), up1_at, if_neg (by omega)]; exact hat
          · rw [up1_at, if_pos ⟨rfl, rfl⟩]
            unfold tcd
            rw [if_neg (by omega), if_neg (by omega), hz]
            first
              | (rw [if_pos (by omega)]; rfl)
              | (rw [if_neg (by omega)]; rfl)
          · rw [up1_at, if_neg (by omega), up1_at, if_pos ⟨rfl, rfl⟩]
            unfold tln
            rw [if_neg (by omega), if_neg (by omega), hz, Nat.add_sub_cancel_left]
          · rw [up1_at, if_neg (by omega), up1_at, if_neg (by omega), hval]
            unfold tvl
            rw [hz]
      · refine x_iload_n dX10_readFigures_18 rfl ?_
        refine x_aload_n dX10_readFigures_19 rfl ?_
        refine g_X10_19 dX10_readFigures_20 ?_
        rw [hat]
        skip
        refine y_isub dX10_readFigures_23 (by omega) ?_
        refine y_iconst (a := 2) dX10_readFigures_24 rfl ?_
        refine y_icmp_gt 67 dX10_readFigures_25 (by omega) (by omega) (fun h_25 => ?_) (fun h_25 => ?_)
        · refine x_aload_n dX10_readFigures_67 rfl ?_
          refine x_iload_n dX10_readFigures_68 rfl ?_
          refine x_aload_n dX10_readFigures_69 rfl ?_
          refine g_X10_19 dX10_readFigures_70 ?_
          rw [hat]
          refine y_isub dX10_readFigures_73 (by omega) ?_
          refine p_X10_22 dX10_readFigures_74 ?_
          refine x_aload_n dX10_readFigures_77 rfl ?_
          refine x_aload_n dX10_readFigures_78 rfl ?_
          refine g_X10_22 dX10_readFigures_79 ?_
          rw [up1_at, if_pos ⟨rfl, rfl⟩]
          refine y_iconst (a := 2) dX10_readFigures_82 rfl ?_
          refine y_icmp_le 91 dX10_readFigures_83 (by omega) (by omega) (fun h_83 => ?_) (fun h_83 => ?_)
          · refine x_bipush (v := (-2)) dX10_readFigures_91 rfl ?_
            refine p_X10_58 dX10_readFigures_93 ?_
            refine x_vret dX10_readFigures_96 ?_
            have hz : fgn T a = i := fgn_eq (by omega) hfg (by
              first
                | (left; omega)
                | (right
                   have z1 : ¬ a + i < T.1 := by omega
                   simp [fg, z1])
                | (right
                   have z2 := h_37
                   unfold fg
                   rw [z2]
                   simp))
            have hi1 : 1 ≤ i := by have := fgn_1 h0; omega
            have hat2 : a < T.1 := (fg_lt h0).1
            refine ⟨rfl, ⟨(hB.up (by decide)).up (by decide), ?_, ?_, ?_, fun h257 => ?_, by omega⟩, hF1.up.up⟩
            · rw [up1_at, if_neg (by omega), up1_at, if_neg (by omega)]; exact hat
            · rw [up1_at, if_pos ⟨rfl, rfl⟩]
              unfold tcd
              rw [if_neg (by omega), if_neg (by omega), hz]
              first
                | (rw [if_pos (by omega)]; rfl)
                | (rw [if_neg (by omega)]; rfl)
            · rw [up1_at, if_neg (by omega), up1_at, if_pos ⟨rfl, rfl⟩]
              unfold tln
              rw [if_neg (by omega), if_neg (by omega), hz, Nat.add_sub_cancel_left]
            · rw [up1_at, if_neg (by omega), up1_at, if_neg (by omega), hval]
              unfold tvl
              rw [hz]
          · refine x_bipush (v := (-3)) dX10_readFigures_86 rfl ?_
            refine x_goto 93 dX10_readFigures_88 ?_
            refine p_X10_58 dX10_readFigures_93 ?_
            refine x_vret dX10_readFigures_96 ?_
            have hz : fgn T a = i := fgn_eq (by omega) hfg (by
              first
                | (left; omega)
                | (right
                   have z1 : ¬ a + i < T.1 := by omega
                   simp [fg, z1])
                | (right
                   have z2 := h_37
                   unfold fg
                   rw [z2]
                   simp))
            have hi1 : 1 ≤ i := by have := fgn_1 h0; omega
            have hat2 : a < T.1 := (fg_lt h0).1
            refine ⟨rfl, ⟨(hB.up (by decide)).up (by decide), ?_, ?_, ?_, fun h257 => ?_, by omega⟩, hF1.up.up⟩
            · rw [up1_at, if_neg (by omega), up1_at, if_neg (by omega)]; exact hat
            · rw [up1_at, if_pos ⟨rfl, rfl⟩]
              unfold tcd
              rw [if_neg (by omega), if_neg (by omega), hz]
              first
                | (rw [if_pos (by omega)]; rfl)
                | (rw [if_neg (by omega)]; rfl)
            · rw [up1_at, if_neg (by omega), up1_at, if_pos ⟨rfl, rfl⟩]
              unfold tln
              rw [if_neg (by omega), if_neg (by omega), hz, Nat.add_sub_cancel_left]
            · rw [up1_at, if_neg (by omega), up1_at, if_neg (by omega), hval]
              unfold tvl
              rw [hz]
        · refine x_aload_n dX10_readFigures_28 rfl ?_
          refine g_X10_9 dX10_readFigures_29 ?_
          refine x_iload_n dX10_readFigures_32 rfl ?_
          refine x_ial dX10_readFigures_33 (⟨by decide, rfl, rfl, by decide⟩ : Ar 3 100) (by omega) ?_
          rw [hB.2 _ (by omega)]
          have hby := hT.2 (a + i) (by omega)
          refine q_X10_83 (c_isFigure (by omega)) dX10_readFigures_34 rfl ?_
          rintro _ _ ⟨rfl, rfl⟩
          refine z_if_eq 67 dX10_readFigures_37 (fun h_37 => ?_) (fun h_37 => ?_)
          · refine x_aload_n dX10_readFigures_67 rfl ?_
            refine x_iload_n dX10_readFigures_68 rfl ?_
            refine x_aload_n dX10_readFigures_69 rfl ?_
            refine g_X10_19 dX10_readFigures_70 ?_
            rw [hat]
            refine y_isub dX10_readFigures_73 (by omega) ?_
            refine p_X10_22 dX10_readFigures_74 ?_
            refine x_aload_n dX10_readFigures_77 rfl ?_
            refine x_aload_n dX10_readFigures_78 rfl ?_
            refine g_X10_22 dX10_readFigures_79 ?_
            rw [up1_at, if_pos ⟨rfl, rfl⟩]
            refine y_iconst (a := 2) dX10_readFigures_82 rfl ?_
            refine y_icmp_le 91 dX10_readFigures_83 (by omega) (by omega) (fun h_83 => ?_) (fun h_83 => ?_)
            · refine x_bipush (v := (-2)) dX10_readFigures_91 rfl ?_
              refine p_X10_58 dX10_readFigures_93 ?_
              refine x_vret dX10_readFigures_96 ?_
              have hz : fgn T a = i := fgn_eq (by omega) hfg (by
                first
                  | (left; omega)
                  | (right
                     have z1 : ¬ a + i < T.1 := by omega
                     simp [fg, z1])
                  | (right
                     have z2 := h_37
                     unfold fg
                     rw [z2]
                     simp))
              have hi1 : 1 ≤ i := by have := fgn_1 h0; omega
              have hat2 : a < T.1 := (fg_lt h0).1
              refine ⟨rfl, ⟨(hB.up (by decide)).up (by decide), ?_, ?_, ?_, fun h257 => ?_, by omega⟩, hF1.up.up⟩
              · rw [up1_at, if_neg (by omega), up1_at, if_neg (by omega)]; exact hat
              · rw [up1_at, if_pos ⟨rfl, rfl⟩]
                unfold tcd
                rw [if_neg (by omega), if_neg (by omega), hz]
                first
                  | (rw [if_pos (by omega)]; rfl)
                  | (rw [if_neg (by omega)]; rfl)
              · rw [up1_at, if_neg (by omega), up1_at, if_pos ⟨rfl, rfl⟩]
                unfold tln
                rw [if_neg (by omega), if_neg (by omega), hz, Nat.add_sub_cancel_left]
              · rw [up1_at, if_neg (by omega), up1_at, if_neg (by omega), hval]
                unfold tvl
                rw [hz]
            · refine x_bipush (v := (-3)) dX10_readFigures_86 rfl ?_
              refine x_goto 93 dX10_readFigures_88 ?_
              refine p_X10_58 dX10_readFigures_93 ?_
              refine x_vret dX10_readFigures_96 ?_
              have hz : fgn T a = i := fgn_eq (by omega) hfg (by
                first
                  | (left; omega)
                  | (right
                     have z1 : ¬ a + i < T.1 := by omega
                     simp [fg, z1])
                  | (right
                     have z2 := h_37
                     unfold fg
                     rw [z2]
                     simp))
              have hi1 : 1 ≤ i := by have := fgn_1 h0; omega
              have hat2 : a < T.1 := (fg_lt h0).1
              refine ⟨rfl, ⟨(hB.up (by decide)).up (by decide), ?_, ?_, ?_, fun h257 => ?_, by omega⟩, hF1.up.up⟩
              · rw [up1_at, if_neg (by omega), up1_at, if_neg (by omega)]; exact hat
              · rw [up1_at, if_pos ⟨rfl, rfl⟩]
                unfold tcd
                rw [if_neg (by omega), if_neg (by omega), hz]
                first
                  | (rw [if_pos (by omega)]; rfl)
                  | (rw [if_neg (by omega)]; rfl)
              · rw [up1_at, if_neg (by omega), up1_at, if_pos ⟨rfl, rfl⟩]
                unfold tln
                rw [if_neg (by omega), if_neg (by omega), hz, Nat.add_sub_cancel_left]
              · rw [up1_at, if_neg (by omega), up1_at, if_neg (by omega), hval]
                unfold tvl
                rw [hz]
          · refine x_aload_n dX10_readFigures_40 rfl ?_
            refine x_aload_n dX10_readFigures_41 rfl ?_
            refine g_X10_73 dX10_readFigures_42 ?_
            rw [hval]
            refine x_bipush (v := nI 10) dX10_readFigures_45 rfl ?_
            refine y_imul dX10_readFigures_47 ?_
            refine x_aload_n dX10_readFigures_48 rfl ?_
            refine g_X10_9 dX10_readFigures_49 ?_
            refine x_iload_n dX10_readFigures_52 rfl ?_
            refine x_ial dX10_readFigures_53 (⟨by decide, rfl, rfl, by decide⟩ : Ar 3 100) (by omega) ?_
            rw [hB.2 _ (by omega)]
            have hby := hT.2 (a + i) (by omega)
            refine y_iadd dX10_readFigures_54 ?_
            refine x_bipush (v := nI 48) dX10_readFigures_55 rfl ?_
            refine y_isub dX10_readFigures_57 (by have z := h_37; simp at z; omega) ?_
            refine p_X10_73 dX10_readFigures_58 ?_
            refine y_iinc dX10_readFigures_61 rfl ?_
            refine x_goto 10 dX10_readFigures_64 ?_
            have hfi : fg T (a + i) = true := by unfold fg; rw [decide_eq_true (by omega), h_37]; rfl
            exact ih (i + 1) _ ⟨by omega, hB.up (by decide), by rw [up1_at, if_neg (by omega)]; exact hat, by rw [up1_at, if_pos ⟨rfl, rfl⟩]; rfl, fun j hj => (by by_cases e1 : j = i; (subst e1; exact hfi); exact hfg j (by omega)), hF1.up⟩
  refine x_aload_n dX10_readFigures_0 rfl ?_
  refine g_X10_19 dX10_readFigures_1 ?_
  rw [hat]
  refine x_istore_n dX10_readFigures_4 ?_
  refine x_aload_n dX10_readFigures_5 rfl ?_
  refine y_iconst (a := 0) dX10_readFigures_6 rfl ?_
  refine p_X10_73 dX10_readFigures_7 ?_
  exact key 3 0 _ ⟨rfl, hB.up (by decide), by rw [up1_at, if_neg (by omega)]; exact hat, by rw [up1_at, if_pos ⟨rfl, rfl⟩]; rfl, fun j hj => absurd hj (Nat.not_lt_zero _), F2.rf.up⟩
set_option maxRecDepth 100000 in
set_option maxHeartbeats 4000000 in
theorem c_next {Ω : Om} {l : Launch} {M : Mem} {T : Tp} (hT : TW T) (hB : TbR M T) {a d : Nat} (hat : M.1 2 2 = nI a) (hd : M.1 2 5 = nI d) (had : a + d ≤ T.1) : Ct Ω l yX10_next cX10_next 1 3 none [.ref (Ω.2.2 2)] M (fun ro M' => ro = none ∧ TkR M' T (a + d) ∧ F2 M M') := by
  have hL49 : Lk 49 := Lk49
  have hL57 : Lk 57 := Lk57
  have hT1 := hT.1
  have hB2 : TbR (up1 (up1 M 2 2 (nI (a + d))) 2 5 (nI 1)) T := (hB.up (by decide)).up (by decide)
  refine ct_of (by decide) (Nat.le_of_ble_eq_true rfl) ?_
  intro p e R s m args below meth c
  refine x_aload_n dX10_next_0 rfl ?_
  refine x_dup dX10_next_1 rfl ?_
  refine g_X10_19 dX10_next_2 ?_
  rw [hat]
  refine x_aload_n dX10_next_5 rfl ?_
  refine g_X10_22 dX10_next_6 ?_
  rw [hd]
  refine y_iadd dX10_next_9 ?_
  refine p_X10_19 dX10_next_10 ?_
  refine x_aload_n dX10_next_13 rfl ?_
  refine y_iconst (a := 1) dX10_next_14 rfl ?_
  refine p_X10_22 dX10_next_15 ?_
  refine x_aload_n dX10_next_18 rfl ?_
  refine g_X10_19 dX10_next_19 ?_
  rw [(show (up1 (up1 M 2 2 (nI (a + d))) 2 5 (nI 1)).1 2 2 = nI (a + d) from by rw [up1_at, if_neg (by omega), up1_at, if_pos ⟨rfl, rfl⟩])]
  refine x_aload_n dX10_next_22 rfl ?_
  refine g_X10_15 dX10_next_23 ?_
  rw [hB2.1]
  refine y_icmp_lt 42 dX10_next_26 (by omega) (by omega) (fun h_26 => ?_) (fun h_26 => ?_)
  · refine x_aload_n dX10_next_42 rfl ?_
    refine g_X10_9 dX10_next_43 ?_
    refine x_aload_n dX10_next_46 rfl ?_
    refine g_X10_19 dX10_next_47 ?_
    rw [(show (up1 (up1 M 2 2 (nI (a + d))) 2 5 (nI 1)).1 2 2 = nI (a + d) from by rw [up1_at, if_neg (by omega), up1_at, if_pos ⟨rfl, rfl⟩])]
    refine x_ial dX10_next_50 (⟨by decide, rfl, rfl, by decide⟩ : Ar 3 100) (by omega) ?_
    rw [hB2.2 _ (by omega)]
    have hby := hT.2 (a + d) (by omega)
    refine q_X10_83 (c_isFigure (by omega)) dX10_next_51 rfl ?_
    rintro _ _ ⟨rfl, rfl⟩
    refine z_if_eq 64 dX10_next_54 (fun h_54 => ?_) (fun h_54 => ?_)
    · refine x_aload_n dX10_next_64 rfl ?_
      refine x_aload_n dX10_next_65 rfl ?_
      refine g_X10_9 dX10_next_66 ?_
      refine x_aload_n dX10_next_69 rfl ?_
      refine g_X10_19 dX10_next_70 ?_
      rw [(show (up1 (up1 M 2 2 (nI (a + d))) 2 5 (nI 1)).1 2 2 = nI (a + d) from by rw [up1_at, if_neg (by omega), up1_at, if_pos ⟨rfl, rfl⟩])]
      refine x_ial dX10_next_73 (⟨by decide, rfl, rfl, by decide⟩ : Ar 3 100) (by omega) ?_
      rw [hB2.2 _ (by omega)]
      have hby := hT.2 (a + d) (by omega)
      refine p_X10_58 dX10_next_74 ?_
      refine x_vret dX10_next_77 ?_
      first
        | exact ⟨rfl, hK3, F2.rf.up.up.tr hF3⟩
        | (refine ⟨rfl, ⟨(hB2.up (by decide)).up (by decide), ?_, ?_, ?_, fun h257 => ?_, had⟩, F2.rf.up.up.up.up⟩
           · rw [up1_at, if_neg (by omega), up1_at, if_neg (by omega), up1_at, if_neg (by omega), up1_at, if_pos ⟨rfl, rfl⟩]
           · rw [up1_at, if_neg (by omega), up1_at, if_pos ⟨rfl, rfl⟩]
             unfold tcd
             rw [if_pos (by omega)]; rfl
           · rw [up1_at, if_pos ⟨rfl, rfl⟩]
             unfold tln
             rw [if_pos (by omega)]
           · exfalso
             unfold tcd at h257
             rw [if_pos (by omega)] at h257
             omega)
        | (have hf0 : fg T (a + d) = false := by unfold fg; rw [h_54]; simp
           have hf1 := fgn_0 hf0
           have hbl := hT.2 (a + d) (by omega)
           refine ⟨rfl, ⟨hB2.up (by decide), ?_, ?_, ?_, fun h257 => ?_, had⟩, F2.rf.up.up.up⟩
           · rw [up1_at, if_neg (by omega)]
             exact (by rw [up1_at, if_neg (by omega), up1_at, if_pos ⟨rfl, rfl⟩])
           · rw [up1_at, if_pos ⟨rfl, rfl⟩]
             unfold tcd
             rw [if_neg (by omega), if_pos hf1, tokI_nI hbl]
           · rw [up1_at, if_neg (by omega), up1_at, if_pos ⟨rfl, rfl⟩]
             unfold tln
             rw [if_neg (by omega), if_pos hf1]
           · exfalso
             unfold tcd at h257
             rw [if_neg (by omega), if_pos hf1] at h257
             omega)
    · have h0 : fg T (a + d) = true := by unfold fg; rw [decide_eq_true (by omega), h_54]; rfl
      refine x_aload_n dX10_next_57 rfl ?_
      refine q_X10_86 (c_readFigures hT hB2 (show (up1 (up1 M 2 2 (nI (a + d))) 2 5 (nI 1)).1 2 2 = nI (a + d) from by rw [up1_at, if_neg (by omega), up1_at, if_pos ⟨rfl, rfl⟩]) h0) dX10_next_58 rfl ?_
      rintro _ M3 ⟨rfl, hK3, hF3⟩
      refine x_goto 77 dX10_next_61 ?_
      refine x_vret dX10_next_77 ?_
      first
        | exact ⟨rfl, hK3, F2.rf.up.up.tr hF3⟩
        | (refine ⟨rfl, ⟨(hB2.up (by decide)).up (by decide), ?_, ?_, ?_, fun h257 => ?_, had⟩, F2.rf.up.up.up.up⟩
           · rw [up1_at, if_neg (by omega), up1_at, if_neg (by omega), up1_at, if_neg (by omega), up1_at, if_pos ⟨rfl, rfl⟩]
           · rw [up1_at, if_neg (by omega), up1_at, if_pos ⟨rfl, rfl⟩]
             unfold tcd
             rw [if_pos (by omega)]; rfl
           · rw [up1_at, if_pos ⟨rfl, rfl⟩]
             unfold tln
             rw [if_pos (by omega)]
           · exfalso
             unfold tcd at h257
             rw [if_pos (by omega)] at h257
             omega)
        | (have hf0 : fg T (a + d) = false := by unfold fg; rw [h_54]; simp
           have hf1 := fgn_0 hf0
           have hbl := hT.2 (a + d) (by omega)
           refine ⟨rfl, ⟨hB2.up (by decide), ?_, ?_, ?_, fun h257 => ?_, had⟩, F2.rf.up.up.up⟩
           · rw [up1_at, if_neg (by omega)]
             exact (by rw [up1_at, if_neg (by omega), up1_at, if_pos ⟨rfl, rfl⟩])
           · rw [up1_at, if_pos ⟨rfl, rfl⟩]
             unfold tcd
             rw [if_neg (by omega), if_pos hf1, tokI_nI hbl]
           · rw [up1_at, if_neg (by omega), up1_at, if_pos ⟨rfl, rfl⟩]
             unfold tln
             rw [if_neg (by omega), if_pos hf1]
           · exfalso
             unfold tcd at h257
             rw [if_neg (by omega), if_pos hf1] at h257
             omega)
  · refine x_aload_n dX10_next_29 rfl ?_
    refine x_iconst (v := -1) dX10_next_30 rfl ?_
    refine p_X10_58 dX10_next_31 ?_
    refine x_aload_n dX10_next_34 rfl ?_
    refine y_iconst (a := 0) dX10_next_35 rfl ?_
    refine p_X10_22 dX10_next_36 ?_
    refine x_goto 77 dX10_next_39 ?_
    refine x_vret dX10_next_77 ?_
    first
      | exact ⟨rfl, hK3, F2.rf.up.up.tr hF3⟩
      | (refine ⟨rfl, ⟨(hB2.up (by decide)).up (by decide), ?_, ?_, ?_, fun h257 => ?_, had⟩, F2.rf.up.up.up.up⟩
         · rw [up1_at, if_neg (by omega), up1_at, if_neg (by omega), up1_at, if_neg (by omega), up1_at, if_pos ⟨rfl, rfl⟩]
         · rw [up1_at, if_neg (by omega), up1_at, if_pos ⟨rfl, rfl⟩]
           unfold tcd
           rw [if_pos (by omega)]; rfl
         · rw [up1_at, if_pos ⟨rfl, rfl⟩]
           unfold tln
           rw [if_pos (by omega)]
         · exfalso
           unfold tcd at h257
           rw [if_pos (by omega)] at h257
           omega)
      | (have hf0 : fg T (a + d) = false := by unfold fg; rw [h_54]; simp
         have hf1 := fgn_0 hf0
         have hbl := hT.2 (a + d) (by omega)
         refine ⟨rfl, ⟨hB2.up (by decide), ?_, ?_, ?_, fun h257 => ?_, had⟩, F2.rf.up.up.up⟩
         · rw [up1_at, if_neg (by omega)]
           exact (by rw [up1_at, if_neg (by omega), up1_at, if_pos ⟨rfl, rfl⟩])
         · rw [up1_at, if_pos ⟨rfl, rfl⟩]
           unfold tcd
           rw [if_neg (by omega), if_pos hf1, tokI_nI hbl]
         · rw [up1_at, if_neg (by omega), up1_at, if_pos ⟨rfl, rfl⟩]
           unfold tln
           rw [if_neg (by omega), if_pos hf1]
         · exfalso
           unfold tcd at h257
           rw [if_neg (by omega), if_pos hf1] at h257
           omega)
