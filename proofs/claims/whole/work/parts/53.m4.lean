/-! THE REFERENCE: its state holds σ; queries (laid by gen_m4.py) -/
def FC (a : Nat) (M M' : Mem) : Prop := M'.2 = M.2 ∧ ∀ c, c ≠ a → M'.1 c = M.1 c
theorem FC.rf {a : Nat} {M : Mem} : FC a M M := ⟨rfl, fun _ _ => rfl⟩
theorem FC.tr {a : Nat} {M M1 M2 : Mem} (h : FC a M M1) (h2 : FC a M1 M2) : FC a M M2 := ⟨h2.1.trans h.1, fun c hc => (h2.2 c hc).trans (h.2 c hc)⟩
theorem FC.up {a : Nat} {M M1 : Mem} (h : FC a M M1) {k : Nat} {x : Int32} : FC a M (up1 M1 a k x) := ⟨h.1, fun d hd => by rw [up1_ne M1 k x hd]; exact h.2 d hd⟩
theorem MsR.fc {M M' : Mem} {v : Nat → Nat} {a : Nat} (h : MsR M v) (hF : FC a M M') (ha : a ≠ 38) : MsR M' v := fun k hk => by rw [hF.2 38 (Ne.symm ha)]; exact h k hk
theorem AsR.fc {M M' : Mem} {v : Nat → Nat} {a : Nat} (h : AsR M v) (hF : FC a M M') (ha : a ≠ 43) : AsR M' v := fun k hk => by rw [hF.2 43 (Ne.symm ha)]; exact h k hk
def FrC (M M' : Mem) : Prop := M'.2 = M.2 ∧ ∀ c, (c < 34 ∨ 49 ≤ c) → M'.1 c = M.1 c
theorem FrC.rf {M : Mem} : FrC M M := ⟨rfl, fun _ _ => rfl⟩
theorem FrC.tr {M M1 M2 : Mem} (h : FrC M M1) (h2 : FrC M1 M2) : FrC M M2 := ⟨h2.1.trans h.1, fun c hc => (h2.2 c hc).trans (h.2 c hc)⟩
theorem FrC.up {M M1 : Mem} (h : FrC M M1) {a k : Nat} {x : Int32} (ha : 34 ≤ a ∧ a < 49) : FrC M (up1 M1 a k x) := ⟨h.1, fun d hd => by rw [up1_ne M1 k x (by omega)]; exact h.2 d hd⟩
theorem FrC.fc {M M1 M2 : Mem} (h : FrC M M1) {a : Nat} (h2 : FC a M1 M2) (ha : 34 ≤ a ∧ a < 49) : FrC M M2 := ⟨h2.1.trans h.1, fun d hd => by rw [h2.2 d (by omega)]; exact h.2 d hd⟩
theorem FrC.fs {M M1 M2 : Mem} (h : FrC M M1) (h2 : FS M1 M2) : FrC M M2 := ⟨h2.1.trans h.1, fun d hd => by rw [h2.2 d (by omega)]; exact h.2 d hd⟩
def FQ (M M' : Mem) : Prop := M'.2 = M.2 ∧ ∀ c, c ≠ 38 → c ≠ 43 → c ≠ 44 → c ≠ 45 → M'.1 c = M.1 c
theorem FQ.rf {M : Mem} : FQ M M := ⟨rfl, fun _ _ _ _ _ => rfl⟩
theorem FQ.s {M M1 M2 : Mem} (h : FQ M M1) (h2 : FS M1 M2) : FQ M M2 := ⟨h2.1.trans h.1, fun c a b d e => by rw [h2.2 c a]; exact h.2 c a b d e⟩
theorem FQ.c {M M1 M2 : Mem} (h : FQ M M1) {a : Nat} (h2 : FC a M1 M2) (ha : a = 43 ∨ a = 44 ∨ a = 45) : FQ M M2 := ⟨h2.1.trans h.1, fun c b1 b2 d e => by rw [h2.2 c (by omega)]; exact h.2 c b1 b2 d e⟩
theorem FQ.tr {M M1 M2 : Mem} (h : FQ M M1) (h2 : FQ M1 M2) : FQ M M2 := ⟨h2.1.trans h.1, fun c a b d e => (h2.2 c a b d e).trans (h.2 c a b d e)⟩
theorem FQ.fr {M M1 : Mem} (h : FQ M M1) : FrC M M1 := ⟨h.1, fun c hc => h.2 c (by omega) (by omega) (by omega) (by omega)⟩
def IMr (M : Mem) (σ : Sg) : Prop := ∀ r, r < 8 → M.1 35 r = σ.ln r ∧ M.1 36 r = σ.sz r ∧ ∀ j, j < 40 → M.1 37 (40 * r + j) = σ.it r j
def IMt (M : Mem) (σ : Sg) : Prop := M.1 34 8 = nI σ.tn ∧ ∀ j, j < σ.tn → M.1 40 j = nI (σ.tb j)
def IMa (M : Mem) (σ : Sg) : Prop := M.1 34 18 = nI σ.am ∧ ∀ i, i < σ.am → ∀ k, k < 45 → M.1 42 (45 * i + k) = nI (σ.ah i k)
def IMi (M : Mem) (σ : Sg) : Prop := ∀ i, i < 2 → M.1 46 i = bI (σ.im i).isSome ∧ ∀ w, σ.im i = some w → ∀ k, k < 45 → M.1 47 (45 * i + k) = nI (w k)
def IMc (M : Mem) (σ : Sg) : Prop := M.1 34 25 = nI σ.rn ∧ ∀ j, j < σ.rn → M.1 48 j = σ.rt j
def IM (M : Mem) (σ : Sg) : Prop := IMr M σ ∧ M.1 34 3 = σ.st ∧ M.1 34 4 = bI (decide (¬ σ.v 0 = 0)) ∧ MsR M σ.v ∧ IMt M σ ∧ M.1 34 9 = σ.fl ∧ IMa M σ ∧ IMi M σ ∧ IMc M σ
section
variable {M M' : Mem} {σ : Sg}
theorem IM.rows (h : IM M σ) : IMr M σ := h.1
theorem IM.st (h : IM M σ) : M.1 34 3 = σ.st := h.2.1
theorem IM.there (h : IM M σ) : M.1 34 4 = bI (decide (¬ σ.v 0 = 0)) := h.2.2.1
theorem IM.ms (h : IM M σ) : MsR M σ.v := h.2.2.2.1
theorem IM.tape (h : IM M σ) : IMt M σ := h.2.2.2.2.1
theorem IM.fl (h : IM M σ) : M.1 34 9 = σ.fl := h.2.2.2.2.2.1
theorem IM.acts (h : IM M σ) : IMa M σ := h.2.2.2.2.2.2.1
theorem IM.img (h : IM M σ) : IMi M σ := h.2.2.2.2.2.2.2.1
theorem IM.tr (h : IM M σ) : IMc M σ := h.2.2.2.2.2.2.2.2
theorem IM.same (h : IM M σ) (e : ∀ c, (c = 34 ∨ c = 35 ∨ c = 36 ∨ c = 37 ∨ c = 40 ∨ c = 42 ∨ c = 46 ∨ c = 47 ∨ c = 48) → M'.1 c = M.1 c) (hS : MsR M' σ.v) : IM M' σ := by
  obtain ⟨h1, h2, h3, h4, h5, h6, h7, h8, h9⟩ := h
  refine ⟨?_, ?_, ?_, hS, ?_, ?_, ?_, ?_, ?_⟩
  · intro r hr; rw [e 35 (by omega), e 36 (by omega), e 37 (by omega)]; exact h1 r hr
  · rw [e 34 (by omega)]; exact h2
  · rw [e 34 (by omega)]; exact h3
  · unfold IMt; rw [e 34 (by omega), e 40 (by omega)]; exact h5
  · rw [e 34 (by omega)]; exact h6
  · unfold IMa; rw [e 34 (by omega), e 42 (by omega)]; exact h7
  · unfold IMi; rw [e 46 (by omega), e 47 (by omega)]; exact h8
  · unfold IMc; rw [e 34 (by omega), e 48 (by omega)]; exact h9
theorem IM.q (h : IM M σ) (hF : FQ M M') (hS : MsR M' σ.v) : IM M' σ ∧ FrC M M' := ⟨h.same (fun c hc => hF.2 c (by omega) (by omega) (by omega) (by omega)) hS, hF.fr⟩
theorem IM.keep (h : IM M σ) (hF : FrM M M') : IM M' σ := h.same (fun c hc => hF c (by omega) (by omega)) (fun k hk => by rw [hF 38 (by decide) (by decide)]; exact h.ms k hk)
theorem IM.setSt (h : IM M σ) (x : Int32) : IM (up1 M 34 3 x) (σ.uSt x) ∧ FrC M (up1 M 34 3 x) := by
  obtain ⟨h1, h2, h3, h4, h5, h6, h7, h8, h9⟩ := h
  refine ⟨⟨?_, ?_, ?_, ?_, ?_, ?_, ?_, ?_, ?_⟩, FrC.rf.up (by decide)⟩
  · intro r hr; rw [up1_ne _ _ _ (by decide), up1_ne _ _ _ (by decide), up1_ne _ _ _ (by decide)]; exact h1 r hr
  · rw [up1_at, if_pos ⟨rfl, rfl⟩]; rfl
  · rw [up1_at, if_neg (by decide)]; exact h3
  · intro k hk; rw [up1_ne _ _ _ (by decide)]; exact h4 k hk
  · unfold IMt; rw [up1_at, if_neg (by decide), up1_ne _ _ _ (by decide)]; exact h5
  · rw [up1_at, if_neg (by decide)]; exact h6
  · unfold IMa; rw [up1_at, if_neg (by decide), up1_ne _ _ _ (by decide)]; exact h7
  · intro i hi; rw [up1_ne _ _ _ (by decide), up1_ne _ _ _ (by decide)]; exact h8 i hi
  · unfold IMc; rw [up1_at, if_neg (by decide), up1_ne _ _ _ (by decide)]; exact h9
end
theorem brkS_bit (v : Nat → Nat) (k : Nat) : (brkS v).testBit k = decide (k < v 0 ∧ v (6 + k) = 0) := orN_bit k (v 0)
theorem and_bit0 (a r : Nat) : (!decide (a &&& 2 ^ r = 0)) = a.testBit r := by
  cases h : a.testBit r with
  | false =>
    have : a &&& 2 ^ r = 0 := by
      apply Nat.eq_of_testBit_eq
      intro i
      rw [Nat.testBit_and, Nat.testBit_two_pow, Nat.zero_testBit]
      by_cases e : r = i
      · subst e; simp [h]
      · simp [e]
    simp [this]
  | true =>
    have : ¬ a &&& 2 ^ r = 0 := fun z => by
      have q : (a &&& 2 ^ r).testBit r = true := by rw [Nat.testBit_and, Nat.testBit_two_pow]; simp [h]
      rw [z, Nat.zero_testBit] at q
      cases q
    simp [this]
theorem hrV_dec {v : Nat → Nat} (hw : Wv v) {r : Nat} (hr : r < v 0) (hz : v (6 + r) = 0) : hrV v (6 + r) = 0 := by
  have hn := hw.nums
  have e : ∀ j, j ≠ 5 → j < 33 → mvN v (v 2) j = v j := fun j h5 hj => mvN_ne _ h5 (Or.inl hj)
  unfold hrV
  rw [sv_ne _ _ (by omega)]
  have h0 := e 0 (by omega) (by omega)
  have := wrN_dec (hw.mvN (v 2) (Nat.le_refl _)) (r := r) (by omega) (by rw [e _ (by omega) (by omega)]; exact hz) (v 0) (by omega)
  exact this
theorem hrs_dec {v : Nat → Nat} (hw : Wv v) {r : Nat} (hr : r < v 0) (hz : v (6 + r) = 0) : ∀ n, v 3 + n ≤ 5000 → hrs v n (6 + r) = 0
  | 0, _ => hz
  | n + 1, h => by
    have h1 := hrs_ne hw n (by omega)
    have h0 := h1.2.1 0 (by omega) (by omega)
    exact hrV_dec h1.1 (by omega) (hrs_dec hw hr hz n (by omega))
theorem brk_more {v : Nat → Nat} (hw : Wv v) {n : Nat} (h : v 3 + n ≤ 5000) : (brkS (hrs v n) &&& (511 ^^^ brkS v) = brkS (hrs v n) &&& snd v) ∧ (brkS (hrs v n) = brkS v ↔ brkS (hrs v n) &&& snd v = 0) := by
  have h1 := hrs_ne hw n h
  have h0 := h1.2.1 0 (by omega) (by omega)
  have hn := hw.nums
  have k1 : ∀ i, (brkS (hrs v n)).testBit i = decide (i < v 0 ∧ hrs v n (6 + i) = 0) := fun i => by rw [brkS_bit, h0]
  have k2 : ∀ i, (brkS v).testBit i = true → (brkS (hrs v n)).testBit i = true := fun i hi => by
    rw [brkS_bit] at hi
    simp only [decide_eq_true_eq] at hi
    rw [k1]
    simp only [decide_eq_true_eq]
    exact ⟨hi.1, hrs_dec hw hi.1 hi.2 n h⟩
  have k3 : ∀ i, (snd v).testBit i = (decide (i < v 0) && !(brkS v).testBit i) := fun i => by
    unfold snd
    rw [Nat.testBit_and, Nat.testBit_xor, Nat.testBit_two_pow_sub_one, show (511 : Nat) = 2 ^ 9 - 1 from rfl, Nat.testBit_two_pow_sub_one]
    by_cases hi : i < v 0
    · have : i < 9 := by omega
      simp [hi, this]
    · simp [hi]
  have e1 : brkS (hrs v n) &&& (511 ^^^ brkS v) = brkS (hrs v n) &&& snd v := by
    apply Nat.eq_of_testBit_eq
    intro i
    rw [Nat.testBit_and, Nat.testBit_and, k3, Nat.testBit_xor, show (511 : Nat) = 2 ^ 9 - 1 from rfl, Nat.testBit_two_pow_sub_one, k1]
    by_cases hi : i < v 0
    · have : i < 9 := by omega
      simp [hi, this]
    · simp [hi]
  refine ⟨e1, fun e => ?_, fun e => ?_⟩
  · rw [e]
    apply Nat.eq_of_testBit_eq
    intro i
    rw [Nat.testBit_and, k3, Nat.zero_testBit]
    cases (brkS v).testBit i <;> simp
  · apply Nat.eq_of_testBit_eq
    intro i
    cases hb : (brkS v).testBit i with
    | true => exact k2 i hb
    | false =>
      have q : (brkS (hrs v n) &&& snd v).testBit i = false := by rw [e, Nat.zero_testBit]
      rw [Nat.testBit_and, k3, hb] at q
      rw [k1] at q ⊢
      by_cases hi : i < v 0
      · simpa [hi] using q
      · simp [hi]
theorem lob_low : ∀ a, a < 512 → ¬ a = 0 → a.testBit (lob a 9) = true ∧ lob a 9 < 9 ∧ ∀ i, i < lob a 9 → a.testBit i = false := by decide +kernel

set_option maxRecDepth 100000 in
set_option maxHeartbeats 4000000 in
theorem m_putAside {Ω : Om} {l : Launch} {M : Mem} {v : Nat → Nat} (hS : MsR M v)  : Ct Ω l yX12_putAside cX12_putAside 2 1 none [.ref (Ω.2.2 34)] M (fun ro M' => ro = none ∧ AsR M' v ∧ FC 43 M M') := by
  refine ct_of (by decide) (Nat.le_of_ble_eq_true rfl) ?_
  intro p e R s m args below meth c
  have key : ∀ (k : Nat) (h : Nat) (M1 : Mem), h + k = 45 ∧ (∀ j, j < h → M1.1 43 j = nI (v j)) ∧ FC 43 M M1 → X (mkG p l e R s m args below meth c Ω (fun ro M' => ro = none ∧ AsR M' v ∧ FC 43 M M')) Ω RX12 cX12_putAside 2 1 none 2 [some (.ref (Ω.2.2 34)), some (.int (nI h))] [] M1 := by
    intro k
    induction k with
    | zero =>
      intro h M1 hk
      obtain ⟨hk, hA, hF⟩ := hk
      have hS1 := hS.fc hF (by decide)
      refine x_iload_n dX12_putAside_2 rfl ?_
      refine x_bipush (v := nI 45) dX12_putAside_3 rfl ?_
      refine y_icmp_ge 26 dX12_putAside_5 (by omega) (by omega) (fun h_5 => ?_) (fun h_5 => ?_)
      · refine x_vret dX12_putAside_26 ?_
        exact ⟨rfl, fun j hj => hA j (by omega), hF⟩
      · exfalso; omega
    | succ k ih =>
      intro h M1 hk
      obtain ⟨hk, hA, hF⟩ := hk
      have hS1 := hS.fc hF (by decide)
      refine x_iload_n dX12_putAside_2 rfl ?_
      refine x_bipush (v := nI 45) dX12_putAside_3 rfl ?_
      refine y_icmp_ge 26 dX12_putAside_5 (by omega) (by omega) (fun h_5 => ?_) (fun h_5 => ?_)
      · refine x_vret dX12_putAside_26 ?_
        exact ⟨rfl, fun j hj => hA j (by omega), hF⟩
      · refine x_aload_n dX12_putAside_8 rfl ?_
        refine g_X12_34 dX12_putAside_9 ?_
        refine x_iload_n dX12_putAside_12 rfl ?_
        refine x_aload_n dX12_putAside_13 rfl ?_
        refine g_X12_19 dX12_putAside_14 ?_
        refine x_iload_n dX12_putAside_17 rfl ?_
        refine x_ial dX12_putAside_18 (⟨by decide, rfl, rfl, by decide⟩ : Ar 38 45) (by omega) ?_
        rw [hS1.at (by omega)]
        refine x_ias dX12_putAside_19 (⟨by decide, rfl, rfl, by decide⟩ : Ar 43 45) (by omega) ?_
        refine y_iinc dX12_putAside_20 rfl ?_
        refine x_goto 2 dX12_putAside_23 ?_
        refine ih (h + 1) _ ⟨by omega, fun j hj => ?_, hF.up⟩
        rw [up1_at]
        by_cases z : j = h
        · subst z; simp
        · rw [if_neg (fun q => z q.2)]; exact hA j (by omega)
  refine y_iconst (a := 0) dX12_putAside_0 rfl ?_
  refine x_istore_n dX12_putAside_1 ?_
  exact key _ 0 _ ⟨Nat.zero_add _, fun j hj => absurd hj (Nat.not_lt_zero _), FC.rf⟩
set_option maxRecDepth 100000 in
set_option maxHeartbeats 4000000 in
theorem m_takeBack {Ω : Om} {l : Launch} {M : Mem} {v : Nat → Nat} (hA : AsR M v)  : Ct Ω l yX12_takeBack cX12_takeBack 2 1 none [.ref (Ω.2.2 34)] M (fun ro M' => ro = none ∧ MsR M' v ∧ FS M M') := by
  refine ct_of (by decide) (Nat.le_of_ble_eq_true rfl) ?_
  intro p e R s m args below meth c
  have key : ∀ (k : Nat) (h : Nat) (M1 : Mem), h + k = 45 ∧ (∀ j, j < h → M1.1 38 j = nI (v j)) ∧ FS M M1 → X (mkG p l e R s m args below meth c Ω (fun ro M' => ro = none ∧ MsR M' v ∧ FS M M')) Ω RX12 cX12_takeBack 2 1 none 2 [some (.ref (Ω.2.2 34)), some (.int (nI h))] [] M1 := by
    intro k
    induction k with
    | zero =>
      intro h M1 hk
      obtain ⟨hk, hB, hF⟩ := hk
      have hA1 := hA.keep hF
      refine x_iload_n dX12_takeBack_2 rfl ?_
      refine x_bipush (v := nI 45) dX12_takeBack_3 rfl ?_
      refine y_icmp_ge 26 dX12_takeBack_5 (by omega) (by omega) (fun h_5 => ?_) (fun h_5 => ?_)
      · refine x_vret dX12_takeBack_26 ?_
        exact ⟨rfl, fun j hj => hB j (by omega), hF⟩
      · exfalso; omega
    | succ k ih =>
      intro h M1 hk
      obtain ⟨hk, hB, hF⟩ := hk
      have hA1 := hA.keep hF
      refine x_iload_n dX12_takeBack_2 rfl ?_
      refine x_bipush (v := nI 45) dX12_takeBack_3 rfl ?_
      refine y_icmp_ge 26 dX12_takeBack_5 (by omega) (by omega) (fun h_5 => ?_) (fun h_5 => ?_)
      · refine x_vret dX12_takeBack_26 ?_
        exact ⟨rfl, fun j hj => hB j (by omega), hF⟩
      · refine x_aload_n dX12_takeBack_8 rfl ?_
        refine g_X12_19 dX12_takeBack_9 ?_
        refine x_iload_n dX12_takeBack_12 rfl ?_
        refine x_aload_n dX12_takeBack_13 rfl ?_
        refine g_X12_34 dX12_takeBack_14 ?_
        refine x_iload_n dX12_takeBack_17 rfl ?_
        refine x_ial dX12_takeBack_18 (⟨by decide, rfl, rfl, by decide⟩ : Ar 43 45) (by omega) ?_
        rw [hA1.at (by omega)]
        refine x_ias dX12_takeBack_19 (⟨by decide, rfl, rfl, by decide⟩ : Ar 38 45) (by omega) ?_
        refine y_iinc dX12_takeBack_20 rfl ?_
        refine x_goto 2 dX12_takeBack_23 ?_
        refine ih (h + 1) _ ⟨by omega, fun j hj => ?_, hF.up⟩
        rw [up1_at]
        by_cases z : j = h
        · subst z; simp
        · rw [if_neg (fun q => z q.2)]; exact hB j (by omega)
  refine y_iconst (a := 0) dX12_takeBack_0 rfl ?_
  refine x_istore_n dX12_takeBack_1 ?_
  exact key _ 0 _ ⟨Nat.zero_add _, fun j hj => absurd hj (Nat.not_lt_zero _), FS.rf⟩
set_option maxRecDepth 100000 in
set_option maxHeartbeats 4000000 in
theorem m_goOn {Ω : Om} {l : Launch} {M : Mem} {v : Nat → Nat} (hS : MsR M v) (hI : Iv v) {n : Nat} (hn60 : n ≤ 60) (hh : v 3 ≤ 4000) : Ct Ω l yX12_goOn cX12_goOn 3 9 none [.ref (Ω.2.2 34), .int (nI n)] M (fun ro M' => ro = none ∧ MsR M' (hrs v n) ∧ FS M M') := by
  have hw := hI.1
  have hn := hw.nums
  refine ct_of (by decide) (Nat.le_of_ble_eq_true rfl) ?_
  intro p e R s m args below meth c
  have key : ∀ (k : Nat) (h : Nat) (M1 : Mem), h + k = n ∧ MsR M1 (hrs v h) ∧ FS M M1 → X (mkG p l e R s m args below meth c Ω (fun ro M' => ro = none ∧ MsR M' (hrs v n) ∧ FS M M')) Ω RX12 cX12_goOn 3 9 none 2 [some (.ref (Ω.2.2 34)), some (.int (nI n)), some (.int (nI h))] [] M1 := by
    intro k
    induction k with
    | zero =>
      intro h M1 hk
      obtain ⟨hk, hS1, hF1⟩ := hk
      have hI1 := hrs_Iv hI h (by omega)
      refine x_iload_n dX12_goOn_2 rfl ?_
      refine x_iload_n dX12_goOn_3 rfl ?_
      refine y_icmp_ge 17 dX12_goOn_4 (by omega) (by omega) (fun h_4 => ?_) (fun h_4 => ?_)
      · refine x_vret dX12_goOn_17 ?_
        obtain rfl : h = n := by omega
        exact ⟨rfl, hS1, hF1⟩
      · exfalso; omega
    | succ k ih =>
      intro h M1 hk
      obtain ⟨hk, hS1, hF1⟩ := hk
      have hI1 := hrs_Iv hI h (by omega)
      refine x_iload_n dX12_goOn_2 rfl ?_
      refine x_iload_n dX12_goOn_3 rfl ?_
      refine y_icmp_ge 17 dX12_goOn_4 (by omega) (by omega) (fun h_4 => ?_) (fun h_4 => ?_)
      · refine x_vret dX12_goOn_17 ?_
        obtain rfl : h = n := by omega
        exact ⟨rfl, hS1, hF1⟩
      · refine x_aload_n dX12_goOn_7 rfl ?_
        refine q_X12_203 (m_oneHour hS1 hI1) dX12_goOn_8 rfl ?_
        rintro _ M2 ⟨rfl, hS2, hF2⟩
        refine y_iinc dX12_goOn_11 rfl ?_
        refine x_goto 2 dX12_goOn_14 ?_
        exact ih (h + 1) _ ⟨by omega, hS2, hF1.tr hF2⟩
  refine y_iconst (a := 0) dX12_goOn_0 rfl ?_
  refine x_istore_n dX12_goOn_1 ?_
  exact key _ 0 _ ⟨Nat.zero_add _, hS, FS.rf⟩
set_option maxRecDepth 100000 in
set_option maxHeartbeats 4000000 in
theorem m_isWhat {Ω : Om} {l : Launch} {M : Mem} {x : Int32} : Ct Ω l yX12_isWhat cX12_isWhat 1 2 (some .boolean) [.int x] M (fun ro M' => ro = some (.int (bI (inB x 0 1))) ∧ M = M') := by
  refine ct_of (by decide) (Nat.le_of_ble_eq_true rfl) ?_
  intro p e R s m args below meth c
  refine x_iload_n dX12_isWhat_0 rfl ?_
  refine x_i2l dX12_isWhat_1 ?_
  refine x_lconst (v := lN 0) dX12_isWhat_2 rfl ?_
  refine x_lconst (v := lN 1) dX12_isWhat_3 rfl ?_
  refine q_X12_60 (m_inB (by decide) (by decide)) dX12_isWhat_4 rfl ?_
  rintro _ _ ⟨rfl, rfl⟩
  first | refine z_iret dX12_isWhat_7 ?_ | refine z_iret0 dX12_isWhat_7 ?_ | refine z_iret1 dX12_isWhat_7 ?_
  exact ⟨rfl, rfl⟩
set_option maxRecDepth 100000 in
set_option maxHeartbeats 4000000 in
theorem m_isAboveBy {Ω : Om} {l : Launch} {M : Mem} {v : Nat → Nat} (hS : MsR M v) (hI : Iv v) {u : Nat → Nat} (hA : AsR M u) {g n : Nat} (hg : g < v 2) (hn60 : n ≤ 60) (hh : v 3 ≤ 4000) : Ct Ω l yX12_isAboveBy cX12_isAboveBy 4 10 (some .boolean) [.ref (Ω.2.2 34), .int (nI g), .int (nI n)] M (fun ro M' => ro = some (.int (bI (abv (hrs v n) g))) ∧ MsR M' u ∧ FS M M') := by
  have hw := hI.1
  have hn := hw.nums
  have hne := hrs_ne hw n (by omega)
  refine ct_of (by decide) (Nat.le_of_ble_eq_true rfl) ?_
  intro p e R s m args below meth c
  refine x_aload_n dX12_isAboveBy_0 rfl ?_
  refine x_iload_n dX12_isAboveBy_1 rfl ?_
  refine q_X12_220 (m_goOn hS hI hn60 hh) dX12_isAboveBy_2 rfl ?_
  rintro _ M1 ⟨rfl, hS1, hF1⟩
  refine x_aload_n dX12_isAboveBy_5 rfl ?_
  refine x_iload_n dX12_isAboveBy_6 rfl ?_
  refine q_X12_184 (m_isAbove hS1 hne.1 (by rw [hne.2.1 2 (by omega) (by omega)]; exact hg)) dX12_isAboveBy_7 rfl ?_
  rintro _ _ ⟨rfl, rfl⟩
  refine x_istore_n dX12_isAboveBy_10 ?_
  refine x_aload_n dX12_isAboveBy_11 rfl ?_
  refine q_X12_223 (m_takeBack (hA.keep hF1)) dX12_isAboveBy_12 rfl ?_
  rintro _ M2 ⟨rfl, hS2, hF2⟩
  refine x_iload_n dX12_isAboveBy_15 rfl ?_
  first | refine z_iret dX12_isAboveBy_16 ?_ | refine z_iret0 dX12_isAboveBy_16 ?_ | refine z_iret1 dX12_isAboveBy_16 ?_
  exact ⟨rfl, hS2, hF1.tr hF2⟩
set_option maxRecDepth 100000 in
set_option maxHeartbeats 4000000 in
theorem m_goer {Ω : Om} {l : Launch} {M : Mem} {σ : Sg} (hM : IM M σ) (hW : SgW σ) {x w : Int32} : Ct Ω l yX12_goer cX12_goer 3 3 (some .int) [.ref (Ω.2.2 34), .int x, .int w] M (fun ro M' => ro = some (.int (R_goer σ.v x w)) ∧ IM M' σ ∧ FrC M M') := by
  have hS := hM.ms
  have hLv : Lv σ.v := hW.2.2.1
  have hw := hLv.wv
  have hn := hw.nums
  have hth := hM.there
  refine ct_of (by decide) (Nat.le_of_ble_eq_true rfl) ?_
  intro p e R s m args below meth c
  refine x_aload_n dX12_goer_0 rfl ?_
  refine x_iload_n dX12_goer_1 rfl ?_
  refine q_X12_209 (m_isGoer hS (by omega)) dX12_goer_2 rfl ?_
  rintro _ _ ⟨rfl, rfl⟩
  refine z_if_ne 11 dX12_goer_5 (fun h_5 => ?_) (fun h_5 => ?_)
  · obtain ⟨g, hg, rfl⟩ := inR_nI h_5 (by omega)
    obtain ⟨hI, h999⟩ := hLv.goer hg
    have tg := tN_nI (g := g) (by omega)
    have hgo := hw.goer hg
    have h64 := hw.up64
    refine x_iload_n dX12_goer_11 rfl ?_
    rcases sw6 w with rfl | rfl | rfl | rfl | rfl | rfl | rfl | hsw
    · refine x_tableIn 56 dX12_goer_12 (by decide) (by decide) rfl ?_
      refine x_aload_n dX12_goer_56 rfl ?_
      refine g_X12_19 dX12_goer_57 ?_
      refine x_bipush (v := nI 33) dX12_goer_60 rfl ?_
      refine x_iload_n dX12_goer_62 rfl ?_
      refine y_iadd dX12_goer_63 ?_
      refine x_ial dX12_goer_64 (⟨by decide, rfl, rfl, by decide⟩ : Ar 38 45) (by omega) ?_
      rw [hS.at (by omega)]
      refine x_iret dX12_goer_65 ?_
      refine ⟨congrArg (fun z => some (Value.int z)) ?_, hM, FrC.rf⟩
      first
        | (simp [R_goer, nid, bI, upw, hld, *]; done)
        | (simp [R_goer, nid, bI, upw, hld, *]; rfl)
    · refine x_tableIn 66 dX12_goer_12 (by decide) (by decide) rfl ?_
      refine x_aload_n dX12_goer_66 rfl ?_
      refine g_X12_19 dX12_goer_67 ?_
      refine x_bipush (v := nI 21) dX12_goer_70 rfl ?_
      refine x_iload_n dX12_goer_72 rfl ?_
      refine y_iadd dX12_goer_73 ?_
      refine x_ial dX12_goer_74 (⟨by decide, rfl, rfl, by decide⟩ : Ar 38 45) (by omega) ?_
      rw [hS.at (by omega)]
      refine x_iret dX12_goer_75 ?_
      refine ⟨congrArg (fun z => some (Value.int z)) ?_, hM, FrC.rf⟩
      first
        | (simp [R_goer, nid, bI, upw, hld, *]; done)
        | (simp [R_goer, nid, bI, upw, hld, *]; rfl)
    · refine x_tableIn 76 dX12_goer_12 (by decide) (by decide) rfl ?_
      refine x_aload_n dX12_goer_76 rfl ?_
      refine g_X12_19 dX12_goer_77 ?_
      refine x_bipush (v := nI 27) dX12_goer_80 rfl ?_
      refine x_iload_n dX12_goer_82 rfl ?_
      refine y_iadd dX12_goer_83 ?_
      refine x_ial dX12_goer_84 (⟨by decide, rfl, rfl, by decide⟩ : Ar 38 45) (by omega) ?_
      rw [hS.at (by omega)]
      refine x_iret dX12_goer_85 ?_
      refine ⟨congrArg (fun z => some (Value.int z)) ?_, hM, FrC.rf⟩
      first
        | (simp [R_goer, nid, bI, upw, hld, *]; done)
        | (simp [R_goer, nid, bI, upw, hld, *]; rfl)
    · refine x_tableIn 86 dX12_goer_12 (by decide) (by decide) rfl ?_
      refine x_aload_n dX12_goer_86 rfl ?_
      refine x_iload_n dX12_goer_87 rfl ?_
      refine q_X12_154 (m_loadOf hS hw hg) dX12_goer_88 rfl ?_
      rintro _ _ ⟨rfl, rfl⟩
      refine x_iret dX12_goer_91 ?_
      refine ⟨congrArg (fun z => some (Value.int z)) ?_, hM, FrC.rf⟩
      first
        | (simp [R_goer, nid, bI, upw, hld, *]; done)
        | (simp [R_goer, nid, bI, upw, hld, *]; rfl)
    · refine x_tableIn 92 dX12_goer_12 (by decide) (by decide) rfl ?_
      refine x_aload_n dX12_goer_92 rfl ?_
      refine g_X12_19 dX12_goer_93 ?_
      refine y_iconst (a := 5) dX12_goer_96 rfl ?_
      refine x_ial dX12_goer_97 (⟨by decide, rfl, rfl, by decide⟩ : Ar 38 45) (by omega) ?_
      rw [hS.at (by omega)]
      refine x_iload_n dX12_goer_98 rfl ?_
      refine q_X12_174 (m_has (by omega) (by omega)) dX12_goer_99 rfl ?_
      rintro _ _ ⟨rfl, rfl⟩
      refine z_if_eq 109 dX12_goer_102 (fun h_102 => ?_) (fun h_102 => ?_)
      · refine y_iconst (a := 0) dX12_goer_109 rfl ?_
        refine x_iret dX12_goer_110 ?_
        refine ⟨congrArg (fun z => some (Value.int z)) ?_, hM, FrC.rf⟩
        first
          | (simp [R_goer, nid, bI, upw, hld, *]; done)
          | (simp [R_goer, nid, bI, upw, hld, *]; rfl)
      · refine y_iconst (a := 1) dX12_goer_105 rfl ?_
        refine x_goto 110 dX12_goer_106 ?_
        refine x_iret dX12_goer_110 ?_
        refine ⟨congrArg (fun z => some (Value.int z)) ?_, hM, FrC.rf⟩
        first
          | (simp [R_goer, nid, bI, upw, hld, *]; done)
          | (simp [R_goer, nid, bI, upw, hld, *]; rfl)
    · refine x_tableIn 111 dX12_goer_12 (by decide) (by decide) rfl ?_
      refine x_aload_n dX12_goer_111 rfl ?_
      refine g_X12_19 dX12_goer_112 ?_
      refine y_iconst (a := 4) dX12_goer_115 rfl ?_
      refine x_ial dX12_goer_116 (⟨by decide, rfl, rfl, by decide⟩ : Ar 38 45) (by omega) ?_
      rw [hS.at (by omega)]
      refine x_iload_n dX12_goer_117 rfl ?_
      refine q_X12_174 (m_has (by omega) (by omega)) dX12_goer_118 rfl ?_
      rintro _ _ ⟨rfl, rfl⟩
      refine z_if_eq 128 dX12_goer_121 (fun h_121 => ?_) (fun h_121 => ?_)
      · refine y_iconst (a := 0) dX12_goer_128 rfl ?_
        refine x_iret dX12_goer_129 ?_
        refine ⟨congrArg (fun z => some (Value.int z)) ?_, hM, FrC.rf⟩
        first
          | (simp [R_goer, nid, bI, upw, hld, *]; done)
          | (simp [R_goer, nid, bI, upw, hld, *]; rfl)
      · refine y_iconst (a := 1) dX12_goer_124 rfl ?_
        refine x_goto 129 dX12_goer_125 ?_
        refine x_iret dX12_goer_129 ?_
        refine ⟨congrArg (fun z => some (Value.int z)) ?_, hM, FrC.rf⟩
        first
          | (simp [R_goer, nid, bI, upw, hld, *]; done)
          | (simp [R_goer, nid, bI, upw, hld, *]; rfl)
    · refine x_tableIn 130 dX12_goer_12 (by decide) (by decide) rfl ?_
      refine x_aload_n dX12_goer_130 rfl ?_
      refine g_X12_19 dX12_goer_131 ?_
      refine x_bipush (v := nI 39) dX12_goer_134 rfl ?_
      refine x_iload_n dX12_goer_136 rfl ?_
      refine y_iadd dX12_goer_137 ?_
      refine x_ial dX12_goer_138 (⟨by decide, rfl, rfl, by decide⟩ : Ar 38 45) (by omega) ?_
      rw [hS.at (by omega)]
      refine x_iret dX12_goer_139 ?_
      refine ⟨congrArg (fun z => some (Value.int z)) ?_, hM, FrC.rf⟩
      first
        | (simp [R_goer, nid, bI, upw, hld, *]; done)
        | (simp [R_goer, nid, bI, upw, hld, *]; rfl)
    · have n0 := sw_ne (i := 0) hsw (by decide) (by decide)
      have n1 := sw_ne (i := 1) hsw (by decide) (by decide)
      have n2 := sw_ne (i := 2) hsw (by decide) (by decide)
      have n3 := sw_ne (i := 3) hsw (by decide) (by decide)
      have n4 := sw_ne (i := 4) hsw (by decide) (by decide)
      have n5 := sw_ne (i := 5) hsw (by decide) (by decide)
      have n6 := sw_ne (i := 6) hsw (by decide) (by decide)
      refine x_tableOut 140 dX12_goer_12 hsw ?_
      refine x_ldc dX12_goer_140 k_X12_70 ?_
      refine x_iret dX12_goer_142 ?_
      refine ⟨congrArg (fun z => some (Value.int z)) ?_, hM, FrC.rf⟩
      first
        | (simp [R_goer, nid, bI, upw, hld, *]; done)
        | (simp [R_goer, nid, bI, upw, hld, *]; rfl)
  · refine x_ldc dX12_goer_8 k_X12_70 ?_
    refine x_iret dX12_goer_10 ?_
    refine ⟨congrArg (fun z => some (Value.int z)) ?_, hM, FrC.rf⟩
    first
      | (simp [R_goer, nid, bI, upw, hld, *]; done)
      | (simp [R_goer, nid, bI, upw, hld, *]; rfl)
set_option maxRecDepth 100000 in
set_option maxHeartbeats 4000000 in
theorem m_rung {Ω : Om} {l : Launch} {M : Mem} {σ : Sg} (hM : IM M σ) (hW : SgW σ) {x w : Int32} : Ct Ω l yX12_rung cX12_rung 3 3 (some .int) [.ref (Ω.2.2 34), .int x, .int w] M (fun ro M' => ro = some (.int (R_rung σ.v x w)) ∧ IM M' σ ∧ FrC M M') := by
  have hS := hM.ms
  have hLv : Lv σ.v := hW.2.2.1
  have hw := hLv.wv
  have hn := hw.nums
  have hth := hM.there
  refine ct_of (by decide) (Nat.le_of_ble_eq_true rfl) ?_
  intro p e R s m args below meth c
  refine x_aload_n dX12_rung_0 rfl ?_
  refine x_iload_n dX12_rung_1 rfl ?_
  refine q_X12_214 (m_isRung hS (by omega)) dX12_rung_2 rfl ?_
  rintro _ _ ⟨rfl, rfl⟩
  refine z_if_eq 20 dX12_rung_5 (fun h_5 => ?_) (fun h_5 => ?_)
  · refine x_ldc dX12_rung_20 k_X12_70 ?_
    refine x_goto 63 dX12_rung_22 ?_
    refine x_iret dX12_rung_63 ?_
    refine ⟨congrArg (fun z => some (Value.int z)) ?_, hM, FrC.rf⟩
    first
      | (exfalso; omega)
      | (simp [R_rung, nid, *]; done)
      | (unfold R_rung
         have hb : ¬ (w = nI 0 ∨ w = nI 1 ∨ w = nI 2) := by
           rintro (z | z | z) <;> subst z <;> exact absurd h_17 (by decide +kernel)
         rw [if_neg (fun z => hb (Or.inl z)), if_neg (fun z => hb (Or.inr (Or.inl z))), if_neg (fun z => hb (Or.inr (Or.inr z)))]
         split <;> rfl)
  · obtain ⟨r, hr, rfl⟩ := inR_nI h_5 (by omega)
    obtain ⟨hI, h999⟩ := hLv.rung hr
    have tr := tN_nI (g := r) (by omega)
    have hst := hw.str (p := r + 1) (by omega)
    refine x_iload_n dX12_rung_8 rfl ?_
    refine x_i2l dX12_rung_9 ?_
    refine x_lconst (v := lN 0) dX12_rung_10 rfl ?_
    refine x_ldc2 (v := lN 2) dX12_rung_11 k_X12_68 ?_
    refine q_X12_60 (m_inB (by decide) (by decide)) dX12_rung_14 rfl ?_
    rintro _ _ ⟨rfl, rfl⟩
    refine z_if_ne 25 dX12_rung_17 (fun h_17 => ?_) (fun h_17 => ?_)
    · obtain ⟨z, z1, z2, rfl⟩ := inB_nI h_17 (by decide)
      have hz : z = 0 ∨ z = 1 ∨ z = 2 := by omega
      rcases hz with rfl | rfl | rfl
      · refine x_iload_n dX12_rung_25 rfl ?_
        refine y_if_ne 41 dX12_rung_26 (by omega) (fun h_26 => ?_) (fun h_26 => ?_)
        · refine x_iload_n dX12_rung_41 rfl ?_
          refine y_iconst (a := 1) dX12_rung_42 rfl ?_
          refine y_icmp_ne 56 dX12_rung_43 (by omega) (by omega) (fun h_43 => ?_) (fun h_43 => ?_)
          · refine x_aload_n dX12_rung_56 rfl ?_
            refine x_iload_n dX12_rung_57 rfl ?_
            refine y_iconst (a := 1) dX12_rung_58 rfl ?_
            refine y_iadd dX12_rung_59 ?_
            refine q_X12_160 (m_whoOn hS hw (by omega)) dX12_rung_60 rfl ?_
            rintro _ _ ⟨rfl, rfl⟩
            refine x_iret dX12_rung_63 ?_
            refine ⟨congrArg (fun z => some (Value.int z)) ?_, hM, FrC.rf⟩
            first
              | (exfalso; omega)
              | (simp [R_rung, nid, *]; done)
              | (unfold R_rung
                 have hb : ¬ (w = nI 0 ∨ w = nI 1 ∨ w = nI 2) := by
                   rintro (z | z | z) <;> subst z <;> exact absurd h_17 (by decide +kernel)
                 rw [if_neg (fun z => hb (Or.inl z)), if_neg (fun z => hb (Or.inr (Or.inl z))), if_neg (fun z => hb (Or.inr (Or.inr z)))]
                 split <;> rfl)
          · refine x_aload_n dX12_rung_46 rfl ?_
            refine x_iload_n dX12_rung_47 rfl ?_
            refine y_iconst (a := 1) dX12_rung_48 rfl ?_
            refine y_iadd dX12_rung_49 ?_
            refine q_X12_157 (m_loadOn hS hw (by omega)) dX12_rung_50 rfl ?_
            rintro _ _ ⟨rfl, rfl⟩
            refine x_goto 63 dX12_rung_53 ?_
            refine x_iret dX12_rung_63 ?_
            refine ⟨congrArg (fun z => some (Value.int z)) ?_, hM, FrC.rf⟩
            first
              | (exfalso; omega)
              | (simp [R_rung, nid, *]; done)
              | (unfold R_rung
                 have hb : ¬ (w = nI 0 ∨ w = nI 1 ∨ w = nI 2) := by
                   rintro (z | z | z) <;> subst z <;> exact absurd h_17 (by decide +kernel)
                 rw [if_neg (fun z => hb (Or.inl z)), if_neg (fun z => hb (Or.inr (Or.inl z))), if_neg (fun z => hb (Or.inr (Or.inr z)))]
                 split <;> rfl)
        · refine x_aload_n dX12_rung_29 rfl ?_
          refine g_X12_19 dX12_rung_30 ?_
          refine x_bipush (v := nI 6) dX12_rung_33 rfl ?_
          refine x_iload_n dX12_rung_35 rfl ?_
          refine y_iadd dX12_rung_36 ?_
          refine x_ial dX12_rung_37 (⟨by decide, rfl, rfl, by decide⟩ : Ar 38 45) (by omega) ?_
          rw [hS.at (by omega)]
          refine x_goto 63 dX12_rung_38 ?_
          refine x_iret dX12_rung_63 ?_
          refine ⟨congrArg (fun z => some (Value.int z)) ?_, hM, FrC.rf⟩
          first
            | (exfalso; omega)
            | (simp [R_rung, nid, *]; done)
            | (unfold R_rung
               have hb : ¬ (w = nI 0 ∨ w = nI 1 ∨ w = nI 2) := by
                 rintro (z | z | z) <;> subst z <;> exact absurd h_17 (by decide +kernel)
               rw [if_neg (fun z => hb (Or.inl z)), if_neg (fun z => hb (Or.inr (Or.inl z))), if_neg (fun z => hb (Or.inr (Or.inr z)))]
               split <;> rfl)
      · refine x_iload_n dX12_rung_25 rfl ?_
        refine y_if_ne 41 dX12_rung_26 (by omega) (fun h_26 => ?_) (fun h_26 => ?_)
        · refine x_iload_n dX12_rung_41 rfl ?_
          refine y_iconst (a := 1) dX12_rung_42 rfl ?_
          refine y_icmp_ne 56 dX12_rung_43 (by omega) (by omega) (fun h_43 => ?_) (fun h_43 => ?_)
          · refine x_aload_n dX12_rung_56 rfl ?_
            refine x_iload_n dX12_rung_57 rfl ?_
            refine y_iconst (a := 1) dX12_rung_58 rfl ?_
            refine y_iadd dX12_rung_59 ?_
            refine q_X12_160 (m_whoOn hS hw (by omega)) dX12_rung_60 rfl ?_
            rintro _ _ ⟨rfl, rfl⟩
            refine x_iret dX12_rung_63 ?_
            refine ⟨congrArg (fun z => some (Value.int z)) ?_, hM, FrC.rf⟩
            first
              | (exfalso; omega)
              | (simp [R_rung, nid, *]; done)
              | (unfold R_rung
                 have hb : ¬ (w = nI 0 ∨ w = nI 1 ∨ w = nI 2) := by
                   rintro (z | z | z) <;> subst z <;> exact absurd h_17 (by decide +kernel)
                 rw [if_neg (fun z => hb (Or.inl z)), if_neg (fun z => hb (Or.inr (Or.inl z))), if_neg (fun z => hb (Or.inr (Or.inr z)))]
                 split <;> rfl)
          · refine x_aload_n dX12_rung_46 rfl ?_
            refine x_iload_n dX12_rung_47 rfl ?_
            refine y_iconst (a := 1) dX12_rung_48 rfl ?_
            refine y_iadd dX12_rung_49 ?_
            refine q_X12_157 (m_loadOn hS hw (by omega)) dX12_rung_50 rfl ?_
            rintro _ _ ⟨rfl, rfl⟩
            refine x_goto 63 dX12_rung_53 ?_
            refine x_iret dX12_rung_63 ?_
            refine ⟨congrArg (fun z => some (Value.int z)) ?_, hM, FrC.rf⟩
            first
              | (exfalso; omega)
              | (simp [R_rung, nid, *]; done)
              | (unfold R_rung
                 have hb : ¬ (w = nI 0 ∨ w = nI 1 ∨ w = nI 2) := by
                   rintro (z | z | z) <;> subst z <;> exact absurd h_17 (by decide +kernel)
                 rw [if_neg (fun z => hb (Or.inl z)), if_neg (fun z => hb (Or.inr (Or.inl z))), if_neg (fun z => hb (Or.inr (Or.inr z)))]
                 split <;> rfl)
        · refine x_aload_n dX12_rung_29 rfl ?_
          refine g_X12_19 dX12_rung_30 ?_
          refine x_bipush (v := nI 6) dX12_rung_33 rfl ?_
          refine x_iload_n dX12_rung_35 rfl ?_
          refine y_iadd dX12_rung_36 ?_
          refine x_ial dX12_rung_37 (⟨by decide, rfl, rfl, by decide⟩ : Ar 38 45) (by omega) ?_
          rw [hS.at (by omega)]
          refine x_goto 63 dX12_rung_38 ?_
          refine x_iret dX12_rung_63 ?_
          refine ⟨congrArg (fun z => some (Value.int z)) ?_, hM, FrC.rf⟩
          first
            | (exfalso; omega)
            | (simp [R_rung, nid, *]; done)
            | (unfold R_rung
               have hb : ¬ (w = nI 0 ∨ w = nI 1 ∨ w = nI 2) := by
                 rintro (z | z | z) <;> subst z <;> exact absurd h_17 (by decide +kernel)
               rw [if_neg (fun z => hb (Or.inl z)), if_neg (fun z => hb (Or.inr (Or.inl z))), if_neg (fun z => hb (Or.inr (Or.inr z)))]
               split <;> rfl)
      · refine x_iload_n dX12_rung_25 rfl ?_
        refine y_if_ne 41 dX12_rung_26 (by omega) (fun h_26 => ?_) (fun h_26 => ?_)
        · refine x_iload_n dX12_rung_41 rfl ?_
          refine y_iconst (a := 1) dX12_rung_42 rfl ?_
          refine y_icmp_ne 56 dX12_rung_43 (by omega) (by omega) (fun h_43 => ?_) (fun h_43 => ?_)
          · refine x_aload_n dX12_rung_56 rfl ?_
            refine x_iload_n dX12_rung_57 rfl ?_
            refine y_iconst (a := 1) dX12_rung_58 rfl ?_
            refine y_iadd dX12_rung_59 ?_
            refine q_X12_160 (m_whoOn hS hw (by omega)) dX12_rung_60 rfl ?_
            rintro _ _ ⟨rfl, rfl⟩
            refine x_iret dX12_rung_63 ?_
            refine ⟨congrArg (fun z => some (Value.int z)) ?_, hM, FrC.rf⟩
            first
              | (exfalso; omega)
              | (simp [R_rung, nid, *]; done)
              | (unfold R_rung
                 have hb : ¬ (w = nI 0 ∨ w = nI 1 ∨ w = nI 2) := by
                   rintro (z | z | z) <;> subst z <;> exact absurd h_17 (by decide +kernel)
                 rw [if_neg (fun z => hb (Or.inl z)), if_neg (fun z => hb (Or.inr (Or.inl z))), if_neg (fun z => hb (Or.inr (Or.inr z)))]
                 split <;> rfl)
          · refine x_aload_n dX12_rung_46 rfl ?_
            refine x_iload_n dX12_rung_47 rfl ?_
            refine y_iconst (a := 1) dX12_rung_48 rfl ?_
            refine y_iadd dX12_rung_49 ?_
            refine q_X12_157 (m_loadOn hS hw (by omega)) dX12_rung_50 rfl ?_
            rintro _ _ ⟨rfl, rfl⟩
            refine x_goto 63 dX12_rung_53 ?_
            refine x_iret dX12_rung_63 ?_
            refine ⟨congrArg (fun z => some (Value.int z)) ?_, hM, FrC.rf⟩
            first
              | (exfalso; omega)
              | (simp [R_rung, nid, *]; done)
              | (unfold R_rung
                 have hb : ¬ (w = nI 0 ∨ w = nI 1 ∨ w = nI 2) := by
                   rintro (z | z | z) <;> subst z <;> exact absurd h_17 (by decide +kernel)
                 rw [if_neg (fun z => hb (Or.inl z)), if_neg (fun z => hb (Or.inr (Or.inl z))), if_neg (fun z => hb (Or.inr (Or.inr z)))]
                 split <;> rfl)
        · refine x_aload_n dX12_rung_29 rfl ?_
          refine g_X12_19 dX12_rung_30 ?_
          refine x_bipush (v := nI 6) dX12_rung_33 rfl ?_
          refine x_iload_n dX12_rung_35 rfl ?_
          refine y_iadd dX12_rung_36 ?_
          refine x_ial dX12_rung_37 (⟨by decide, rfl, rfl, by decide⟩ : Ar 38 45) (by omega) ?_
          rw [hS.at (by omega)]
          refine x_goto 63 dX12_rung_38 ?_
          refine x_iret dX12_rung_63 ?_
          refine ⟨congrArg (fun z => some (Value.int z)) ?_, hM, FrC.rf⟩
          first
            | (exfalso; omega)
            | (simp [R_rung, nid, *]; done)
            | (unfold R_rung
               have hb : ¬ (w = nI 0 ∨ w = nI 1 ∨ w = nI 2) := by
                 rintro (z | z | z) <;> subst z <;> exact absurd h_17 (by decide +kernel)
               rw [if_neg (fun z => hb (Or.inl z)), if_neg (fun z => hb (Or.inr (Or.inl z))), if_neg (fun z => hb (Or.inr (Or.inr z)))]
               split <;> rfl)
    · refine x_ldc dX12_rung_20 k_X12_70 ?_
      refine x_goto 63 dX12_rung_22 ?_
      refine x_iret dX12_rung_63 ?_
      refine ⟨congrArg (fun z => some (Value.int z)) ?_, hM, FrC.rf⟩
      first
        | (exfalso; omega)
        | (simp [R_rung, nid, *]; done)
        | (unfold R_rung
           have hb : ¬ (w = nI 0 ∨ w = nI 1 ∨ w = nI 2) := by
             rintro (z | z | z) <;> subst z <;> exact absurd h_17 (by decide +kernel)
           rw [if_neg (fun z => hb (Or.inl z)), if_neg (fun z => hb (Or.inr (Or.inl z))), if_neg (fun z => hb (Or.inr (Or.inr z)))]
           split <;> rfl)
set_option maxRecDepth 100000 in
set_option maxHeartbeats 4000000 in
theorem m_stand {Ω : Om} {l : Launch} {M : Mem} {σ : Sg} (hM : IM M σ) (hW : SgW σ) {w : Int32} : Ct Ω l yX12_stand cX12_stand 2 4 (some .int) [.ref (Ω.2.2 34), .int w] M (fun ro M' => ro = some (.int (R_stand σ.v w)) ∧ IM M' σ ∧ FrC M M') := by
  have hS := hM.ms
  have hLv : Lv σ.v := hW.2.2.1
  have hw := hLv.wv
  have hn := hw.nums
  have hth := hM.there
  refine ct_of (by decide) (Nat.le_of_ble_eq_true rfl) ?_
  intro p e R s m args below meth c
  refine x_aload_n dX12_stand_0 rfl ?_
  refine g_X12_147 dX12_stand_1 ?_
  rw [hth]
  refine z_if_ne 10 dX12_stand_4 (fun h_4 => ?_) (fun h_4 => ?_)
  · simp only [decide_eq_true_eq] at h_4
    obtain ⟨hI, h999⟩ : Iv σ.v ∧ σ.v 3 ≤ 999 := by
      rcases hLv with z | z
      · exact z
      · exact absurd (z 0 (by decide)) h_4
    refine x_iload_n dX12_stand_10 rfl ?_
    rcases sw4 w with rfl | rfl | rfl | rfl | rfl | hsw
    · refine x_tableIn 44 dX12_stand_11 (by decide) (by decide) rfl ?_
      refine x_aload_n dX12_stand_44 rfl ?_
      refine q_X12_206 (m_aboveSet hS hw) dX12_stand_45 rfl ?_
      rintro _ _ ⟨rfl, rfl⟩
      refine x_iret dX12_stand_48 ?_
      refine ⟨congrArg (fun z => some (Value.int z)) ?_, hM, FrC.rf⟩
      first
        | (simp [R_stand, nid, *]; done)
        | (simp only [decide_eq_false_iff_not] at h_4
           simp [R_stand, Decidable.not_not.mp h_4])
    · refine x_tableIn 49 dX12_stand_11 (by decide) (by decide) rfl ?_
      refine x_aload_n dX12_stand_49 rfl ?_
      refine y_iconst (a := 0) dX12_stand_50 rfl ?_
      refine q_X12_160 (m_whoOn hS hw (by omega)) dX12_stand_51 rfl ?_
      rintro _ _ ⟨rfl, rfl⟩
      refine x_iret dX12_stand_54 ?_
      refine ⟨congrArg (fun z => some (Value.int z)) ?_, hM, FrC.rf⟩
      first
        | (simp [R_stand, nid, *]; done)
        | (simp only [decide_eq_false_iff_not] at h_4
           simp [R_stand, Decidable.not_not.mp h_4])
    · refine x_tableIn 55 dX12_stand_11 (by decide) (by decide) rfl ?_
      refine x_aload_n dX12_stand_55 rfl ?_
      refine q_X12_163 (m_loadAll hS hw) dX12_stand_56 rfl ?_
      rintro _ _ ⟨rfl, rfl⟩
      refine x_iret dX12_stand_59 ?_
      refine ⟨congrArg (fun z => some (Value.int z)) ?_, hM, FrC.rf⟩
      first
        | (simp [R_stand, nid, *]; done)
        | (simp only [decide_eq_false_iff_not] at h_4
           simp [R_stand, Decidable.not_not.mp h_4])
    · refine x_tableIn 60 dX12_stand_11 (by decide) (by decide) rfl ?_
      refine x_aload_n dX12_stand_60 rfl ?_
      refine q_X12_217 (m_brokenSet hS hw) dX12_stand_61 rfl ?_
      rintro _ _ ⟨rfl, rfl⟩
      refine x_iret dX12_stand_64 ?_
      refine ⟨congrArg (fun z => some (Value.int z)) ?_, hM, FrC.rf⟩
      first
        | (simp [R_stand, nid, *]; done)
        | (simp only [decide_eq_false_iff_not] at h_4
           simp [R_stand, Decidable.not_not.mp h_4])
    · refine x_tableIn 65 dX12_stand_11 (by decide) (by decide) rfl ?_
      refine x_aload_n dX12_stand_65 rfl ?_
      refine g_X12_19 dX12_stand_66 ?_
      refine y_iconst (a := 4) dX12_stand_69 rfl ?_
      refine x_ial dX12_stand_70 (⟨by decide, rfl, rfl, by decide⟩ : Ar 38 45) (by omega) ?_
      rw [hS.at (by omega)]
      refine x_iret dX12_stand_71 ?_
      refine ⟨congrArg (fun z => some (Value.int z)) ?_, hM, FrC.rf⟩
      first
        | (simp [R_stand, nid, *]; done)
        | (simp only [decide_eq_false_iff_not] at h_4
           simp [R_stand, Decidable.not_not.mp h_4])
    · have n0 := sw_ne (i := 0) hsw (by decide) (by decide)
      have n1 := sw_ne (i := 1) hsw (by decide) (by decide)
      have n2 := sw_ne (i := 2) hsw (by decide) (by decide)
      have n3 := sw_ne (i := 3) hsw (by decide) (by decide)
      have n4 := sw_ne (i := 4) hsw (by decide) (by decide)
      refine x_tableOut 72 dX12_stand_11 hsw ?_
      refine x_ldc dX12_stand_72 k_X12_70 ?_
      refine x_iret dX12_stand_74 ?_
      refine ⟨congrArg (fun z => some (Value.int z)) ?_, hM, FrC.rf⟩
      first
        | (simp [R_stand, nid, *]; done)
        | (simp only [decide_eq_false_iff_not] at h_4
           simp [R_stand, Decidable.not_not.mp h_4])
  · refine x_ldc dX12_stand_7 k_X12_197 ?_
    refine x_iret dX12_stand_9 ?_
    refine ⟨congrArg (fun z => some (Value.int z)) ?_, hM, FrC.rf⟩
    first
      | (simp [R_stand, nid, *]; done)
      | (simp only [decide_eq_false_iff_not] at h_4
         simp [R_stand, Decidable.not_not.mp h_4])
set_option maxRecDepth 100000 in
set_option maxHeartbeats 4000000 in
theorem m_ahead {Ω : Om} {l : Launch} {M : Mem} {σ : Sg} (hM : IM M σ) (hW : SgW σ) {x n : Int32} : Ct Ω l yX12_ahead cX12_ahead 4 10 (some .int) [.ref (Ω.2.2 34), .int x, .int n] M (fun ro M' => ro = some (.int (R_ahead σ.v x n)) ∧ IM M' σ ∧ FrC M M') := by
  have hS := hM.ms
  have hLv : Lv σ.v := hW.2.2.1
  have hw := hLv.wv
  have hn := hw.nums
  have hth := hM.there
  refine ct_of (by decide) (Nat.le_of_ble_eq_true rfl) ?_
  intro p e R s m args below meth c
  refine x_aload_n dX12_ahead_0 rfl ?_
  refine x_iload_n dX12_ahead_1 rfl ?_
  refine q_X12_209 (m_isGoer hS (by omega)) dX12_ahead_2 rfl ?_
  rintro _ _ ⟨rfl, rfl⟩
  refine z_if_eq 20 dX12_ahead_5 (fun h_5 => ?_) (fun h_5 => ?_)
  · refine x_ldc dX12_ahead_20 k_X12_70 ?_
    refine x_iret dX12_ahead_22 ?_
    first
      | (refine ⟨congrArg (fun z => some (Value.int z)) ?_, hM, FrC.rf⟩
         simp [R_ahead, *]; done)
      | (refine ⟨congrArg (fun z => some (Value.int z)) ?_, hq⟩
         simp [R_ahead, *])
  · obtain ⟨g, hg, rfl⟩ := inR_nI h_5 (by omega)
    obtain ⟨hI, h999⟩ := hLv.goer hg
    have tg := tN_nI (g := g) (by omega)
    have hgo := hw.goer hg
    refine x_iload_n dX12_ahead_8 rfl ?_
    refine x_i2l dX12_ahead_9 ?_
    refine x_lconst (v := lN 0) dX12_ahead_10 rfl ?_
    refine x_ldc2 (v := lN 60) dX12_ahead_11 k_X12_226 ?_
    refine q_X12_60 (m_inB (by decide) (by decide)) dX12_ahead_14 rfl ?_
    rintro _ _ ⟨rfl, rfl⟩
    refine z_if_ne 23 dX12_ahead_17 (fun h_17 => ?_) (fun h_17 => ?_)
    · obtain ⟨h, _, h2, rfl⟩ := inB_nI h_17 (by decide)
      have th := tN_nI (g := h) (by omega)
      refine x_aload_n dX12_ahead_23 rfl ?_
      refine q_X12_228 (m_putAside hS) dX12_ahead_24 rfl ?_
      rintro _ M0 ⟨rfl, hA0, hF0⟩
      have hS0 := hS.fc hF0 (by decide)
      refine x_aload_n dX12_ahead_27 rfl ?_
      refine x_iload_n dX12_ahead_28 rfl ?_
      refine q_X12_220 (m_goOn hS0 hI (by omega) (by omega)) dX12_ahead_29 rfl ?_
      rintro _ M1 ⟨rfl, hS1, hF1⟩
      refine x_aload_n dX12_ahead_32 rfl ?_
      refine g_X12_19 dX12_ahead_33 ?_
      refine x_bipush (v := nI 33) dX12_ahead_36 rfl ?_
      refine x_iload_n dX12_ahead_38 rfl ?_
      refine y_iadd dX12_ahead_39 ?_
      refine x_ial dX12_ahead_40 (⟨by decide, rfl, rfl, by decide⟩ : Ar 38 45) (by omega) ?_
      rw [hS1.at (by omega)]
      refine x_istore_n dX12_ahead_41 ?_
      refine x_aload_n dX12_ahead_42 rfl ?_
      refine q_X12_223 (m_takeBack (hA0.keep hF1)) dX12_ahead_43 rfl ?_
      rintro _ M9 ⟨rfl, hS9, hF9⟩
      have hq := hM.q (((FQ.rf.c hF0 (by omega)).s hF1).s hF9) hS9
      refine x_iload_n dX12_ahead_46 rfl ?_
      refine x_iret dX12_ahead_47 ?_
      first
        | (refine ⟨congrArg (fun z => some (Value.int z)) ?_, hM, FrC.rf⟩
           simp [R_ahead, *]; done)
        | (refine ⟨congrArg (fun z => some (Value.int z)) ?_, hq⟩
           simp [R_ahead, *])
    · refine x_ldc dX12_ahead_20 k_X12_70 ?_
      refine x_iret dX12_ahead_22 ?_
      first
        | (refine ⟨congrArg (fun z => some (Value.int z)) ?_, hM, FrC.rf⟩
           simp [R_ahead, *]; done)
        | (refine ⟨congrArg (fun z => some (Value.int z)) ?_, hq⟩
           simp [R_ahead, *])
set_option maxRecDepth 100000 in
set_option maxHeartbeats 4000000 in
theorem m_strength {Ω : Om} {l : Launch} {M : Mem} {σ : Sg} (hM : IM M σ) (hW : SgW σ) {x n : Int32} : Ct Ω l yX12_strength cX12_strength 4 10 (some .int) [.ref (Ω.2.2 34), .int x, .int n] M (fun ro M' => ro = some (.int (R_strength σ.v x n)) ∧ IM M' σ ∧ FrC M M') := by
  have hS := hM.ms
  have hLv : Lv σ.v := hW.2.2.1
  have hw := hLv.wv
  have hn := hw.nums
  have hth := hM.there
  refine ct_of (by decide) (Nat.le_of_ble_eq_true rfl) ?_
  intro p e R s m args below meth c
  refine x_aload_n dX12_strength_0 rfl ?_
  refine x_iload_n dX12_strength_1 rfl ?_
  refine q_X12_214 (m_isRung hS (by omega)) dX12_strength_2 rfl ?_
  rintro _ _ ⟨rfl, rfl⟩
  refine z_if_eq 20 dX12_strength_5 (fun h_5 => ?_) (fun h_5 => ?_)
  · refine x_ldc dX12_strength_20 k_X12_70 ?_
    refine x_iret dX12_strength_22 ?_
    first
      | (refine ⟨congrArg (fun z => some (Value.int z)) ?_, hM, FrC.rf⟩
         simp [R_strength, *]; done)
      | (refine ⟨congrArg (fun z => some (Value.int z)) ?_, hq⟩
         simp [R_strength, *])
  · obtain ⟨r, hr, rfl⟩ := inR_nI h_5 (by omega)
    obtain ⟨hI, h999⟩ := hLv.rung hr
    have tr := tN_nI (g := r) (by omega)
    have hst := hw.str (p := r + 1) (by omega)
    refine x_iload_n dX12_strength_8 rfl ?_
    refine x_i2l dX12_strength_9 ?_
    refine x_lconst (v := lN 0) dX12_strength_10 rfl ?_
    refine x_ldc2 (v := lN 60) dX12_strength_11 k_X12_226 ?_
    refine q_X12_60 (m_inB (by decide) (by decide)) dX12_strength_14 rfl ?_
    rintro _ _ ⟨rfl, rfl⟩
    refine z_if_ne 23 dX12_strength_17 (fun h_17 => ?_) (fun h_17 => ?_)
    · obtain ⟨h, _, h2, rfl⟩ := inB_nI h_17 (by decide)
      have th := tN_nI (g := h) (by omega)
      refine x_aload_n dX12_strength_23 rfl ?_
      refine q_X12_228 (m_putAside hS) dX12_strength_24 rfl ?_
      rintro _ M0 ⟨rfl, hA0, hF0⟩
      have hS0 := hS.fc hF0 (by decide)
      refine x_aload_n dX12_strength_27 rfl ?_
      refine x_iload_n dX12_strength_28 rfl ?_
      refine q_X12_220 (m_goOn hS0 hI (by omega) (by omega)) dX12_strength_29 rfl ?_
      rintro _ M1 ⟨rfl, hS1, hF1⟩
      refine x_aload_n dX12_strength_32 rfl ?_
      refine g_X12_19 dX12_strength_33 ?_
      refine x_bipush (v := nI 6) dX12_strength_36 rfl ?_
      refine x_iload_n dX12_strength_38 rfl ?_
      refine y_iadd dX12_strength_39 ?_
      refine x_ial dX12_strength_40 (⟨by decide, rfl, rfl, by decide⟩ : Ar 38 45) (by omega) ?_
      rw [hS1.at (by omega)]
      refine x_istore_n dX12_strength_41 ?_
      refine x_aload_n dX12_strength_42 rfl ?_
      refine q_X12_223 (m_takeBack (hA0.keep hF1)) dX12_strength_43 rfl ?_
      rintro _ M9 ⟨rfl, hS9, hF9⟩
      have hq := hM.q (((FQ.rf.c hF0 (by omega)).s hF1).s hF9) hS9
      refine x_iload_n dX12_strength_46 rfl ?_
      refine x_iret dX12_strength_47 ?_
      first
        | (refine ⟨congrArg (fun z => some (Value.int z)) ?_, hM, FrC.rf⟩
           simp [R_strength, *]; done)
        | (refine ⟨congrArg (fun z => some (Value.int z)) ?_, hq⟩
           simp [R_strength, *])
    · refine x_ldc dX12_strength_20 k_X12_70 ?_
      refine x_iret dX12_strength_22 ?_
      first
        | (refine ⟨congrArg (fun z => some (Value.int z)) ?_, hM, FrC.rf⟩
           simp [R_strength, *]; done)
        | (refine ⟨congrArg (fun z => some (Value.int z)) ?_, hq⟩
           simp [R_strength, *])
set_option maxRecDepth 100000 in
set_option maxHeartbeats 4000000 in
theorem m_falls {Ω : Om} {l : Launch} {M : Mem} {σ : Sg} (hM : IM M σ) (hW : SgW σ) {n : Int32} : Ct Ω l yX12_falls cX12_falls 3 10 (some .int) [.ref (Ω.2.2 34), .int n] M (fun ro M' => ro = some (.int (R_falls σ.v n)) ∧ IM M' σ ∧ FrC M M') := by
  have hS := hM.ms
  have hLv : Lv σ.v := hW.2.2.1
  have hw := hLv.wv
  have hn := hw.nums
  have hth := hM.there
  refine ct_of (by decide) (Nat.le_of_ble_eq_true rfl) ?_
  intro p e R s m args below meth c
  refine x_aload_n dX12_falls_0 rfl ?_
  refine g_X12_147 dX12_falls_1 ?_
  rw [hth]
  refine z_if_ne 10 dX12_falls_4 (fun h_4 => ?_) (fun h_4 => ?_)
  · simp only [decide_eq_true_eq] at h_4
    obtain ⟨hI, h999⟩ : Iv σ.v ∧ σ.v 3 ≤ 999 := by
      rcases hLv with z | z
      · exact z
      · exact absurd (z 0 (by decide)) h_4
    refine x_iload_n dX12_falls_10 rfl ?_
    refine x_i2l dX12_falls_11 ?_
    refine x_lconst (v := lN 0) dX12_falls_12 rfl ?_
    refine x_ldc2 (v := lN 60) dX12_falls_13 k_X12_226 ?_
    refine q_X12_60 (m_inB (by decide) (by decide)) dX12_falls_16 rfl ?_
    rintro _ _ ⟨rfl, rfl⟩
    refine z_if_ne 25 dX12_falls_19 (fun h_19 => ?_) (fun h_19 => ?_)
    · obtain ⟨h, _, h2, rfl⟩ := inB_nI h_19 (by decide)
      have th := tN_nI (g := h) (by omega)
      have hne := hrs_ne hw h (by omega)
      refine x_aload_n dX12_falls_25 rfl ?_
      refine q_X12_228 (m_putAside hS) dX12_falls_26 rfl ?_
      rintro _ M0 ⟨rfl, hA0, hF0⟩
      have hS0 := hS.fc hF0 (by decide)
      refine x_aload_n dX12_falls_29 rfl ?_
      refine x_iload_n dX12_falls_30 rfl ?_
      refine q_X12_220 (m_goOn hS0 hI (by omega) (by omega)) dX12_falls_31 rfl ?_
      rintro _ M1 ⟨rfl, hS1, hF1⟩
      refine x_aload_n dX12_falls_34 rfl ?_
      refine q_X12_234 (m_sumFell hS1 hne.1) dX12_falls_35 rfl ?_
      rintro _ _ ⟨rfl, rfl⟩
      refine x_istore_n dX12_falls_38 ?_
      refine x_aload_n dX12_falls_39 rfl ?_
      refine q_X12_223 (m_takeBack (hA0.keep hF1)) dX12_falls_40 rfl ?_
      rintro _ M9 ⟨rfl, hS9, hF9⟩
      have hq := hM.q (((FQ.rf.c hF0 (by omega)).s hF1).s hF9) hS9
      refine x_iload_n dX12_falls_43 rfl ?_
      refine x_aload_n dX12_falls_44 rfl ?_
      refine q_X12_234 (m_sumFell hS9 hw) dX12_falls_45 rfl ?_
      rintro _ _ ⟨rfl, rfl⟩
      refine x_isub dX12_falls_48 ?_
      refine x_iret dX12_falls_49 ?_
      first
        | (refine ⟨congrArg (fun z => some (Value.int z)) ?_, hM, FrC.rf⟩
           simp [R_falls, *]; done)
        | (refine ⟨congrArg (fun z => some (Value.int z)) ?_, hq⟩
           simp [R_falls, *])
        | (refine ⟨congrArg (fun z => some (Value.int z)) ?_, hM, FrC.rf⟩
           simp only [decide_eq_false_iff_not] at h_4
           simp [R_falls, Decidable.not_not.mp h_4])
    · refine x_ldc dX12_falls_22 k_X12_70 ?_
      refine x_iret dX12_falls_24 ?_
      first
        | (refine ⟨congrArg (fun z => some (Value.int z)) ?_, hM, FrC.rf⟩
           simp [R_falls, *]; done)
        | (refine ⟨congrArg (fun z => some (Value.int z)) ?_, hq⟩
           simp [R_falls, *])
        | (refine ⟨congrArg (fun z => some (Value.int z)) ?_, hM, FrC.rf⟩
           simp only [decide_eq_false_iff_not] at h_4
           simp [R_falls, Decidable.not_not.mp h_4])
  · refine x_ldc dX12_falls_7 k_X12_197 ?_
    refine x_iret dX12_falls_9 ?_
    first
      | (refine ⟨congrArg (fun z => some (Value.int z)) ?_, hM, FrC.rf⟩
         simp [R_falls, *]; done)
      | (refine ⟨congrArg (fun z => some (Value.int z)) ?_, hq⟩
         simp [R_falls, *])
      | (refine ⟨congrArg (fun z => some (Value.int z)) ?_, hM, FrC.rf⟩
         simp only [decide_eq_false_iff_not] at h_4
         simp [R_falls, Decidable.not_not.mp h_4])
set_option maxRecDepth 100000 in
set_option maxHeartbeats 4000000 in
theorem m_kind {Ω : Om} {l : Launch} {M : Mem} {σ : Sg} (hM : IM M σ) (hW : SgW σ) {x : Int32} : Ct Ω l yX12_kind cX12_kind 2 3 (some .int) [.ref (Ω.2.2 34), .int x] M (fun ro M' => ro = some (.int (R_kind σ.v x)) ∧ IM M' σ ∧ FrC M M') := by
  have hS := hM.ms
  have hLv : Lv σ.v := hW.2.2.1
  have hw := hLv.wv
  have hn := hw.nums
  have hth := hM.there
  refine ct_of (by decide) (Nat.le_of_ble_eq_true rfl) ?_
  intro p e R s m args below meth c
  refine x_aload_n dX12_kind_0 rfl ?_
  refine x_iload_n dX12_kind_1 rfl ?_
  refine q_X12_209 (m_isGoer hS (by omega)) dX12_kind_2 rfl ?_
  rintro _ _ ⟨rfl, rfl⟩
  refine z_if_eq 20 dX12_kind_5 (fun h_5 => ?_) (fun h_5 => ?_)
  · refine x_ldc dX12_kind_20 k_X12_70 ?_
    refine x_iret dX12_kind_22 ?_
    refine ⟨congrArg (fun z => some (Value.int z)) ?_, hM, FrC.rf⟩
    simp [R_kind, nid, *]
  · obtain ⟨g, hg, rfl⟩ := inR_nI h_5 (by omega)
    obtain ⟨hI, h999⟩ := hLv.goer hg
    have tg := tN_nI (g := g) (by omega)
    have hgo := hw.goer hg
    refine x_aload_n dX12_kind_8 rfl ?_
    refine g_X12_19 dX12_kind_9 ?_
    refine x_bipush (v := nI 15) dX12_kind_12 rfl ?_
    refine x_iload_n dX12_kind_14 rfl ?_
    refine y_iadd dX12_kind_15 ?_
    refine x_ial dX12_kind_16 (⟨by decide, rfl, rfl, by decide⟩ : Ar 38 45) (by omega) ?_
    rw [hS.at (by omega)]
    refine x_goto 22 dX12_kind_17 ?_
    refine x_iret dX12_kind_22 ?_
    refine ⟨congrArg (fun z => some (Value.int z)) ?_, hM, FrC.rf⟩
    simp [R_kind, nid, *]
set_option maxRecDepth 100000 in
set_option maxHeartbeats 4000000 in
theorem m_status {Ω : Om} {l : Launch} {M : Mem} {σ : Sg} (hM : IM M σ) (hW : SgW σ)  : Ct Ω l yX12_status cX12_status 1 1 (some .int) [.ref (Ω.2.2 34)] M (fun ro M' => ro = some (.int (σ.st)) ∧ IM M' σ ∧ FrC M M') := by
  have hS := hM.ms
  have hLv : Lv σ.v := hW.2.2.1
  have hw := hLv.wv
  have hn := hw.nums
  have hth := hM.there
  refine ct_of (by decide) (Nat.le_of_ble_eq_true rfl) ?_
  intro p e R s m args below meth c
  refine x_aload_n dX12_status_0 rfl ?_
  refine g_X12_53 dX12_status_1 ?_
  rw [hM.st]
  refine x_iret dX12_status_4 ?_
  exact ⟨rfl, hM, FrC.rf⟩
set_option maxRecDepth 100000 in
set_option maxHeartbeats 4000000 in
theorem m_fault {Ω : Om} {l : Launch} {M : Mem} {σ : Sg} (hM : IM M σ) (hW : SgW σ)  : Ct Ω l yX12_fault cX12_fault 1 1 (some .int) [.ref (Ω.2.2 34)] M (fun ro M' => ro = some (.int (σ.fl)) ∧ IM M' σ ∧ FrC M M') := by
  have hS := hM.ms
  have hLv : Lv σ.v := hW.2.2.1
  have hw := hLv.wv
  have hn := hw.nums
  have hth := hM.there
  refine ct_of (by decide) (Nat.le_of_ble_eq_true rfl) ?_
  intro p e R s m args below meth c
  refine x_aload_n dX12_fault_0 rfl ?_
  refine g_X12_143 dX12_fault_1 ?_
  rw [hM.fl]
  refine x_iret dX12_fault_4 ?_
  exact ⟨rfl, hM, FrC.rf⟩
set_option maxRecDepth 100000 in
set_option maxHeartbeats 4000000 in
theorem m_trace {Ω : Om} {l : Launch} {M : Mem} {σ : Sg} (hM : IM M σ) (hW : SgW σ) {x : Int32} : Ct Ω l yX12_trace cX12_trace 2 2 (some .int) [.ref (Ω.2.2 34), .int x] M (fun ro M' => ro = some (.int (R_trace σ x)) ∧ IM M' σ ∧ FrC M M') := by
  have hS := hM.ms
  have hLv : Lv σ.v := hW.2.2.1
  have hw := hLv.wv
  have hn := hw.nums
  have hth := hM.there
  refine ct_of (by decide) (Nat.le_of_ble_eq_true rfl) ?_
  intro p e R s m args below meth c
  refine x_iload_n dX12_trace_0 rfl ?_
  refine x_i2l dX12_trace_1 ?_
  refine x_lconst (v := lN 0) dX12_trace_2 rfl ?_
  refine x_aload_n dX12_trace_3 rfl ?_
  refine g_X12_277 dX12_trace_4 ?_
  rw [hM.tr.1]
  refine y_iconst (a := 1) dX12_trace_7 rfl ?_
  refine x_isub dX12_trace_8 ?_
  refine x_i2l dX12_trace_9 ?_
  refine q_X12_60 (m_inR (by have := hW.2.2.2.2.2.2.1; omega)) dX12_trace_10 rfl ?_
  rintro _ _ ⟨rfl, rfl⟩
  refine z_if_eq 25 dX12_trace_13 (fun h_13 => ?_) (fun h_13 => ?_)
  · refine x_ldc dX12_trace_25 k_X12_167 ?_
    refine x_iret dX12_trace_27 ?_
    refine ⟨congrArg (fun z => some (Value.int z)) ?_, hM, FrC.rf⟩
    simp [R_trace, nid, *]
  · obtain ⟨g, hg, rfl⟩ := inR_nI h_13 (by have := hW.2.2.2.2.2.2.1; omega)
    have h16 := hW.2.2.2.2.2.2.1
    have tg := tN_nI (g := g) (by omega)
    refine x_aload_n dX12_trace_16 rfl ?_
    refine g_X12_50 dX12_trace_17 ?_
    refine x_iload_n dX12_trace_20 rfl ?_
    refine x_ial dX12_trace_21 (⟨by decide, rfl, rfl, by decide⟩ : Ar 48 16) (by omega) ?_
    rw [hM.tr.2 g hg]
    refine x_goto 27 dX12_trace_22 ?_
    refine x_iret dX12_trace_27 ?_
    refine ⟨congrArg (fun z => some (Value.int z)) ?_, hM, FrC.rf⟩
    simp [R_trace, nid, *]
set_option maxRecDepth 100000 in
set_option maxHeartbeats 4000000 in
theorem m_above {Ω : Om} {l : Launch} {M : Mem} {σ : Sg} (hM : IM M σ) (hW : SgW σ) {x : Int32} : Ct Ω l yX12_above cX12_above 4 9 (some .int) [.ref (Ω.2.2 34), .int x] M (fun ro M' => ro = some (.int (R_above σ.v x)) ∧ IM M' σ ∧ FrC M M') := by
  have hS := hM.ms
  have hLv : Lv σ.v := hW.2.2.1
  have hw := hLv.wv
  have hn := hw.nums
  have hth := hM.there
  refine ct_of (by decide) (Nat.le_of_ble_eq_true rfl) ?_
  intro p e R s m args below meth c
  have key : ∀ (g : Nat), g < σ.v 2 → ∀ (k h : Nat) (M1 : Mem), h + k = 60 ∧ MsR M1 (hrs σ.v h) ∧ AsR M1 σ.v ∧ FQ M M1 ∧ (∀ i, i < h → abv (hrs σ.v i) g = false) → X (mkG p l e R s m args below meth c Ω (fun ro M' => ro = some (.int (R_above σ.v (nI g))) ∧ IM M' σ ∧ FrC M M')) Ω RX12 cX12_above 4 9 (some .int) 17 [some (.ref (Ω.2.2 34)), some (.int (nI g)), some (.int (nI h)), none] [] M1 := by
    intro g hg k
    obtain ⟨hI, h999⟩ := hLv.goer hg
    have tg := tN_nI (g := g) (by omega)
    induction k with
    | zero =>
      intro h M1 hk
      obtain ⟨hk, hS1, hA1, hF1, hal⟩ := hk
      have hne := hrs_ne hw h (by omega)
      have hI1 := hrs_Iv hI h (by omega)
      have hg1 : g < hrs σ.v h 2 := by rw [hne.2.1 2 (by omega) (by omega)]; exact hg
      refine x_aload_n dX12_above_17 rfl ?_
      refine x_iload_n dX12_above_18 rfl ?_
      refine q_X12_184 (m_isAbove hS1 hne.1 hg1) dX12_above_19 rfl ?_
      rintro _ _ ⟨rfl, rfl⟩
      refine z_if_ne 41 dX12_above_22 (fun h_22 => ?_) (fun h_22 => ?_)
      · refine x_aload_n dX12_above_41 rfl ?_
        refine x_iload_n dX12_above_42 rfl ?_
        refine q_X12_184 (m_isAbove hS1 hne.1 hg1) dX12_above_43 rfl ?_
        rintro _ _ ⟨rfl, rfl⟩
        refine x_istore_n dX12_above_46 ?_
        refine x_aload_n dX12_above_47 rfl ?_
        refine q_X12_223 (m_takeBack hA1) dX12_above_48 rfl ?_
        rintro _ M9 ⟨rfl, hS9, hF9⟩
        refine x_iload_n dX12_above_51 rfl ?_
        refine z_if_eq 59 dX12_above_52 (fun h_52 => ?_) (fun h_52 => ?_)
        · refine x_ldc dX12_above_59 k_X12_167 ?_
          refine x_iret dX12_above_61 ?_
          first
            | (exact absurd (h_22.symm.trans h_52) (by decide))
            | (refine ⟨congrArg (fun z => some (Value.int z)) ?_, hM.q (hF1.s hF9) hS9⟩
               unfold R_above
               rw [if_pos (inR_of hg (by omega)), tg]
               first
                 | (rw [fnd_some (f := (fun n => abv (hrs σ.v n) g)) (j := h) (by omega) (by omega) h_52 (fun i _ hi => hal i hi)]; rfl)
                 | (rw [fnd_none (f := (fun n => abv (hrs σ.v n) g)) (fun i _ hi => by
                      rcases Nat.lt_or_ge i h with z | z
                      · exact hal i z
                      · obtain rfl : i = h := by omega
                        exact h_52)]; rfl))
            | (exfalso; omega)
        · refine x_iload_n dX12_above_55 rfl ?_
          refine x_goto 61 dX12_above_56 ?_
          refine x_iret dX12_above_61 ?_
          first
            | (exact absurd (h_22.symm.trans h_52) (by decide))
            | (refine ⟨congrArg (fun z => some (Value.int z)) ?_, hM.q (hF1.s hF9) hS9⟩
               unfold R_above
               rw [if_pos (inR_of hg (by omega)), tg]
               first
                 | (rw [fnd_some (f := (fun n => abv (hrs σ.v n) g)) (j := h) (by omega) (by omega) h_52 (fun i _ hi => hal i hi)]; rfl)
                 | (rw [fnd_none (f := (fun n => abv (hrs σ.v n) g)) (fun i _ hi => by
                      rcases Nat.lt_or_ge i h with z | z
                      · exact hal i z
                      · obtain rfl : i = h := by omega
                        exact h_52)]; rfl))
            | (exfalso; omega)
      · refine x_iload_n dX12_above_25 rfl ?_
        refine x_bipush (v := nI 60) dX12_above_26 rfl ?_
        refine y_icmp_ge 41 dX12_above_28 (by omega) (by omega) (fun h_28 => ?_) (fun h_28 => ?_)
        · refine x_aload_n dX12_above_41 rfl ?_
          refine x_iload_n dX12_above_42 rfl ?_
          refine q_X12_184 (m_isAbove hS1 hne.1 hg1) dX12_above_43 rfl ?_
          rintro _ _ ⟨rfl, rfl⟩
          refine x_istore_n dX12_above_46 ?_
          refine x_aload_n dX12_above_47 rfl ?_
          refine q_X12_223 (m_takeBack hA1) dX12_above_48 rfl ?_
          rintro _ M9 ⟨rfl, hS9, hF9⟩
          refine x_iload_n dX12_above_51 rfl ?_
          refine z_if_eq 59 dX12_above_52 (fun h_52 => ?_) (fun h_52 => ?_)
          · refine x_ldc dX12_above_59 k_X12_167 ?_
            refine x_iret dX12_above_61 ?_
            first
              | (exact absurd (h_22.symm.trans h_52) (by decide))
              | (refine ⟨congrArg (fun z => some (Value.int z)) ?_, hM.q (hF1.s hF9) hS9⟩
                 unfold R_above
                 rw [if_pos (inR_of hg (by omega)), tg]
                 first
                   | (rw [fnd_some (f := (fun n => abv (hrs σ.v n) g)) (j := h) (by omega) (by omega) h_52 (fun i _ hi => hal i hi)]; rfl)
                   | (rw [fnd_none (f := (fun n => abv (hrs σ.v n) g)) (fun i _ hi => by
                        rcases Nat.lt_or_ge i h with z | z
                        · exact hal i z
                        · obtain rfl : i = h := by omega
                          exact h_52)]; rfl))
              | (exfalso; omega)
          · refine x_iload_n dX12_above_55 rfl ?_
            refine x_goto 61 dX12_above_56 ?_
            refine x_iret dX12_above_61 ?_
            first
              | (exact absurd (h_22.symm.trans h_52) (by decide))
              | (refine ⟨congrArg (fun z => some (Value.int z)) ?_, hM.q (hF1.s hF9) hS9⟩
                 unfold R_above
                 rw [if_pos (inR_of hg (by omega)), tg]
                 first
                   | (rw [fnd_some (f := (fun n => abv (hrs σ.v n) g)) (j := h) (by omega) (by omega) h_52 (fun i _ hi => hal i hi)]; rfl)
                   | (rw [fnd_none (f := (fun n => abv (hrs σ.v n) g)) (fun i _ hi => by
                        rcases Nat.lt_or_ge i h with z | z
                        · exact hal i z
                        · obtain rfl : i = h := by omega
                          exact h_52)]; rfl))
              | (exfalso; omega)
        · exfalso; omega
    | succ k ih =>
      intro h M1 hk
      obtain ⟨hk, hS1, hA1, hF1, hal⟩ := hk
      have hne := hrs_ne hw h (by omega)
      have hI1 := hrs_Iv hI h (by omega)
      have hg1 : g < hrs σ.v h 2 := by rw [hne.2.1 2 (by omega) (by omega)]; exact hg
      refine x_aload_n dX12_above_17 rfl ?_
      refine x_iload_n dX12_above_18 rfl ?_
      refine q_X12_184 (m_isAbove hS1 hne.1 hg1) dX12_above_19 rfl ?_
      rintro _ _ ⟨rfl, rfl⟩
      refine z_if_ne 41 dX12_above_22 (fun h_22 => ?_) (fun h_22 => ?_)
      · refine x_aload_n dX12_above_41 rfl ?_
        refine x_iload_n dX12_above_42 rfl ?_
        refine q_X12_184 (m_isAbove hS1 hne.1 hg1) dX12_above_43 rfl ?_
        rintro _ _ ⟨rfl, rfl⟩
        refine x_istore_n dX12_above_46 ?_
        refine x_aload_n dX12_above_47 rfl ?_
        refine q_X12_223 (m_takeBack hA1) dX12_above_48 rfl ?_
        rintro _ M9 ⟨rfl, hS9, hF9⟩
        refine x_iload_n dX12_above_51 rfl ?_
        refine z_if_eq 59 dX12_above_52 (fun h_52 => ?_) (fun h_52 => ?_)
        · refine x_ldc dX12_above_59 k_X12_167 ?_
          refine x_iret dX12_above_61 ?_
          first
            | (exact absurd (h_22.symm.trans h_52) (by decide))
            | (refine ⟨congrArg (fun z => some (Value.int z)) ?_, hM.q (hF1.s hF9) hS9⟩
               unfold R_above
               rw [if_pos (inR_of hg (by omega)), tg]
               first
                 | (rw [fnd_some (f := (fun n => abv (hrs σ.v n) g)) (j := h) (by omega) (by omega) h_52 (fun i _ hi => hal i hi)]; rfl)
                 | (rw [fnd_none (f := (fun n => abv (hrs σ.v n) g)) (fun i _ hi => by
                      rcases Nat.lt_or_ge i h with z | z
                      · exact hal i z
                      · obtain rfl : i = h := by omega
                        exact h_52)]; rfl))
            | (exfalso; omega)
        · refine x_iload_n dX12_above_55 rfl ?_
          refine x_goto 61 dX12_above_56 ?_
          refine x_iret dX12_above_61 ?_
          first
            | (exact absurd (h_22.symm.trans h_52) (by decide))
            | (refine ⟨congrArg (fun z => some (Value.int z)) ?_, hM.q (hF1.s hF9) hS9⟩
               unfold R_above
               rw [if_pos (inR_of hg (by omega)), tg]
               first
                 | (rw [fnd_some (f := (fun n => abv (hrs σ.v n) g)) (j := h) (by omega) (by omega) h_52 (fun i _ hi => hal i hi)]; rfl)
                 | (rw [fnd_none (f := (fun n => abv (hrs σ.v n) g)) (fun i _ hi => by
                      rcases Nat.lt_or_ge i h with z | z
                      · exact hal i z
                      · obtain rfl : i = h := by omega
                        exact h_52)]; rfl))
            | (exfalso; omega)
      · refine x_iload_n dX12_above_25 rfl ?_
        refine x_bipush (v := nI 60) dX12_above_26 rfl ?_
        refine y_icmp_ge 41 dX12_above_28 (by omega) (by omega) (fun h_28 => ?_) (fun h_28 => ?_)
        · refine x_aload_n dX12_above_41 rfl ?_
          refine x_iload_n dX12_above_42 rfl ?_
          refine q_X12_184 (m_isAbove hS1 hne.1 hg1) dX12_above_43 rfl ?_
          rintro _ _ ⟨rfl, rfl⟩
          refine x_istore_n dX12_above_46 ?_
          refine x_aload_n dX12_above_47 rfl ?_
          refine q_X12_223 (m_takeBack hA1) dX12_above_48 rfl ?_
          rintro _ M9 ⟨rfl, hS9, hF9⟩
          refine x_iload_n dX12_above_51 rfl ?_
          refine z_if_eq 59 dX12_above_52 (fun h_52 => ?_) (fun h_52 => ?_)
          · refine x_ldc dX12_above_59 k_X12_167 ?_
            refine x_iret dX12_above_61 ?_
            first
              | (exact absurd (h_22.symm.trans h_52) (by decide))
              | (refine ⟨congrArg (fun z => some (Value.int z)) ?_, hM.q (hF1.s hF9) hS9⟩
                 unfold R_above
                 rw [if_pos (inR_of hg (by omega)), tg]
                 first
                   | (rw [fnd_some (f := (fun n => abv (hrs σ.v n) g)) (j := h) (by omega) (by omega) h_52 (fun i _ hi => hal i hi)]; rfl)
                   | (rw [fnd_none (f := (fun n => abv (hrs σ.v n) g)) (fun i _ hi => by
                        rcases Nat.lt_or_ge i h with z | z
                        · exact hal i z
                        · obtain rfl : i = h := by omega
                          exact h_52)]; rfl))
              | (exfalso; omega)
          · refine x_iload_n dX12_above_55 rfl ?_
            refine x_goto 61 dX12_above_56 ?_
            refine x_iret dX12_above_61 ?_
            first
              | (exact absurd (h_22.symm.trans h_52) (by decide))
              | (refine ⟨congrArg (fun z => some (Value.int z)) ?_, hM.q (hF1.s hF9) hS9⟩
                 unfold R_above
                 rw [if_pos (inR_of hg (by omega)), tg]
                 first
                   | (rw [fnd_some (f := (fun n => abv (hrs σ.v n) g)) (j := h) (by omega) (by omega) h_52 (fun i _ hi => hal i hi)]; rfl)
                   | (rw [fnd_none (f := (fun n => abv (hrs σ.v n) g)) (fun i _ hi => by
                        rcases Nat.lt_or_ge i h with z | z
                        · exact hal i z
                        · obtain rfl : i = h := by omega
                          exact h_52)]; rfl))
              | (exfalso; omega)
        · refine x_aload_n dX12_above_31 rfl ?_
          refine q_X12_203 (m_oneHour hS1 hI1) dX12_above_32 rfl ?_
          rintro _ M2 ⟨rfl, hS2, hF2⟩
          refine y_iinc dX12_above_35 rfl ?_
          refine x_goto 17 dX12_above_38 ?_
          refine ih (h + 1) _ ⟨by omega, hS2, hA1.keep hF2, hF1.s hF2, fun i hi => ?_⟩
          rcases Nat.lt_or_ge i h with z | z
          · exact hal i z
          · obtain rfl : i = h := by omega
            exact h_22
  refine x_aload_n dX12_above_0 rfl ?_
  refine x_iload_n dX12_above_1 rfl ?_
  refine q_X12_209 (m_isGoer hS (by omega)) dX12_above_2 rfl ?_
  rintro _ _ ⟨rfl, rfl⟩
  refine z_if_ne 11 dX12_above_5 (fun h_5 => ?_) (fun h_5 => ?_)
  · obtain ⟨g, hg, rfl⟩ := inR_nI h_5 (by omega)
    obtain ⟨hI, h999⟩ := hLv.goer hg
    have tg := tN_nI (g := g) (by omega)
    have hgo := hw.goer hg
    refine x_aload_n dX12_above_11 rfl ?_
    refine q_X12_228 (m_putAside hS) dX12_above_12 rfl ?_
    rintro _ M0 ⟨rfl, hA0, hF0⟩
    have hS0 := hS.fc hF0 (by decide)
    refine y_iconst (a := 0) dX12_above_15 rfl ?_
    refine x_istore_n dX12_above_16 ?_
    exact key g hg 60 0 _ ⟨rfl, hS0, hA0, FQ.rf.c hF0 (by omega), fun i hi => absurd hi (Nat.not_lt_zero _)⟩
  · refine x_ldc dX12_above_8 k_X12_70 ?_
    refine x_iret dX12_above_10 ?_
    refine ⟨congrArg (fun z => some (Value.int z)) ?_, hM, FrC.rf⟩
    simp [R_above, *]
set_option maxRecDepth 100000 in
set_option maxHeartbeats 4000000 in
theorem m_broken {Ω : Om} {l : Launch} {M : Mem} {σ : Sg} (hM : IM M σ) (hW : SgW σ) {x : Int32} : Ct Ω l yX12_broken cX12_broken 4 9 (some .int) [.ref (Ω.2.2 34), .int x] M (fun ro M' => ro = some (.int (R_broken σ.v x)) ∧ IM M' σ ∧ FrC M M') := by
  have hS := hM.ms
  have hLv : Lv σ.v := hW.2.2.1
  have hw := hLv.wv
  have hn := hw.nums
  have hth := hM.there
  refine ct_of (by decide) (Nat.le_of_ble_eq_true rfl) ?_
  intro p e R s m args below meth c
  have key : ∀ (r : Nat), r < σ.v 0 → ∀ (k h : Nat) (M1 : Mem), h + k = 60 ∧ MsR M1 (hrs σ.v h) ∧ AsR M1 σ.v ∧ FQ M M1 ∧ (∀ i, i < h → (fun n => !decide (brkS (hrs σ.v n) &&& 2 ^ r = 0)) i = false) → X (mkG p l e R s m args below meth c Ω (fun ro M' => ro = some (.int (R_broken σ.v (nI r))) ∧ IM M' σ ∧ FrC M M')) Ω RX12 cX12_broken 4 9 (some .int) 17 [some (.ref (Ω.2.2 34)), some (.int (nI r)), some (.int (nI h)), none] [] M1 := by
    intro r hr k
    obtain ⟨hI, h999⟩ := hLv.rung hr
    have tr := tN_nI (g := r) (by omega)
    induction k with
    | zero =>
      intro h M1 hk
      obtain ⟨hk, hS1, hA1, hF1, hal⟩ := hk
      have hne := hrs_ne hw h (by omega)
      have hI1 := hrs_Iv hI h (by omega)
      have h01 := hne.2.1 0 (by omega) (by omega)
      have hst := hne.1.2.2.2.2.2.2.1 r (by omega)
      have hf : (!decide (brkS (hrs σ.v h) &&& 2 ^ r = 0)) = decide (hrs σ.v h (6 + r) = 0) := by
        rw [and_bit0, brkS_bit, h01]
        simp [hr]
      refine x_aload_n dX12_broken_17 rfl ?_
      refine g_X12_19 dX12_broken_18 ?_
      refine x_bipush (v := nI 6) dX12_broken_21 rfl ?_
      refine x_iload_n dX12_broken_23 rfl ?_
      refine y_iadd dX12_broken_24 ?_
      refine x_ial dX12_broken_25 (⟨by decide, rfl, rfl, by decide⟩ : Ar 38 45) (by omega) ?_
      rw [hS1.at (by omega)]
      refine y_if_le 45 dX12_broken_26 (by omega) (fun h_26 => ?_) (fun h_26 => ?_)
      · refine x_aload_n dX12_broken_45 rfl ?_
        refine g_X12_19 dX12_broken_46 ?_
        refine x_bipush (v := nI 6) dX12_broken_49 rfl ?_
        refine x_iload_n dX12_broken_51 rfl ?_
        refine y_iadd dX12_broken_52 ?_
        refine x_ial dX12_broken_53 (⟨by decide, rfl, rfl, by decide⟩ : Ar 38 45) (by omega) ?_
        rw [hS1.at (by omega)]
        refine y_if_ne 61 dX12_broken_54 (by omega) (fun h_54 => ?_) (fun h_54 => ?_)
        · refine x_iconst (v := bI false) dX12_broken_61 rfl ?_
          refine x_istore_n dX12_broken_62 ?_
          refine x_aload_n dX12_broken_63 rfl ?_
          refine q_X12_223 (m_takeBack hA1) dX12_broken_64 rfl ?_
          rintro _ M9 ⟨rfl, hS9, hF9⟩
          refine x_iload_n dX12_broken_67 rfl ?_
          refine z_if_eq 75 dX12_broken_68 (fun _ => ?_) (fun h => absurd h (by decide))
          refine x_ldc dX12_broken_75 k_X12_167 ?_
          refine x_iret dX12_broken_77 ?_
          first
            | (exfalso; omega)
            | (refine ⟨congrArg (fun z => some (Value.int z)) ?_, hM.q (hF1.s hF9) hS9⟩
               unfold R_broken
               rw [if_pos (inR_of hr (by omega)), tr]
               first
                 | (rw [fnd_some (f := (fun n => !decide (brkS (hrs σ.v n) &&& 2 ^ r = 0))) (j := h) (by omega) (by omega) (by show (!decide (brkS (hrs σ.v h) &&& 2 ^ r = 0)) = true; rw [hf]; simpa using h_54) (fun i _ hi => hal i hi)]; rfl)
                 | (rw [fnd_none (f := (fun n => !decide (brkS (hrs σ.v n) &&& 2 ^ r = 0))) (fun i _ hi => by
                      rcases Nat.lt_or_ge i h with z | z
                      · exact hal i z
                      · obtain rfl : i = h := by omega
                        show (!decide (brkS (hrs σ.v i) &&& 2 ^ r = 0)) = false
                        rw [hf]; simpa using h_54)]; rfl))
        · refine x_iconst (v := bI true) dX12_broken_57 rfl ?_
          refine x_goto 62 dX12_broken_58 ?_
          refine x_istore_n dX12_broken_62 ?_
          refine x_aload_n dX12_broken_63 rfl ?_
          refine q_X12_223 (m_takeBack hA1) dX12_broken_64 rfl ?_
          rintro _ M9 ⟨rfl, hS9, hF9⟩
          refine x_iload_n dX12_broken_67 rfl ?_
          refine z_if_eq 75 dX12_broken_68 (fun h => absurd h (by decide)) (fun _ => ?_)
          refine x_iload_n dX12_broken_71 rfl ?_
          refine x_goto 77 dX12_broken_72 ?_
          refine x_iret dX12_broken_77 ?_
          first
            | (exfalso; omega)
            | (refine ⟨congrArg (fun z => some (Value.int z)) ?_, hM.q (hF1.s hF9) hS9⟩
               unfold R_broken
               rw [if_pos (inR_of hr (by omega)), tr]
               first
                 | (rw [fnd_some (f := (fun n => !decide (brkS (hrs σ.v n) &&& 2 ^ r = 0))) (j := h) (by omega) (by omega) (by show (!decide (brkS (hrs σ.v h) &&& 2 ^ r = 0)) = true; rw [hf]; simpa using h_54) (fun i _ hi => hal i hi)]; rfl)
                 | (rw [fnd_none (f := (fun n => !decide (brkS (hrs σ.v n) &&& 2 ^ r = 0))) (fun i _ hi => by
                      rcases Nat.lt_or_ge i h with z | z
                      · exact hal i z
                      · obtain rfl : i = h := by omega
                        show (!decide (brkS (hrs σ.v i) &&& 2 ^ r = 0)) = false
                        rw [hf]; simpa using h_54)]; rfl))
      · refine x_iload_n dX12_broken_29 rfl ?_
        refine x_bipush (v := nI 60) dX12_broken_30 rfl ?_
        refine y_icmp_ge 45 dX12_broken_32 (by omega) (by omega) (fun h_32 => ?_) (fun h_32 => ?_)
        · refine x_aload_n dX12_broken_45 rfl ?_
          refine g_X12_19 dX12_broken_46 ?_
          refine x_bipush (v := nI 6) dX12_broken_49 rfl ?_
          refine x_iload_n dX12_broken_51 rfl ?_
          refine y_iadd dX12_broken_52 ?_
          refine x_ial dX12_broken_53 (⟨by decide, rfl, rfl, by decide⟩ : Ar 38 45) (by omega) ?_
          rw [hS1.at (by omega)]
          refine y_if_ne 61 dX12_broken_54 (by omega) (fun h_54 => ?_) (fun h_54 => ?_)
          · refine x_iconst (v := bI false) dX12_broken_61 rfl ?_
            refine x_istore_n dX12_broken_62 ?_
            refine x_aload_n dX12_broken_63 rfl ?_
            refine q_X12_223 (m_takeBack hA1) dX12_broken_64 rfl ?_
            rintro _ M9 ⟨rfl, hS9, hF9⟩
            refine x_iload_n dX12_broken_67 rfl ?_
            refine z_if_eq 75 dX12_broken_68 (fun _ => ?_) (fun h => absurd h (by decide))
            refine x_ldc dX12_broken_75 k_X12_167 ?_
            refine x_iret dX12_broken_77 ?_
            first
              | (exfalso; omega)
              | (refine ⟨congrArg (fun z => some (Value.int z)) ?_, hM.q (hF1.s hF9) hS9⟩
                 unfold R_broken
                 rw [if_pos (inR_of hr (by omega)), tr]
                 first
                   | (rw [fnd_some (f := (fun n => !decide (brkS (hrs σ.v n) &&& 2 ^ r = 0))) (j := h) (by omega) (by omega) (by show (!decide (brkS (hrs σ.v h) &&& 2 ^ r = 0)) = true; rw [hf]; simpa using h_54) (fun i _ hi => hal i hi)]; rfl)
                   | (rw [fnd_none (f := (fun n => !decide (brkS (hrs σ.v n) &&& 2 ^ r = 0))) (fun i _ hi => by
                        rcases Nat.lt_or_ge i h with z | z
                        · exact hal i z
                        · obtain rfl : i = h := by omega
                          show (!decide (brkS (hrs σ.v i) &&& 2 ^ r = 0)) = false
                          rw [hf]; simpa using h_54)]; rfl))
          · refine x_iconst (v := bI true) dX12_broken_57 rfl ?_
            refine x_goto 62 dX12_broken_58 ?_
            refine x_istore_n dX12_broken_62 ?_
            refine x_aload_n dX12_broken_63 rfl ?_
            refine q_X12_223 (m_takeBack hA1) dX12_broken_64 rfl ?_
            rintro _ M9 ⟨rfl, hS9, hF9⟩
            refine x_iload_n dX12_broken_67 rfl ?_
            refine z_if_eq 75 dX12_broken_68 (fun h => absurd h (by decide)) (fun _ => ?_)
            refine x_iload_n dX12_broken_71 rfl ?_
            refine x_goto 77 dX12_broken_72 ?_
            refine x_iret dX12_broken_77 ?_
            first
              | (exfalso; omega)
              | (refine ⟨congrArg (fun z => some (Value.int z)) ?_, hM.q (hF1.s hF9) hS9⟩
                 unfold R_broken
                 rw [if_pos (inR_of hr (by omega)), tr]
                 first
                   | (rw [fnd_some (f := (fun n => !decide (brkS (hrs σ.v n) &&& 2 ^ r = 0))) (j := h) (by omega) (by omega) (by show (!decide (brkS (hrs σ.v h) &&& 2 ^ r = 0)) = true; rw [hf]; simpa using h_54) (fun i _ hi => hal i hi)]; rfl)
                   | (rw [fnd_none (f := (fun n => !decide (brkS (hrs σ.v n) &&& 2 ^ r = 0))) (fun i _ hi => by
                        rcases Nat.lt_or_ge i h with z | z
                        · exact hal i z
                        · obtain rfl : i = h := by omega
                          show (!decide (brkS (hrs σ.v i) &&& 2 ^ r = 0)) = false
                          rw [hf]; simpa using h_54)]; rfl))
        · exfalso; omega
    | succ k ih =>
      intro h M1 hk
      obtain ⟨hk, hS1, hA1, hF1, hal⟩ := hk
      have hne := hrs_ne hw h (by omega)
      have hI1 := hrs_Iv hI h (by omega)
      have h01 := hne.2.1 0 (by omega) (by omega)
      have hst := hne.1.2.2.2.2.2.2.1 r (by omega)
      have hf : (!decide (brkS (hrs σ.v h) &&& 2 ^ r = 0)) = decide (hrs σ.v h (6 + r) = 0) := by
        rw [and_bit0, brkS_bit, h01]
        simp [hr]
      refine x_aload_n dX12_broken_17 rfl ?_
      refine g_X12_19 dX12_broken_18 ?_
      refine x_bipush (v := nI 6) dX12_broken_21 rfl ?_
      refine x_iload_n dX12_broken_23 rfl ?_
      refine y_iadd dX12_broken_24 ?_
      refine x_ial dX12_broken_25 (⟨by decide, rfl, rfl, by decide⟩ : Ar 38 45) (by omega) ?_
      rw [hS1.at (by omega)]
      refine y_if_le 45 dX12_broken_26 (by omega) (fun h_26 => ?_) (fun h_26 => ?_)
      · refine x_aload_n dX12_broken_45 rfl ?_
        refine g_X12_19 dX12_broken_46 ?_
        refine x_bipush (v := nI 6) dX12_broken_49 rfl ?_
        refine x_iload_n dX12_broken_51 rfl ?_
        refine y_iadd dX12_broken_52 ?_
        refine x_ial dX12_broken_53 (⟨by decide, rfl, rfl, by decide⟩ : Ar 38 45) (by omega) ?_
        rw [hS1.at (by omega)]
        refine y_if_ne 61 dX12_broken_54 (by omega) (fun h_54 => ?_) (fun h_54 => ?_)
        · refine x_iconst (v := bI false) dX12_broken_61 rfl ?_
          refine x_istore_n dX12_broken_62 ?_
          refine x_aload_n dX12_broken_63 rfl ?_
          refine q_X12_223 (m_takeBack hA1) dX12_broken_64 rfl ?_
          rintro _ M9 ⟨rfl, hS9, hF9⟩
          refine x_iload_n dX12_broken_67 rfl ?_
          refine z_if_eq 75 dX12_broken_68 (fun _ => ?_) (fun h => absurd h (by decide))
          refine x_ldc dX12_broken_75 k_X12_167 ?_
          refine x_iret dX12_broken_77 ?_
          first
            | (exfalso; omega)
            | (refine ⟨congrArg (fun z => some (Value.int z)) ?_, hM.q (hF1.s hF9) hS9⟩
               unfold R_broken
               rw [if_pos (inR_of hr (by omega)), tr]
               first
                 | (rw [fnd_some (f := (fun n => !decide (brkS (hrs σ.v n) &&& 2 ^ r = 0))) (j := h) (by omega) (by omega) (by show (!decide (brkS (hrs σ.v h) &&& 2 ^ r = 0)) = true; rw [hf]; simpa using h_54) (fun i _ hi => hal i hi)]; rfl)
                 | (rw [fnd_none (f := (fun n => !decide (brkS (hrs σ.v n) &&& 2 ^ r = 0))) (fun i _ hi => by
                      rcases Nat.lt_or_ge i h with z | z
                      · exact hal i z
                      · obtain rfl : i = h := by omega
                        show (!decide (brkS (hrs σ.v i) &&& 2 ^ r = 0)) = false
                        rw [hf]; simpa using h_54)]; rfl))
        · refine x_iconst (v := bI true) dX12_broken_57 rfl ?_
          refine x_goto 62 dX12_broken_58 ?_
          refine x_istore_n dX12_broken_62 ?_
          refine x_aload_n dX12_broken_63 rfl ?_
          refine q_X12_223 (m_takeBack hA1) dX12_broken_64 rfl ?_
          rintro _ M9 ⟨rfl, hS9, hF9⟩
          refine x_iload_n dX12_broken_67 rfl ?_
          refine z_if_eq 75 dX12_broken_68 (fun h => absurd h (by decide)) (fun _ => ?_)
          refine x_iload_n dX12_broken_71 rfl ?_
          refine x_goto 77 dX12_broken_72 ?_
          refine x_iret dX12_broken_77 ?_
          first
            | (exfalso; omega)
            | (refine ⟨congrArg (fun z => some (Value.int z)) ?_, hM.q (hF1.s hF9) hS9⟩
               unfold R_broken
               rw [if_pos (inR_of hr (by omega)), tr]
               first
                 | (rw [fnd_some (f := (fun n => !decide (brkS (hrs σ.v n) &&& 2 ^ r = 0))) (j := h) (by omega) (by omega) (by show (!decide (brkS (hrs σ.v h) &&& 2 ^ r = 0)) = true; rw [hf]; simpa using h_54) (fun i _ hi => hal i hi)]; rfl)
                 | (rw [fnd_none (f := (fun n => !decide (brkS (hrs σ.v n) &&& 2 ^ r = 0))) (fun i _ hi => by
                      rcases Nat.lt_or_ge i h with z | z
                      · exact hal i z
                      · obtain rfl : i = h := by omega
                        show (!decide (brkS (hrs σ.v i) &&& 2 ^ r = 0)) = false
                        rw [hf]; simpa using h_54)]; rfl))
      · refine x_iload_n dX12_broken_29 rfl ?_
        refine x_bipush (v := nI 60) dX12_broken_30 rfl ?_
        refine y_icmp_ge 45 dX12_broken_32 (by omega) (by omega) (fun h_32 => ?_) (fun h_32 => ?_)
        · refine x_aload_n dX12_broken_45 rfl ?_
          refine g_X12_19 dX12_broken_46 ?_
          refine x_bipush (v := nI 6) dX12_broken_49 rfl ?_
          refine x_iload_n dX12_broken_51 rfl ?_
          refine y_iadd dX12_broken_52 ?_
          refine x_ial dX12_broken_53 (⟨by decide, rfl, rfl, by decide⟩ : Ar 38 45) (by omega) ?_
          rw [hS1.at (by omega)]
          refine y_if_ne 61 dX12_broken_54 (by omega) (fun h_54 => ?_) (fun h_54 => ?_)
          · refine x_iconst (v := bI false) dX12_broken_61 rfl ?_
            refine x_istore_n dX12_broken_62 ?_
            refine x_aload_n dX12_broken_63 rfl ?_
            refine q_X12_223 (m_takeBack hA1) dX12_broken_64 rfl ?_
            rintro _ M9 ⟨rfl, hS9, hF9⟩
            refine x_iload_n dX12_broken_67 rfl ?_
            refine z_if_eq 75 dX12_broken_68 (fun _ => ?_) (fun h => absurd h (by decide))
            refine x_ldc dX12_broken_75 k_X12_167 ?_
            refine x_iret dX12_broken_77 ?_
            first
              | (exfalso; omega)
              | (refine ⟨congrArg (fun z => some (Value.int z)) ?_, hM.q (hF1.s hF9) hS9⟩
                 unfold R_broken
                 rw [if_pos (inR_of hr (by omega)), tr]
                 first
                   | (rw [fnd_some (f := (fun n => !decide (brkS (hrs σ.v n) &&& 2 ^ r = 0))) (j := h) (by omega) (by omega) (by show (!decide (brkS (hrs σ.v h) &&& 2 ^ r = 0)) = true; rw [hf]; simpa using h_54) (fun i _ hi => hal i hi)]; rfl)
                   | (rw [fnd_none (f := (fun n => !decide (brkS (hrs σ.v n) &&& 2 ^ r = 0))) (fun i _ hi => by
                        rcases Nat.lt_or_ge i h with z | z
                        · exact hal i z
                        · obtain rfl : i = h := by omega
                          show (!decide (brkS (hrs σ.v i) &&& 2 ^ r = 0)) = false
                          rw [hf]; simpa using h_54)]; rfl))
          · refine x_iconst (v := bI true) dX12_broken_57 rfl ?_
            refine x_goto 62 dX12_broken_58 ?_
            refine x_istore_n dX12_broken_62 ?_
            refine x_aload_n dX12_broken_63 rfl ?_
            refine q_X12_223 (m_takeBack hA1) dX12_broken_64 rfl ?_
            rintro _ M9 ⟨rfl, hS9, hF9⟩
            refine x_iload_n dX12_broken_67 rfl ?_
            refine z_if_eq 75 dX12_broken_68 (fun h => absurd h (by decide)) (fun _ => ?_)
            refine x_iload_n dX12_broken_71 rfl ?_
            refine x_goto 77 dX12_broken_72 ?_
            refine x_iret dX12_broken_77 ?_
            first
              | (exfalso; omega)
              | (refine ⟨congrArg (fun z => some (Value.int z)) ?_, hM.q (hF1.s hF9) hS9⟩
                 unfold R_broken
                 rw [if_pos (inR_of hr (by omega)), tr]
                 first
                   | (rw [fnd_some (f := (fun n => !decide (brkS (hrs σ.v n) &&& 2 ^ r = 0))) (j := h) (by omega) (by omega) (by show (!decide (brkS (hrs σ.v h) &&& 2 ^ r = 0)) = true; rw [hf]; simpa using h_54) (fun i _ hi => hal i hi)]; rfl)
                   | (rw [fnd_none (f := (fun n => !decide (brkS (hrs σ.v n) &&& 2 ^ r = 0))) (fun i _ hi => by
                        rcases Nat.lt_or_ge i h with z | z
                        · exact hal i z
                        · obtain rfl : i = h := by omega
                          show (!decide (brkS (hrs σ.v i) &&& 2 ^ r = 0)) = false
                          rw [hf]; simpa using h_54)]; rfl))
        · refine x_aload_n dX12_broken_35 rfl ?_
          refine q_X12_203 (m_oneHour hS1 hI1) dX12_broken_36 rfl ?_
          rintro _ M2 ⟨rfl, hS2, hF2⟩
          refine y_iinc dX12_broken_39 rfl ?_
          refine x_goto 17 dX12_broken_42 ?_
          refine ih (h + 1) _ ⟨by omega, hS2, hA1.keep hF2, hF1.s hF2, fun i hi => ?_⟩
          rcases Nat.lt_or_ge i h with z | z
          · exact hal i z
          · obtain rfl : i = h := by omega
            show (!decide (brkS (hrs σ.v i) &&& 2 ^ r = 0)) = false
            rw [hf]; simp; omega
  refine x_aload_n dX12_broken_0 rfl ?_
  refine x_iload_n dX12_broken_1 rfl ?_
  refine q_X12_214 (m_isRung hS (by omega)) dX12_broken_2 rfl ?_
  rintro _ _ ⟨rfl, rfl⟩
  refine z_if_ne 11 dX12_broken_5 (fun h_5 => ?_) (fun h_5 => ?_)
  · obtain ⟨r, hr, rfl⟩ := inR_nI h_5 (by omega)
    obtain ⟨hI, h999⟩ := hLv.rung hr
    have tr := tN_nI (g := r) (by omega)
    have hst := hw.str (p := r + 1) (by omega)
    refine x_aload_n dX12_broken_11 rfl ?_
    refine q_X12_228 (m_putAside hS) dX12_broken_12 rfl ?_
    rintro _ M0 ⟨rfl, hA0, hF0⟩
    have hS0 := hS.fc hF0 (by decide)
    refine y_iconst (a := 0) dX12_broken_15 rfl ?_
    refine x_istore_n dX12_broken_16 ?_
    exact key r hr 60 0 _ ⟨rfl, hS0, hA0, FQ.rf.c hF0 (by omega), fun i hi => absurd hi (Nat.not_lt_zero _)⟩
  · refine x_ldc dX12_broken_8 k_X12_70 ?_
    refine x_iret dX12_broken_10 ?_
    refine ⟨congrArg (fun z => some (Value.int z)) ?_, hM, FrC.rf⟩
    simp [R_broken, *]
