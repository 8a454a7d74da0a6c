/-! LAKE: what holds of every lake; who never rises -/
theorem orN_bit {P : Nat → Prop} [DecidablePred P] (k : Nat) : ∀ (n : Nat), (orN (fun g => if P g then 2 ^ g else 0) n).testBit k = decide (k < n ∧ P k)
  | 0 => by simp [orN]
  | n + 1 => by
    simp only [orN]
    rw [Nat.testBit_or, orN_bit k n]
    by_cases hp : P n
    · rw [if_pos hp, Nat.testBit_two_pow]
      by_cases e : n = k
      · subst e; simp [hp]
      · have : (k < n ∧ P k) ↔ (k < n + 1 ∧ P k) := by
          constructor
          · rintro ⟨a, b⟩; exact ⟨by omega, b⟩
          · rintro ⟨a, b⟩; exact ⟨by omega, b⟩
        simp [e, this]
    · rw [if_neg hp, Nat.zero_testBit, Bool.or_false]
      have : (k < n ∧ P k) ↔ (k < n + 1 ∧ P k) := by
        constructor
        · rintro ⟨a, b⟩; exact ⟨by omega, b⟩
        · rintro ⟨a, b⟩
          have : k ≠ n := fun e => hp (e ▸ b)
          exact ⟨by omega, b⟩
      simp [this]
theorem whoA_bit (v : Nat → Nat) (p k : Nat) : (whoA v p).testBit k = decide (k < v 2 ∧ v (33 + k) = p) := orN_bit k (v 2)
theorem clr_bit : ∀ u, u < 64 → ∀ g, g < 6 → ∀ k, k < 6 → (clr u g).testBit k = (u.testBit k && !decide (k = g)) := by decide +kernel
theorem or_bit {u g k : Nat} : (u ||| 2 ^ g).testBit k = (u.testBit k || decide (g = k)) := by rw [Nat.testBit_or, Nat.testBit_two_pow]
/-- what holds of every lake: who is in the boat goes up; who stands on a rung, it is sound -/
def Iv (v : Nat → Nat) : Prop := Wv v ∧ 2 ≤ v 0 ∧ ∀ g, g < v 2 → (v (33 + g) = 0 → upw v g = true) ∧ (1 ≤ v (33 + g) → v (33 + g) ≤ v 0 → ¬ v (5 + v (33 + g)) = 0)
theorem upF_sound (v : Nat → Nat) {p q : Nat} (h : upF v p = some q) : brk v q = false := by
  unfold upF at h
  split at h
  · cases h
  · split at h
    · split at h
      · cases h
      · next z => cases h; simpa using z
    · next z => cases h; simpa using z
theorem dnF_sound (v : Nat → Nat) {p q : Nat} (h : dnF v p = some q) : brk v q = false := by
  unfold dnF at h
  split at h
  · cases h
  · split at h
    · split at h
      · cases h
      · next z => cases h; simpa using z
    · next z => cases h; simpa using z
theorem suP_up (v : Nat → Nat) {g q : Nat} (h : suP v g = some q) : upF v (v (33 + g)) = some q := by
  unfold suP at h
  split at h
  · cases h
  · next z =>
    split at h
    · cases h
    · cases h; exact z
theorem brk_ne {v : Nat → Nat} {q : Nat} (h : brk v q = false) (h1 : 1 ≤ q) (h2 : q ≤ v 0) : ¬ v (5 + q) = 0 := by
  intro z
  simp [brk, h1, h2, z] at h
section
variable {v : Nat → Nat}
theorem Iv.su (h : Iv v) {g : Nat} (hg : g < v 2) : Iv (suV v g) := by
  obtain ⟨hw, h0, hi⟩ := h
  have hn := hw.nums
  have e0 : suV v g 0 = v 0 := suV_ne (by omega)
  have e5 : suV v g 5 = v 5 := suV_ne (by omega)
  refine ⟨hw.su hg, by rw [e0]; exact h0, fun k hk => ?_⟩
  rw [suV_2] at hk
  have hs : ∀ q, q ≤ v 0 + 1 → suV v g (5 + q) = v (5 + q) := fun q hq => suV_ne (by omega)
  have hu : upw (suV v g) k = upw v k := by unfold upw; rw [e5]
  by_cases e : k = g
  · subst e
    cases z : suP v k with
    | none => rw [suV_none z]; exact hi k hk
    | some q =>
      have h1 := suP_le v z
      have h2 := upF_sound v (suP_up v z)
      have h3 : suV v k (33 + k) = q := by rw [suV_some z, sv_eq]
      rw [h3, e0]
      exact ⟨fun z0 => by omega, fun a b => by rw [hs q (by omega)]; exact brk_ne h2 a b⟩
  · have h3 : suV v g (33 + k) = v (33 + k) := suV_ne (by omega)
    rw [h3, hu, e0]
    exact ⟨(hi k hk).1, fun a b => by rw [hs _ (by omega)]; exact (hi k hk).2 a b⟩
theorem Iv.ti (h : Iv v) {g : Nat} (hg : g < v 2) : Iv (tiV v g) := by
  obtain ⟨hw, h0, hi⟩ := h
  have hn := hw.nums
  have e0 : tiV v g 0 = v 0 := tiV_ne (by omega)
  refine ⟨hw.ti g, by rw [e0]; exact h0, fun k hk => ?_⟩
  rw [tiV_2] at hk
  have h3 : tiV v g (33 + k) = v (33 + k) := tiV_ne (by omega)
  rw [h3, e0]
  refine ⟨fun z => ?_, fun a b => by rw [tiV_ne (by omega)]; exact (hi k hk).2 a b⟩
  have hup := (hi k hk).1 z
  unfold upw at hup ⊢
  unfold tiV
  split
  · next c =>
    rw [sv_eq, clr_bit _ hw.up64 _ (by omega) _ (by omega), hup]
    have : k ≠ g := fun e => c.1 (e ▸ z)
    simp [this]
  · exact hup
theorem Iv.sd (h : Iv v) {g : Nat} (hg : g < v 2) : Iv (sdV v g) := by
  obtain ⟨hw, h0, hi⟩ := h
  have hn := hw.nums
  have e0 : sdV v g 0 = v 0 := sdV_ne (by omega) (by omega)
  have e2 : sdV v g 2 = v 2 := sdV_ne (by omega) (by omega)
  refine ⟨hw.sd hg, by rw [e0]; exact h0, fun k hk => ?_⟩
  rw [e2] at hk
  have hs : ∀ q, 1 ≤ q → q ≤ v 0 + 1 → sdV v g (5 + q) = v (5 + q) := fun q h1 hq => sdV_ne (by omega) (by omega)
  cases z : dnF v (v (33 + g)) with
  | none => rw [sdV_none z]; exact hi k hk
  | some q =>
    have h1 := dnF_le v z
    have h2 := dnF_sound v z
    have hgo := (hw.goer hg).2.2.2.2
    by_cases e : k = g
    · subst e
      by_cases hq : q = 0
      · subst hq
        have h3 : sdV v k (33 + k) = 0 := by rw [sdV_some z, if_pos rfl, sv_ne _ _ (by omega), sv_eq]
        rw [h3]
        refine ⟨fun _ => ?_, fun a => by omega⟩
        unfold upw
        rw [sdV_some z, if_pos rfl, sv_eq, or_bit]
        simp
      · have h3 : sdV v k (33 + k) = q := by rw [sdV_some z, if_neg hq, sv_eq]
        rw [h3, e0]
        exact ⟨fun z0 => absurd z0 hq, fun a b => by rw [hs q a (by omega)]; exact brk_ne h2 a b⟩
    · have h3 : sdV v g (33 + k) = v (33 + k) := sdV_ne (by omega) (by omega)
      rw [h3, e0]
      refine ⟨fun z0 => ?_, fun a b => by rw [hs _ a (by omega)]; exact (hi k hk).2 a b⟩
      have hup := (hi k hk).1 z0
      unfold upw at hup ⊢
      rw [sdV_some z]
      split
      · rw [sv_eq, or_bit, hup]; rfl
      · rw [sv_ne _ _ (by omega)]; exact hup
theorem Iv.mv (h : Iv v) {g : Nat} (hg : g < v 2) : Iv (mvV v g) := by
  unfold mvV
  repeat' split
  · exact h.su hg
  · exact (h.su hg).su (by rw [suV_2]; exact hg)
  · exact h
  · exact h.su hg
  · exact h
  · exact (h.ti hg).su (by rw [tiV_2]; exact hg)
  · exact (h.ti hg).sd (by rw [tiV_2]; exact hg)
theorem Iv.mvs (h : Iv v) : ∀ (k : Nat), k ≤ v 2 → Iv (mvN v k)
  | 0, _ => h
  | k + 1, hk => by
    have h1 := Iv.mvs h k (by omega)
    show Iv (ite _ _ _)
    split
    · exact h1
    · exact h1.mv (by rw [mvN_2]; omega)
theorem Iv.bk (h : Iv v) {p : Nat} (h1 : 1 ≤ p) (hp : p ≤ v 0) : Iv (bkV v p) := by
  obtain ⟨hw, h0, hi⟩ := h
  have hn := hw.nums
  have e0 : bkV v p 0 = v 0 := bkV_ne (by omega) (by omega) (Or.inl (by omega)) (by omega)
  have e2 : bkV v p 2 = v 2 := bkV_ne (by omega) (by omega) (Or.inl (by omega)) (by omega)
  refine ⟨hw.bk h1 hp, by rw [e0]; exact h0, fun k hk => ?_⟩
  rw [e2] at hk
  rw [bkV_33 (by omega) (by omega) hk, e0]
  have hup : upw (bkV v p) k = (upw v k || decide (k < v 2 ∧ v (33 + k) = p)) := by
    unfold upw; rw [bkV_5, Nat.testBit_or, whoA_bit]
  rw [hup]
  split
  · next z => exact ⟨fun _ => by simp [hk, z], fun a => by omega⟩
  · next z =>
    refine ⟨fun z0 => by rw [(hi k hk).1 z0]; rfl, fun a b => ?_⟩
    rw [bkV_ne (by omega) (by omega) (Or.inl (by omega)) (by omega)]
    exact (hi k hk).2 a b
/-- a rung's strength changes while nobody stands on it, or it stays sound -/
theorem Iv.setS (h : Iv v) {p y : Nat} (h1 : 1 ≤ p) (hp : p ≤ v 0) (hy : y ≤ 99) (hs : y = 0 → ∀ g, g < v 2 → ¬ v (33 + g) = p) : Iv (sv v (5 + p) y) := by
  obtain ⟨hw, h0, hi⟩ := h
  have hn := hw.nums
  refine ⟨hw.setS h1 hp hy, by rw [sv_ne _ _ (by omega)]; exact h0, fun k hk => ?_⟩
  rw [sv_ne _ _ (by omega)] at hk
  have hgo := (hw.goer hk).2.2.2.2
  rw [sv_ne _ _ (by omega), sv_ne _ _ (by omega)]
  refine ⟨fun z => by unfold upw; rw [sv_ne _ _ (by omega)]; exact (hi k hk).1 z, fun a b => ?_⟩
  by_cases e : v (33 + k) = p
  · rw [e, sv_eq]; exact fun z => hs z k hk e
  · rw [sv_ne _ _ (by omega)]; exact (hi k hk).2 a b
theorem bkV_setS {v : Nat → Nat} {p y : Nat} (hn : v 2 ≤ 6) (h1 : 1 ≤ p) (hp : p ≤ 9) {j : Nat} (hj : j < 45) : bkV (sv v (5 + p) y) p j = bkV v p j := by
  have e2 : sv v (5 + p) y 2 = v 2 := sv_ne _ _ (by omega)
  have key : ∀ k, k ≤ 6 → ∀ i, bkN (sv v (5 + p) y) p k i = bkN v p k i := by
    intro k
    induction k with
    | zero => intro _ i; simp only [bkN, sv]; split <;> rfl
    | succ k ih =>
      intro hk i
      have ih := ih (by omega)
      simp only [bkN]
      rw [ih (33 + k), ih (39 + k)]
      split
      · simp only [sv]; rw [ih i]
      · exact ih i
  have hwho : whoA (sv v (5 + p) y) p = whoA v p := by
    unfold whoA
    rw [e2]
    exact orN_congr (fun g hg => by rw [sv_ne _ _ (by omega)])
  unfold bkV
  rw [e2, hwho, sv_ne v y (j := 5) (by omega)]
  simp only [sv]
  rw [key _ hn]
theorem Iv.congr {w : Nat → Nat} (h : Iv v) (e : ∀ j, j < 45 → w j = v j) : Iv w := by
  obtain ⟨hw, h0, hi⟩ := h
  have hn := hw.nums
  have e2 := e 2 (by omega)
  refine ⟨hw.wear (fun j hj => e j (by omega)) (by rw [e 5 (by omega)]; exact hw.up) (fun r hr => by rw [e _ (by omega)]; exact hw.2.2.2.2.2.2.1 r hr) (fun g hg => by rw [e _ (by omega)]; exact (hw.goer hg).2.2.2.2), by rw [e 0 (by omega)]; exact h0, fun k hk => ?_⟩
  rw [e2] at hk
  have hgo := (hw.goer hk).2.2.2.2
  unfold upw
  rw [e 5 (by omega), e (33 + k) (by omega), e 0 (by omega), e (5 + v (33 + k)) (by omega)]
  exact hi k hk
theorem Iv.wr (h : Iv v) {p : Nat} (h1 : 1 ≤ p) (hp : p ≤ v 0) : Iv (wr1 v p) := by
  have hn := h.1.nums
  have hs := h.1.str ⟨h1, hp⟩
  unfold wr1
  repeat' split
  · exact h.bk h1 hp
  · exact h
  · exact (h.bk h1 hp).congr (fun j hj => bkV_setS (by omega) h1 (by omega) hj)
  · exact h.setS h1 hp (by omega) (fun z => by omega)
theorem Iv.wrs (h : Iv v) : ∀ (n : Nat), n ≤ v 0 → Iv (wrN v n)
  | 0, _ => h
  | n + 1, hn1 => by
    have hn := h.1.nums
    have h0 : wrN v n 0 = v 0 := wrN_ne (by omega) n (by omega) (by omega) (by omega) (by omega)
    exact (Iv.wrs h n (by omega)).wr (by omega) (by omega)
theorem Iv.setH (h : Iv v) {y : Nat} (hy : y ≤ 5000) : Iv (sv v 3 y) := by
  obtain ⟨hw, h0, hi⟩ := h
  obtain ⟨q0, q1, q2, q3, q4, q5, q6, q7⟩ := hw
  have e : ∀ j, j ≠ 3 → sv v 3 y j = v j := fun j hj => sv_ne _ _ hj
  refine ⟨⟨by rw [e 0 (by omega)]; exact q0, by rw [e 1 (by omega)]; exact q1, by rw [e 2 (by omega)]; exact q2, by rw [sv_eq]; exact hy, by rw [e 4 (by omega)]; exact q4, by rw [e 5 (by omega), e 2 (by omega)]; exact q5, fun r hr => ?_, fun g hg => ?_⟩, by rw [e 0 (by omega)]; exact h0, fun k hk => ?_⟩
  · rw [e 0 (by omega)] at hr
    rw [e _ (by omega)]; exact q6 r hr
  · rw [e 2 (by omega)] at hg
    rw [e _ (by omega), e _ (by omega), e _ (by omega), e _ (by omega), e 0 (by omega)]
    exact q7 g hg
  · rw [e 2 (by omega)] at hk
    unfold upw
    rw [e _ (by omega), e 0 (by omega), e 5 (by omega), e (5 + v (33 + k)) (by omega)]
    exact hi k hk
theorem Iv.hr (h : Iv v) (hh : v 3 + 1 ≤ 5000) : Iv (hrV v) := by
  have h1 := h.mvs (v 2) (Nat.le_refl _)
  have e0 : mvN v (v 2) 0 = v 0 := mvN_ne _ (by omega) (Or.inl (by omega))
  exact (h1.wrs (v 0) (by rw [e0]; exact Nat.le_refl _)).setH hh
end
