/-! LAKE: hours; who cannot rise never does -/
/-- n hours -/
def hrs (v : Nat → Nat) : Nat → Nat → Nat
  | 0 => v
  | n + 1 => hrV (hrs v n)
theorem hrs_add (v : Nat → Nat) (n : Nat) : ∀ k, hrs v (n + k) = hrs (hrs v n) k
  | 0 => rfl
  | k + 1 => by show hrV (hrs v (n + k)) = hrV (hrs (hrs v n) k); rw [hrs_add v n k]
theorem hrs_1 (v : Nat → Nat) (k : Nat) : hrs v (k + 1) = hrs (hrV v) k := by
  rw [Nat.add_comm, hrs_add v 1 k]; rfl
theorem hrV_ne {v : Nat → Nat} (hn : v 2 ≤ 6) (h9 : v 0 ≤ 9) {j : Nat} (hj : j < 5 ∨ (15 ≤ j ∧ j < 33)) (h3 : j ≠ 3) : hrV v j = v j := by
  have e0 : mvN v (v 2) 0 = v 0 := mvN_ne _ (by omega) (Or.inl (by omega))
  have e2 : mvN v (v 2) 2 = v 2 := mvN_2 _
  unfold hrV
  rw [sv_ne _ _ h3, wrN_ne (by omega) _ (by omega) (by omega) (by omega) h9, mvN_ne _ (by omega) (Or.inl (by omega))]
theorem hrV_3 (v : Nat → Nat) : hrV v 3 = v 3 + 1 := sv_eq _ _ _
section
variable {v : Nat → Nat}
theorem Wv_hr (h : Wv v) (hh : v 3 + 1 ≤ 5000) : Wv (hrV v) := by
  have hn := h.nums
  have h1 := h.mvN (v 2) (Nat.le_refl _)
  have e0 : mvN v (v 2) 0 = v 0 := mvN_ne _ (by omega) (Or.inl (by omega))
  have h2 := h1.wrs (v 0) (by rw [e0]; exact Nat.le_refl _)
  obtain ⟨q0, q1, q2, q3, q4, q5, q6, q7⟩ := h2
  have e : ∀ j, j ≠ 3 → hrV v j = wrN (mvN v (v 2)) (v 0) j := fun j hj => sv_ne _ _ hj
  refine ⟨by rw [e 0 (by omega)]; exact q0, by rw [e 1 (by omega)]; exact q1, by rw [e 2 (by omega)]; exact q2, by rw [hrV_3]; exact hh, by rw [e 4 (by omega)]; exact q4, by rw [e 5 (by omega), e 2 (by omega)]; exact q5, fun r hr => ?_, fun g hg => ?_⟩
  · rw [e 0 (by omega)] at hr
    rw [e _ (by omega)]; exact q6 r hr
  · rw [e 2 (by omega)] at hg
    rw [e _ (by omega), e _ (by omega), e _ (by omega), e _ (by omega), e 0 (by omega)]
    exact q7 g hg
theorem hrs_ne (h : Wv v) : ∀ (n : Nat), v 3 + n ≤ 5000 → Wv (hrs v n) ∧ (∀ j, j < 5 ∨ (15 ≤ j ∧ j < 33) → j ≠ 3 → hrs v n j = v j) ∧ hrs v n 3 = v 3 + n
  | 0, _ => ⟨h, fun _ _ _ => rfl, rfl⟩
  | n + 1, hn => by
    obtain ⟨h1, h2, h3⟩ := hrs_ne h n (by omega)
    have hm := h1.nums
    refine ⟨Wv_hr h1 (by omega), fun j hj hj3 => ?_, ?_⟩
    · show hrV (hrs v n) j = v j
      rw [hrV_ne (by omega) (by omega) hj hj3]; exact h2 j hj hj3
    · show hrV (hrs v n) 3 = _
      rw [hrV_3, h3]; omega
theorem hrs_Iv (h : Iv v) : ∀ (n : Nat), v 3 + n ≤ 5000 → Iv (hrs v n)
  | 0, _ => h
  | n + 1, hn => by
    have h1 := hrs_Iv h n (by omega)
    have h3 := (hrs_ne h.1 n (by omega)).2.2
    exact h1.hr (by omega)
theorem gapN_mono {w : Nat → Nat} : ∀ (n : Nat), (∀ r, r ≤ n → v (6 + r) = 0 → w (6 + r) = 0) → gapN v n ≤ gapN w n
  | 0, _ => Nat.le_refl _
  | n + 1, h => by
    have ih := gapN_mono n (fun r hr => h r (by omega))
    have hl := gapN_le v n
    simp only [gapN]
    split
    · next c =>
      rw [if_pos ⟨h n (by omega) c.1, by have := h (n + 1) (by omega); rw [show 6 + (n + 1) = 7 + n by omega] at this; exact this c.2⟩]
      exact Nat.le_refl _
    · split
      · omega
      · exact ih
theorem gapN_two (v : Nat → Nat) : ∀ (n : Nat), 1 ≤ gapN v n → v (5 + gapN v n) = 0 ∧ v (6 + gapN v n) = 0
  | 0, h => by simp [gapN] at h
  | n + 1, h => by
    simp only [gapN] at h ⊢
    split
    · next c => exact ⟨by rw [show 5 + (n + 1) = 6 + n by omega]; exact c.1, by rw [show 6 + (n + 1) = 7 + n by omega]; exact c.2⟩
    · next c =>
      rw [if_neg c] at h
      exact gapN_two v n h
theorem gap_two (v : Nat → Nat) (h : 1 ≤ gap v) : gap v + 1 ≤ v 0 ∧ v (5 + gap v) = 0 ∧ v (6 + gap v) = 0 := by
  have h1 := gapN_le v (v 0 - 1)
  have h2 := gapN_two v (v 0 - 1) h
  unfold gap at h ⊢
  exact ⟨by omega, h2.1, h2.2⟩
/-- below two broken rungs that lie together nobody comes over them -/
theorem upF_gap {p q : Nat} (h : p < gap v) (hu : upF v p = some q) : q < gap v := by
  obtain ⟨h1, h2, h3⟩ := gap_two v (by omega)
  have hb := upF_sound v hu
  have b1 : brk v (gap v) = true := by simp [brk, h2]; omega
  have b2 : brk v (gap v + 1) = true := by simp [brk, show 5 + (gap v + 1) = 6 + gap v by omega, h3]; omega
  have hl : q = p + 1 ∨ q = p + 2 := by
    unfold upF at hu
    split at hu
    · cases hu
    · split at hu
      · split at hu
        · cases hu
        · cases hu; exact Or.inr rfl
      · cases hu; exact Or.inl rfl
  have n1 : q ≠ gap v := fun e => by rw [e, b1] at hb; cases hb
  have n2 : q ≠ gap v + 1 := fun e => by rw [e, b2] at hb; cases hb
  omega
theorem hiN_top (v : Nat → Nat) : ∀ (n p : Nat), 1 ≤ p → p ≤ n → ¬ v (5 + p) = 0 → p ≤ hiN v n
  | 0, p, h1, h2, _ => by omega
  | n + 1, p, h1, h2, h3 => by
    simp only [hiN]
    split
    · next c =>
      have : p ≠ n + 1 := fun e => h3 (by rw [e, show 5 + (n + 1) = 6 + n by omega]; exact c)
      exact hiN_top v n p h1 (by omega) h3
    · exact h2
theorem hiN_snd (v : Nat → Nat) : ∀ (n : Nat), 1 ≤ hiN v n → ¬ v (5 + hiN v n) = 0
  | 0, h => by simp [hiN] at h
  | n + 1, h => by
    simp only [hiN] at h ⊢
    split
    · next c => rw [if_pos c] at h; exact hiN_snd v n h
    · next c => rw [show 5 + (n + 1) = 6 + n by omega]; exact c
/-- who cannot rise: held, one who fetches, or below a gap -/
def St (v : Nat → Nat) (g : Nat) : Prop := hld v g = true ∨ 4 ≤ v (15 + g) ∨ v (33 + g) < gap v
theorem gap_same {w : Nat → Nat} (h0 : w 0 = v 0) (h : ∀ r, r < v 0 → w (6 + r) = v (6 + r)) : gap w = gap v := by
  unfold gap
  rw [h0]
  have key : ∀ n, n + 1 ≤ v 0 ∨ n = 0 → gapN w n = gapN v n := by
    intro n
    induction n with
    | zero => intro _; rfl
    | succ n ih =>
      intro hn
      have ih := ih (by omega)
      simp only [gapN]
      have a := h n (by omega)
      have b := h (n + 1) (by omega)
      rw [show 6 + (n + 1) = 7 + n by omega] at b
      rw [a, b, ih]
  exact key _ (by omega)
theorem mv_stuck (h : Iv v) {g : Nat} (hg : g < v 2) (hh : hld v g = false) (hs : St v g) (hp : v (33 + g) ≤ v 0) : mvV v g (33 + g) ≤ v 0 ∧ (v (33 + g) < gap v → mvV v g (33 + g) < gap v) := by
  obtain ⟨hw, h0, hi⟩ := h
  have hn := hw.nums
  have hgo := hw.goer hg
  have hgl : gap v ≤ v 0 := Nat.le_trans (gapN_le v _) (by omega)
  -- a step up below a gap
  have su_gap : ∀ w : Nat → Nat, gap w = gap v → w (33 + g) < gap w → suV w g (33 + g) < gap v := by
    intro w e hlt
    cases z : suP w g with
    | none => rw [suV_none z, ← e]; exact hlt
    | some q => rw [suV_some z, sv_eq, ← e]; exact upF_gap hlt (suP_up w z)
  have gsu : ∀ w : Nat → Nat, w 0 = v 0 → gap (suV w g) = gap w := fun w e => gap_same (suV_ne (by omega)) (fun r hr => suV_ne (by omega))
  have gti : gap (tiV v g) = gap v := gap_same (tiV_ne (by omega)) (fun r hr => tiV_ne (by omega))
  by_cases hk : 4 ≤ v (15 + g)
  · have hm : mvV v g = if upw (tiV v g) g = true then suV (tiV v g) g else sdV (tiV v g) g := by
      unfold mvV; rw [if_neg (by omega), if_neg (by omega), if_neg (by omega)]
    have e33 : tiV v g (33 + g) = v (33 + g) := tiV_ne (by omega)
    have e0 : tiV v g 0 = v 0 := tiV_ne (by omega)
    have et : ∀ q, 1 ≤ q → tiV v g (5 + q) = v (5 + q) := fun q hq => tiV_ne (by omega)
    have upFe : ∀ p, upF (tiV v g) p = upF v p := by
      intro p
      have eb : ∀ q, brk (tiV v g) q = brk v q := by
        intro q
        unfold brk
        by_cases hq : 1 ≤ q
        · rw [e0, et q hq]
        · simp [hq]
      unfold upF
      rw [e0, eb, eb]
    rw [hm]
    split
    · next hup =>
      refine ⟨?_, fun hlt => su_gap _ gti (by rw [e33, gti]; exact hlt)⟩
      cases z : suP (tiV v g) g with
      | none => rw [suV_none z, e33]; exact hp
      | some q =>
        rw [suV_some z, sv_eq]
        have hu := suP_up _ z
        rw [e33, upFe] at hu
        have hle := upF_le v hu
        have hso := upF_sound v hu
        by_cases hz : v (33 + g) = 0
        · have : q = 1 ∨ q = 2 := by
            unfold upF at hu
            rw [hz] at hu
            split at hu
            · cases hu
            · split at hu
              · split at hu
                · cases hu
                · cases hu; exact Or.inr rfl
              · cases hu; exact Or.inl rfl
          omega
        · -- not at its end, else it would have turned
          have hne : ¬ v (33 + g) = hiS v := by
            intro e
            have ht : tiV v g = sv v 5 (clr (v 5) g) := if_pos ⟨hz, Or.inl e⟩
            rw [ht] at hup
            unfold upw at hup
            rw [sv_eq, clr_bit _ hw.up64 _ (by omega) _ (by omega)] at hup
            simp at hup
          have hsd := (hi g hg).2 (by omega) hp
          have htop := hiN_top v (v 0) (v (33 + g)) (by omega) hp hsd
          have hhi : hiS v ≤ v 0 := hiN_le v _
          have hh2 := hiN_snd v (v 0) (by omega)
          have hl : q = v (33 + g) + 1 ∨ (q = v (33 + g) + 2 ∧ brk v (v (33 + g) + 1) = true) := by
            unfold upF at hu
            split at hu
            · cases hu
            · split at hu
              · next hb1 =>
                split at hu
                · cases hu
                · cases hu; exact Or.inr ⟨rfl, hb1⟩
              · cases hu; exact Or.inl rfl
          have hS : hiS v = hiN v (v 0) := rfl
          rcases hl with hl | ⟨hl, hb1⟩
          · omega
          · have : hiS v ≠ v (33 + g) + 1 := by
              intro e
              simp [brk] at hb1
              apply hh2
              rw [← hS, e]
              exact hb1.2
            omega
    · have hsd : sdV (tiV v g) g (33 + g) ≤ v (33 + g) := by
        cases z : dnF (tiV v g) (tiV v g (33 + g)) with
        | none => rw [sdV_none z, e33]; exact Nat.le_refl _
        | some q =>
          have := dnF_le _ z
          rw [e33] at this
          rw [sdV_some z]
          split
          · rw [sv_ne _ _ (by omega), sv_eq]; omega
          · rw [sv_eq]; omega
      exact ⟨by omega, fun hlt => by omega⟩
  · have hlt : v (33 + g) < gap v := by
      rcases hs with a | a | a
      · rw [hh] at a; cases a
      · omega
      · exact a
    have key : mvV v g (33 + g) < gap v := by
      unfold mvV
      repeat' split
      · exact su_gap v rfl hlt
      · exact su_gap _ (gsu v rfl) (by rw [gsu v rfl]; exact su_gap v rfl hlt)
      · exact hlt
      · exact su_gap v rfl hlt
      · exact hlt
      · omega
      · omega
    exact ⟨by omega, fun _ => key⟩
theorem mvN_stuck (h : Iv v) {g : Nat} (hg : g < v 2) (hs : St v g) (hp : v (33 + g) ≤ v 0) : ∀ (k : Nat), k ≤ v 2 → mvN v k (33 + g) ≤ v 0 ∧ (v (33 + g) < gap v → mvN v k (33 + g) < gap v)
  | 0, _ => ⟨hp, id⟩
  | k + 1, hk => by
    have hn := h.1.nums
    obtain ⟨i1, i2⟩ := mvN_stuck h hg hs hp k (by omega)
    have e2 : mvN v k 2 = v 2 := mvN_2 k
    have e0 : mvN v k 0 = v 0 := mvN_ne k (by omega) (Or.inl (by omega))
    have e4 : mvN v k 4 = v 4 := mvN_ne k (by omega) (Or.inl (by omega))
    have eg : gap (mvN v k) = gap v := gap_same e0 (fun r hr => mvN_ne k (by omega) (Or.inl (by omega)))
    rw [show mvN v (k + 1) = if abv (mvN v k) k = true ∨ hld (mvN v k) k = true ∨ (mvN v k) 3 < (mvN v k) (27 + k) then mvN v k else mvV (mvN v k) k from rfl]
    split
    · exact ⟨i1, i2⟩
    · next hc =>
      by_cases e : k = g
      · subst e
        have hkk : hld (mvN v k) k = false := by
          cases z : hld (mvN v k) k with
          | false => rfl
          | true => exact absurd (Or.inr (Or.inl z)) hc
        have hs1 : St (mvN v k) k := by
          rcases hs with a | a | a
          · exact absurd (Or.inr (Or.inl (by unfold hld; rw [e4]; exact a))) hc
          · exact Or.inr (Or.inl (by rw [mvN_ne k (by omega) (Or.inl (by omega))]; exact a))
          · exact Or.inr (Or.inr (by rw [eg]; exact i2 a))
        obtain ⟨m1, m2⟩ := mv_stuck (h.mvs k (by omega)) (g := k) (by omega) hkk hs1 (by rw [e0]; exact i1)
        rw [e0] at m1
        rw [eg] at m2
        exact ⟨m1, fun a => m2 (i2 a)⟩
      · rw [mvV_ne (by omega) (by omega)]
        exact ⟨i1, i2⟩
theorem wr1_dec {p r : Nat} (hw : Wv v) (h1 : 1 ≤ p) (hp : p ≤ v 0) (hr : r < v 0) (hz : v (6 + r) = 0) : wr1 v p (6 + r) = 0 := by
  have hn := hw.nums
  by_cases e : 6 + r = 5 + p
  · rw [e] at hz ⊢
    unfold wr1
    repeat' split
    · exact bkV_s h1 (by omega)
    · exact hz
    · exact bkV_s h1 (by omega)
    · rw [sv_eq, hz]
  · rw [wr1_ne (by omega) (by omega) e (by omega)]; exact hz
theorem wrN_dec (hw : Wv v) {r : Nat} (hr : r < v 0) (hz : v (6 + r) = 0) : ∀ (n : Nat), n ≤ v 0 → wrN v n (6 + r) = 0
  | 0, _ => hz
  | n + 1, hn1 => by
    have hn := hw.nums
    have e0 : wrN v n 0 = v 0 := wrN_ne (by omega) n (by omega) (by omega) (by omega) (by omega)
    exact wr1_dec (hw.wrs n (by omega)) (by omega) (by omega) (by omega) (wrN_dec hw hr hz n (by omega))
theorem hr_stuck (h : Iv v) {g : Nat} (hg : g < v 2) (hs : St v g) (hp : v (33 + g) ≤ v 0) : St (hrV v) g ∧ hrV v (33 + g) ≤ hrV v 0 := by
  have hn := h.1.nums
  have h1 := h.mvs (v 2) (Nat.le_refl _)
  have hm := h1.1.nums
  have e0 : mvN v (v 2) 0 = v 0 := mvN_ne _ (by omega) (Or.inl (by omega))
  have e2 : mvN v (v 2) 2 = v 2 := mvN_2 _
  obtain ⟨m1, m2⟩ := mvN_stuck h hg hs hp (v 2) (Nat.le_refl _)
  have e33 : hrV v (33 + g) = wrN (mvN v (v 2)) (v 0) (33 + g) := sv_ne _ _ (by omega)
  have f0 : hrV v 0 = v 0 := hrV_ne (by omega) (by omega) (Or.inl (by omega)) (by omega)
  have hle : hrV v (33 + g) ≤ mvN v (v 2) (33 + g) := by
    rw [e33]
    rcases wrN_33 (by omega) (show g < mvN v (v 2) 2 by omega) (v 0) (by omega) with z | ⟨z1, -⟩ <;> omega
  have hg1 : gap v ≤ gap (hrV v) := by
    unfold gap
    rw [f0]
    refine gapN_mono _ (fun r hr hz => ?_)
    show sv _ 3 _ (6 + r) = 0
    rw [sv_ne _ _ (by omega)]
    by_cases hr0 : r < v 0
    · exact wrN_dec h1.1 (by omega) (by rw [mvN_ne _ (by omega) (Or.inl (by omega))]; exact hz) (v 0) (by omega)
    · have := h.2.1
      omega
  refine ⟨?_, by rw [f0]; omega⟩
  rcases hs with a | a | a
  · exact Or.inl (by unfold hld; rw [hrV_ne (by omega) (by omega) (Or.inl (by omega)) (by omega)]; exact a)
  · exact Or.inr (Or.inl (by rw [hrV_ne (by omega) (by omega) (Or.inr (by omega)) (by omega)]; exact a))
  · exact Or.inr (Or.inr (by have := m2 a; omega))
theorem hrs_stuck (h : Iv v) {g : Nat} (hg : g < v 2) (hs : St v g) (hp : v (33 + g) ≤ v 0) : ∀ (n : Nat), v 3 + n ≤ 5000 → St (hrs v n) g ∧ hrs v n (33 + g) ≤ hrs v n 0
  | 0, _ => ⟨hs, hp⟩
  | n + 1, hn => by
    obtain ⟨i1, i2⟩ := hrs_stuck h hg hs hp n (by omega)
    have hne := hrs_ne h.1 n (by omega)
    exact hr_stuck (hrs_Iv h n (by omega)) (by rw [hne.2.1 2 (by omega) (by omega)]; exact hg) i1 i2
/-- who may not rise and isn't above, never will be -/
theorem never (h : Iv v) {g : Nat} (hg : g < v 2) (hm : mayR v g = false) (ha : abv v g = false) {n : Nat} (hn : v 3 + n ≤ 5000) : abv (hrs v n) g = false := by
  have hp : v (33 + g) ≤ v 0 := by simpa [abv] using ha
  have hs : St v g := by
    unfold mayR at hm
    by_cases h1 : gap v ≤ v (33 + g)
    · cases h2 : hld v g with
      | true => exact Or.inl h2
      | false =>
        simp [h1, hp, h2] at hm
        exact Or.inr (Or.inl (by omega))
    · exact Or.inr (Or.inr (by omega))
  have := (hrs_stuck h hg hs hp n hn).2
  simpa [abv] using this
/-- who is above stays above -/
theorem abv_hr (h : Wv v) {g : Nat} (hg : g < v 2) (ha : abv v g = true) : abv (hrV v) g = true := by
  have hn := h.nums
  have hp : v 0 < v (33 + g) := by simpa [abv] using ha
  have e0 : ∀ k, mvN v k 0 = v 0 := fun k => mvN_ne k (by omega) (Or.inl (by omega))
  have key : ∀ k, mvN v k (33 + g) = v (33 + g) := by
    intro k
    induction k with
    | zero => rfl
    | succ k ih =>
      rw [show mvN v (k + 1) = if abv (mvN v k) k = true ∨ hld (mvN v k) k = true ∨ (mvN v k) 3 < (mvN v k) (27 + k) then mvN v k else mvV (mvN v k) k from rfl]
      split
      · exact ih
      · next hc =>
        by_cases e : k = g
        · subst e
          exact absurd (Or.inl (by simp [abv, ih, e0]; exact hp)) hc
        · rw [mvV_ne (by omega) (by omega)]; exact ih
  have e33 : hrV v (33 + g) = wrN (mvN v (v 2)) (v 0) (33 + g) := sv_ne _ _ (by omega)
  have f0 : hrV v 0 = v 0 := hrV_ne (by omega) (by omega) (Or.inl (by omega)) (by omega)
  have e2 : mvN v (v 2) 2 = v 2 := mvN_2 _
  have : hrV v (33 + g) = v (33 + g) := by
    rw [e33]
    rcases wrN_33 (v := mvN v (v 2)) (by omega) (show g < mvN v (v 2) 2 by omega) (v 0) (by omega) with z | ⟨-, z2, z3⟩
    · rw [z, key]
    · rw [key] at z3; omega
  simp [abv, this, f0]
  exact hp
theorem abv_hrs (h : Wv v) {g : Nat} (hg : g < v 2) (ha : abv v g = true) : ∀ (n : Nat), v 3 + n ≤ 5000 → abv (hrs v n) g = true
  | 0, _ => ha
  | n + 1, hn => by
    have hne := hrs_ne h n (by omega)
    exact abv_hr hne.1 (by rw [hne.2.1 2 (by omega) (by omega)]; exact hg) (abv_hrs h hg ha n (by omega))
end
