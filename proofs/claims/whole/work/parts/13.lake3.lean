/-! LAKE: the numbers keep to their bounds -/
section
variable {v w : Nat → Nat}
theorem Wv.move (hw : Wv v) (e : ∀ j, j ≠ 5 → (j < 33 ∨ 39 ≤ j) → w j = v j) (h5 : w 5 < 2 ^ v 2) (hp : ∀ g, g < v 2 → w (33 + g) ≤ v 0 + 1) : Wv w := by
  obtain ⟨h0, h1, h2, h3, h4, -, h6, h7⟩ := hw
  have e0 := e 0 (by decide) (Or.inl (by decide))
  have e2 := e 2 (by decide) (Or.inl (by decide))
  refine ⟨by rw [e0]; exact h0, by rw [e 1 (by decide) (Or.inl (by decide))]; exact h1, by rw [e2]; exact h2, by rw [e 3 (by decide) (Or.inl (by decide))]; exact h3, by rw [e 4 (by decide) (Or.inl (by decide))]; exact h4, by rw [e2]; exact h5, fun r hr => ?_, fun g hg => ?_⟩
  · rw [e0] at hr
    rw [e _ (by omega) (Or.inl (by omega))]; exact h6 r hr
  · rw [e2] at hg
    obtain ⟨z1, z2, z3, z4, z5⟩ := h7 g hg
    rw [e (15 + g) (by omega) (Or.inl (by omega)), e (21 + g) (by omega) (Or.inl (by omega)), e (27 + g) (by omega) (Or.inl (by omega)), e0]
    exact ⟨z1, z2, z3, z4, hp g hg⟩
theorem upF_le (v : Nat → Nat) {p q : Nat} (h : upF v p = some q) : p < q ∧ q ≤ v 0 + 1 := by
  unfold upF at h
  split at h
  · cases h
  · split at h
    · split at h
      · cases h
      · next h1 h2 h3 =>
        cases h
        simp [brk] at h2
        omega
    · cases h; omega
theorem dnF_le (v : Nat → Nat) {p q : Nat} (h : dnF v p = some q) : q < p := by
  unfold dnF at h
  split at h
  · cases h
  · split at h
    · split at h
      · cases h
      · cases h; omega
    · cases h; omega
theorem suP_le (v : Nat → Nat) {g q : Nat} (h : suP v g = some q) : v (33 + g) < q ∧ q ≤ v 0 + 1 := by
  unfold suP at h
  split at h
  · cases h
  · next z =>
    split at h
    · cases h
    · cases h; exact upF_le v z
theorem suV_none {g : Nat} (h : suP v g = none) : suV v g = v := by unfold suV; rw [h]
theorem suV_some {g q : Nat} (h : suP v g = some q) : suV v g = sv v (33 + g) q := by unfold suV; rw [h]
theorem sdV_none {g : Nat} (h : dnF v (v (33 + g)) = none) : sdV v g = v := by unfold sdV; rw [h]
theorem sdV_some {g q : Nat} (h : dnF v (v (33 + g)) = some q) : sdV v g = if q = 0 then sv (sv v (33 + g) 0) 5 (v 5 ||| 2 ^ g) else sv v (33 + g) q := by unfold sdV; rw [h]
theorem suV_ne {g j : Nat} (h : j ≠ 33 + g) : suV v g j = v j := by
  cases z : suP v g with
  | none => rw [suV_none z]
  | some q => rw [suV_some z]; exact sv_ne _ _ h
theorem sdV_ne {g j : Nat} (h : j ≠ 33 + g) (h5 : j ≠ 5) : sdV v g j = v j := by
  cases z : dnF v (v (33 + g)) with
  | none => rw [sdV_none z]
  | some q =>
    rw [sdV_some z]
    split
    · rw [sv_ne _ _ h5, sv_ne _ _ h]
    · exact sv_ne _ _ h
theorem tiV_ne {g j : Nat} (h5 : j ≠ 5) : tiV v g j = v j := by
  unfold tiV; split
  · exact sv_ne _ _ h5
  · rfl
theorem mvV_ne {g j : Nat} (h : j ≠ 33 + g) (h5 : j ≠ 5) : mvV v g j = v j := by
  unfold mvV
  repeat' split
  · exact suV_ne h
  · rw [suV_ne h, suV_ne h]
  · rfl
  · exact suV_ne h
  · rfl
  · rw [suV_ne h, tiV_ne h5]
  · rw [sdV_ne h h5, tiV_ne h5]
theorem clr_le (u g : Nat) : clr u g ≤ u := Nat.and_le_left
theorem suV_33 (hw : Wv v) {g : Nat} (hg : g < v 2) : suV v g (33 + g) ≤ v 0 + 1 := by
  cases z : suP v g with
  | none => rw [suV_none z]; exact (hw.goer hg).2.2.2.2
  | some q => rw [suV_some z, sv_eq]; exact (suP_le v z).2
theorem Wv.su (hw : Wv v) {g : Nat} (hg : g < v 2) : Wv (suV v g) := by
  have hn := hw.nums
  refine hw.move (fun j h5 hj => suV_ne (by omega)) (by rw [suV_ne (by omega)]; exact hw.up) (fun k hk => ?_)
  by_cases e : k = g
  · subst e; exact suV_33 hw hk
  · rw [suV_ne (by omega)]; exact (hw.goer hk).2.2.2.2
theorem Wv.ti (hw : Wv v) (g : Nat) : Wv (tiV v g) := by
  refine hw.move (fun j h5 hj => tiV_ne h5) ?_ (fun k hk => by rw [tiV_ne (by omega)]; exact (hw.goer hk).2.2.2.2)
  unfold tiV; split
  · rw [sv_eq]; exact Nat.lt_of_le_of_lt (clr_le _ _) hw.up
  · exact hw.up
theorem Wv.sd (hw : Wv v) {g : Nat} (hg : g < v 2) : Wv (sdV v g) := by
  have hn := hw.nums
  refine hw.move (fun j h5 hj => sdV_ne (by omega) h5) ?_ (fun k hk => ?_)
  · cases z : dnF v (v (33 + g)) with
    | none => rw [sdV_none z]; exact hw.up
    | some q =>
      rw [sdV_some z]
      split
      · rw [sv_eq]; exact Nat.or_lt_two_pow hw.up (bit_lt hg)
      · rw [sv_ne _ _ (by omega)]; exact hw.up
  · by_cases e : k = g
    · subst e
      cases z : dnF v (v (33 + k)) with
      | none => rw [sdV_none z]; exact (hw.goer hk).2.2.2.2
      | some q =>
        rw [sdV_some z]
        have := dnF_le v z
        have := (hw.goer hk).2.2.2.2
        split
        · rw [sv_ne _ _ (by omega), sv_eq]; omega
        · rw [sv_eq]; omega
    · rw [sdV_ne (by omega) (by omega)]; exact (hw.goer hk).2.2.2.2
theorem suV_2 {g : Nat} : suV v g 2 = v 2 := suV_ne (by omega)
theorem tiV_2 {g : Nat} : tiV v g 2 = v 2 := tiV_ne (by omega)
theorem mvV_2 {g : Nat} : mvV v g 2 = v 2 := mvV_ne (by omega) (by omega)
theorem Wv.mv (hw : Wv v) {g : Nat} (hg : g < v 2) : Wv (mvV v g) := by
  unfold mvV
  repeat' split
  · exact hw.su hg
  · exact (hw.su hg).su (by rw [suV_2]; exact hg)
  · exact hw
  · exact hw.su hg
  · exact hw
  · exact (hw.ti g).su (by rw [tiV_2]; exact hg)
  · exact (hw.ti g).sd (by rw [tiV_2]; exact hg)
theorem mvN_ne : ∀ (k : Nat) {j : Nat}, j ≠ 5 → (j < 33 ∨ 33 + k ≤ j) → mvN v k j = v j
  | 0, _, _, _ => rfl
  | k + 1, j, h5, h => by
    unfold mvN; split
    · exact mvN_ne k h5 (by omega)
    · rw [mvV_ne (by omega) h5]; exact mvN_ne k h5 (by omega)
theorem mvN_2 (k : Nat) : mvN v k 2 = v 2 := mvN_ne k (by omega) (Or.inl (by omega))
theorem Wv.mvN (hw : Wv v) : ∀ (k : Nat), k ≤ v 2 → Wv (mvN v k)
  | 0, _ => hw
  | k + 1, h => by
    have h1 := Wv.mvN hw k (by omega)
    show Wv (ite _ _ _)
    split
    · exact h1
    · exact h1.mv (by rw [mvN_2]; omega)
theorem bkN_ne (p : Nat) : ∀ (k : Nat) {j : Nat}, j ≠ 5 + p → (j < 33 ∨ 33 + k ≤ j) → (j < 39 ∨ 39 + k ≤ j) → bkN v p k j = v j
  | 0, _, h, _, _ => sv_ne _ _ h
  | k + 1, j, h, h1, h2 => by
    unfold bkN; split
    · rw [sv_ne _ _ (by omega), sv_ne _ _ (by omega)]; exact bkN_ne p k h (by omega) (by omega)
    · exact bkN_ne p k h (by omega) (by omega)
theorem bkN_s (p : Nat) (hp : p ≤ 9) : ∀ (k : Nat), bkN v p k (5 + p) = 0
  | 0 => sv_eq _ _ _
  | k + 1 => by
    unfold bkN; split
    · rw [sv_ne _ _ (by omega), sv_ne _ _ (by omega)]; exact bkN_s p hp k
    · exact bkN_s p hp k
/-- the places behind a break -/
theorem bkN_33 (p : Nat) (hp : p ≤ 9) : ∀ (k g : Nat), k ≤ 6 → g < 6 → bkN v p k (33 + g) = if g < k ∧ v (33 + g) = p then 0 else v (33 + g)
  | 0, g, _, _ => by rw [if_neg (by omega)]; exact sv_ne _ _ (by omega)
  | k + 1, g, hk, hg => by
    have ih := bkN_33 p hp k g (by omega) hg
    have ihk := bkN_33 p hp k k (by omega) (by omega)
    rw [if_neg (by omega)] at ihk
    unfold bkN
    split
    · next z =>
      rw [sv_ne _ _ (by omega)]
      by_cases e : g = k
      · subst e
        rw [sv_eq, if_pos ⟨by omega, by rw [← ihk]; exact z⟩]
      · rw [sv_ne _ _ (by omega), ih]
        by_cases c : g < k ∧ v (33 + g) = p
        · rw [if_pos c, if_pos ⟨by omega, c.2⟩]
        · rw [if_neg c, if_neg (by omega)]
    · next z =>
      rw [ih]
      by_cases c : g < k ∧ v (33 + g) = p
      · rw [if_pos c, if_pos ⟨by omega, c.2⟩]
      · by_cases e : g = k
        · subst e
          rw [if_neg c, if_neg]
          intro q
          exact z (by rw [ihk]; exact q.2)
        · rw [if_neg c, if_neg (by omega)]
theorem bkN_39 (p : Nat) (hp : p ≤ 9) : ∀ (k g : Nat), k ≤ 6 → g < 6 → bkN v p k (39 + g) = if g < k ∧ v (33 + g) = p then v (39 + g) + 1 else v (39 + g)
  | 0, g, _, _ => by rw [if_neg (by omega)]; exact sv_ne _ _ (by omega)
  | k + 1, g, hk, hg => by
    have ih := bkN_39 p hp k g (by omega) hg
    have ihk := bkN_33 (v := v) p hp k k (by omega) (by omega)
    rw [if_neg (by omega)] at ihk
    unfold bkN
    split
    · next z =>
      by_cases e : g = k
      · subst e
        rw [sv_eq, ih, if_neg (by omega), if_pos ⟨by omega, by rw [← ihk]; exact z⟩]
      · rw [sv_ne _ _ (by omega), sv_ne _ _ (by omega), ih]
        by_cases c : g < k ∧ v (33 + g) = p
        · rw [if_pos c, if_pos ⟨by omega, c.2⟩]
        · rw [if_neg c, if_neg (by omega)]
    · next z =>
      rw [ih]
      by_cases c : g < k ∧ v (33 + g) = p
      · rw [if_pos c, if_pos ⟨by omega, c.2⟩]
      · by_cases e : g = k
        · subst e
          rw [if_neg c, if_neg]
          intro q
          exact z (by rw [ihk]; exact q.2)
        · rw [if_neg c, if_neg (by omega)]
theorem bkV_ne {p j : Nat} (h : j ≠ 5 + p) (h5 : j ≠ 5) (h2 : j < 33 ∨ (33 + v 2 ≤ j ∧ j < 39) ∨ 39 + v 2 ≤ j) (hn : v 2 ≤ 6) : bkV v p j = v j := by
  unfold bkV; rw [sv_ne _ _ h5]; exact bkN_ne p _ h (by omega) (by omega)
theorem bkV_s {p : Nat} (h1 : 1 ≤ p) (hp : p ≤ 9) : bkV v p (5 + p) = 0 := by unfold bkV; rw [sv_ne _ _ (by omega)]; exact bkN_s p hp _
theorem bkV_33 {p g : Nat} (hp : p ≤ 9) (hn : v 2 ≤ 6) (hg : g < v 2) : bkV v p (33 + g) = if v (33 + g) = p then 0 else v (33 + g) := by
  unfold bkV; rw [sv_ne _ _ (by omega), bkN_33 p hp _ g hn (by omega)]
  by_cases c : v (33 + g) = p
  · rw [if_pos ⟨hg, c⟩, if_pos c]
  · rw [if_neg (by omega), if_neg c]
theorem bkV_39 {p g : Nat} (hp : p ≤ 9) (hn : v 2 ≤ 6) (hg : g < v 2) : bkV v p (39 + g) = if v (33 + g) = p then v (39 + g) + 1 else v (39 + g) := by
  unfold bkV; rw [sv_ne _ _ (by omega), bkN_39 p hp _ g hn (by omega)]
  by_cases c : v (33 + g) = p
  · rw [if_pos ⟨hg, c⟩, if_pos c]
  · rw [if_neg (by omega), if_neg c]
theorem bkV_5 {p : Nat} : bkV v p 5 = v 5 ||| whoA v p := sv_eq _ _ _
theorem whoA_lt2 (v : Nat → Nat) (p : Nat) : whoA v p < 2 ^ v 2 := orN_lt (fun k hk => by have := bit_lt hk; have := Nat.two_pow_pos (v 2); split <;> omega)
theorem Wv.wear (hw : Wv v) (e : ∀ j, j < 5 ∨ (15 ≤ j ∧ j < 33) → w j = v j) (h5 : w 5 < 2 ^ v 2) (hs : ∀ r, r < v 0 → w (6 + r) ≤ 99) (hp : ∀ g, g < v 2 → w (33 + g) ≤ v 0 + 1) : Wv w := by
  obtain ⟨h0, h1, h2, h3, h4, -, h6, h7⟩ := hw
  have e0 := e 0 (Or.inl (by decide))
  have e2 := e 2 (Or.inl (by decide))
  refine ⟨by rw [e0]; exact h0, by rw [e 1 (Or.inl (by decide))]; exact h1, by rw [e2]; exact h2, by rw [e 3 (Or.inl (by decide))]; exact h3, by rw [e 4 (Or.inl (by decide))]; exact h4, by rw [e2]; exact h5, fun r hr => by rw [e0] at hr; exact hs r hr, fun g hg => ?_⟩
  rw [e2] at hg
  obtain ⟨z1, z2, z3, z4, z5⟩ := h7 g hg
  rw [e (15 + g) (by omega), e (21 + g) (by omega), e (27 + g) (by omega), e0]
  exact ⟨z1, z2, z3, z4, hp g hg⟩
theorem Wv.bk (hw : Wv v) {p : Nat} (h1 : 1 ≤ p) (hp : p ≤ v 0) : Wv (bkV v p) := by
  have hn := hw.nums
  refine hw.wear (fun j hj => bkV_ne (by omega) (by omega) (Or.inl (by omega)) (by omega)) (by rw [bkV_5]; exact Nat.or_lt_two_pow hw.up (whoA_lt2 v p)) (fun r hr => ?_) (fun g hg => ?_)
  · by_cases e : 6 + r = 5 + p
    · rw [e, bkV_s h1 (by omega)]; omega
    · rw [bkV_ne e (by omega) (Or.inl (by omega)) (by omega)]; exact hw.2.2.2.2.2.2.1 r hr
  · rw [bkV_33 (by omega) (by omega) hg]
    have := (hw.goer hg).2.2.2.2
    split <;> omega
theorem Wv.setS (hw : Wv v) {p y : Nat} (h1 : 1 ≤ p) (hp : p ≤ v 0) (hy : y ≤ 99) : Wv (sv v (5 + p) y) := by
  have hn := hw.nums
  refine hw.wear (fun j hj => sv_ne _ _ (by omega)) (by rw [sv_ne _ _ (by omega)]; exact hw.up) (fun r hr => ?_) (fun g hg => by rw [sv_ne _ _ (by omega)]; exact (hw.goer hg).2.2.2.2)
  by_cases e : 6 + r = 5 + p
  · rw [e, sv_eq]; exact hy
  · rw [sv_ne _ _ e]; exact hw.2.2.2.2.2.2.1 r hr
theorem Wv.wr (hw : Wv v) {p : Nat} (h1 : 1 ≤ p) (hp : p ≤ v 0) : Wv (wr1 v p) := by
  have hs := hw.str ⟨h1, hp⟩
  unfold wr1
  repeat' split
  · exact hw.bk h1 hp
  · exact hw
  · exact (hw.setS h1 hp (by omega)).bk h1 (by rw [sv_ne _ _ (by omega)]; exact hp)
  · exact hw.setS h1 hp (by omega)
end
