/-! what is sought: the first hour, the best set, the greatest weight -/
def nO (o : Option Nat) : Int32 := match o with
  | none => -1000000
  | some k => nI k
/-- the first i of k, k + 1 .. k + m with f i -/
def fnd (f : Nat → Bool) : Nat → Nat → Option Nat
  | 0, k => if f k = true then some k else none
  | m + 1, k => if f k = true then some k else fnd f m (k + 1)
theorem fnd_none {f : Nat → Bool} : ∀ {m k : Nat}, (∀ i, k ≤ i → i ≤ k + m → f i = false) → fnd f m k = none
  | 0, k, h => by simp [fnd, h k (by omega) (by omega)]
  | m + 1, k, h => by
    simp only [fnd]
    rw [if_neg (by rw [h k (by omega) (by omega)]; decide)]
    exact fnd_none (fun i h1 h2 => h i (by omega) (by omega))
theorem fnd_some {f : Nat → Bool} : ∀ {m k j : Nat}, k ≤ j → j ≤ k + m → f j = true → (∀ i, k ≤ i → i < j → f i = false) → fnd f m k = some j
  | 0, k, j, h1, h2, h3, _ => by
    obtain rfl : j = k := by omega
    simp [fnd, h3]
  | m + 1, k, j, h1, h2, h3, h4 => by
    simp only [fnd]
    by_cases e : k = j
    · subst e; rw [if_pos h3]
    · rw [if_neg (by rw [h4 k (by omega) (by omega)]; decide)]
      exact fnd_some (by omega) (by omega) h3 (fun i a b => h4 i (by omega) b)
/-- the best set below m: the fewest bits, among those the least -/
def bst (f : Nat → Bool) : Nat → Option Nat
  | 0 => none
  | m + 1 => match bst f m with
    | none => if f m = true then some m else none
    | some b => if f m = true ∧ pop m < pop b then some m else some b
def isBest (f : Nat → Bool) (m : Nat) (o : Option Nat) : Prop := (o = none ∧ ∀ b, b < m → f b = false) ∨ ∃ b, b < m ∧ o = some b ∧ f b = true ∧ ∀ c, c < m → f c = true → pop b < pop c ∨ (pop b = pop c ∧ b ≤ c)
theorem bst_best (f : Nat → Bool) : ∀ m, isBest f m (bst f m)
  | 0 => Or.inl ⟨rfl, fun b h => by omega⟩
  | m + 1 => by
    have ih := bst_best f m
    simp only [bst]
    rcases ih with ⟨e, h⟩ | ⟨b, hb, e, hf, hm⟩
    · rw [e]
      dsimp only
      by_cases c : f m = true
      · rw [if_pos c]
        refine Or.inr ⟨m, by omega, rfl, c, fun d hd hfd => ?_⟩
        by_cases q : d = m
        · subst q; exact Or.inr ⟨rfl, Nat.le_refl _⟩
        · rw [h d (by omega)] at hfd; cases hfd
      · rw [if_neg c]
        refine Or.inl ⟨rfl, fun d hd => ?_⟩
        by_cases q : d = m
        · subst q; simpa using c
        · exact h d (by omega)
    · rw [e]
      dsimp only
      by_cases c : f m = true ∧ pop m < pop b
      · rw [if_pos c]
        refine Or.inr ⟨m, by omega, rfl, c.1, fun d hd hfd => ?_⟩
        by_cases q : d = m
        · subst q; exact Or.inr ⟨rfl, Nat.le_refl _⟩
        · rcases hm d (by omega) hfd with z | z
          · exact Or.inl (by omega)
          · exact Or.inl (by omega)
      · rw [if_neg c]
        refine Or.inr ⟨b, by omega, rfl, hf, fun d hd hfd => ?_⟩
        by_cases q : d = m
        · subst q
          have : ¬ pop d < pop b := fun z => c ⟨hfd, z⟩
          by_cases z : pop b = pop d
          · exact Or.inr ⟨z, by omega⟩
          · exact Or.inl (by omega)
        · exact hm d (by omega) hfd
theorem isBest_eq {f : Nat → Bool} {m : Nat} {o o2 : Option Nat} (h : isBest f m o) (h2 : isBest f m o2) : o = o2 := by
  rcases h with ⟨e, h⟩ | ⟨b, hb, e, hf, hm⟩ <;> rcases h2 with ⟨e2, h2⟩ | ⟨b2, hb2, e2, hf2, hm2⟩
  · rw [e, e2]
  · rw [h b2 hb2] at hf2; cases hf2
  · rw [h2 b hb] at hf; cases hf
  · rw [e, e2]
    have a := hm b2 hb2 hf2
    have c := hm2 b hb hf
    congr 1
    omega
theorem pop_le9 : ∀ b, b < 512 → pop b ≤ 9 := by decide +kernel
theorem pop_le : ∀ k, k ≤ 9 → ∀ b, b < 2 ^ k → pop b ≤ k := by decide +kernel
/-- rungs of a set are mended: the first k have been looked at -/
def mdN (v : Nat → Nat) (s : Nat) : Nat → Nat → Nat
  | 0 => v
  | k + 1 => if s.testBit k = true then sv (mdN v s k) (6 + k) 99 else mdN v s k
def mdV (v : Nat → Nat) (s : Nat) : Nat → Nat := mdN v s (v 0)
theorem mdN_ne {v : Nat → Nat} {s : Nat} : ∀ (k : Nat) {j : Nat}, (j < 6 ∨ 6 + k ≤ j) → mdN v s k j = v j
  | 0, _, _ => rfl
  | k + 1, j, h => by
    unfold mdN; split
    · rw [sv_ne _ _ (by omega)]; exact mdN_ne k (by omega)
    · exact mdN_ne k (by omega)
theorem mdN_Iv {v : Nat → Nat} (h : Iv v) (s : Nat) : ∀ (k : Nat), k ≤ v 0 → Iv (mdN v s k)
  | 0, _ => h
  | k + 1, hk => by
    have ih := mdN_Iv h s k (by omega)
    have e0 : mdN v s k 0 = v 0 := mdN_ne k (by omega)
    show Iv (ite _ _ _)
    split
    · have := ih.setS (p := k + 1) (y := 99) (by omega) (by omega) (by omega) (fun z => by omega)
      rwa [show 5 + (k + 1) = 6 + k by omega] at this
    · exact ih
theorem mdV_Iv {v : Nat → Nat} (h : Iv v) (s : Nat) : Iv (mdV v s) := mdN_Iv h s _ (Nat.le_refl _)
/-- the greatest of 1 .. n with f -/
def gst (f : Nat → Bool) : Nat → Option Nat
  | 0 => none
  | n + 1 => if f (n + 1) = true then some (n + 1) else gst f n
theorem agV_Iv {v : Nat → Nat} (h : Iv v) (h6 : v 2 < 6) {k x t : Nat} (hk : 1 ≤ k ∧ k ≤ 5) (hx : x ≤ 30) (ht : t ≤ 5000) : Iv (agV v k x t) := by
  obtain ⟨hw, h0, hi⟩ := h
  have hn := hw.nums
  obtain ⟨q0, q1, q2, q3, q4, q5, q6, q7⟩ := hw
  have e : ∀ j, j < 15 → j ≠ 2 → j ≠ 5 → agV v k x t j = v j := fun j a b c => agV_ne b c (by omega) (by omega) (by omega) (by omega) (by omega)
  have e2 : agV v k x t 2 = v 2 + 1 := rfl
  have e5 : agV v k x t 5 = v 5 ||| 2 ^ v 2 := rfl
  obtain ⟨a1, a2, a3, a4, a5⟩ := agV_n (k := k) (x := x) (t := t) h6
  have hold : ∀ g, g < v 2 → agV v k x t (15 + g) = v (15 + g) ∧ agV v k x t (21 + g) = v (21 + g) ∧ agV v k x t (27 + g) = v (27 + g) ∧ agV v k x t (33 + g) = v (33 + g) := fun g hg => ⟨agV_ne (by omega) (by omega) (by omega) (by omega) (by omega) (by omega) (by omega), agV_ne (by omega) (by omega) (by omega) (by omega) (by omega) (by omega) (by omega), agV_ne (by omega) (by omega) (by omega) (by omega) (by omega) (by omega) (by omega), agV_ne (by omega) (by omega) (by omega) (by omega) (by omega) (by omega) (by omega)⟩
  refine ⟨⟨by rw [e 0 (by omega) (by omega) (by omega)]; exact q0, by rw [e 1 (by omega) (by omega) (by omega)]; exact q1, by rw [e2]; omega, by rw [e 3 (by omega) (by omega) (by omega)]; exact q3, by rw [e 4 (by omega) (by omega) (by omega)]; exact q4, ?_, fun r hr => ?_, fun g hg => ?_⟩, by rw [e 0 (by omega) (by omega) (by omega)]; exact h0, fun g hg => ?_⟩
  · rw [e5, e2]
    exact Nat.or_lt_two_pow (Nat.lt_trans q5 (bit_lt (by omega))) (bit_lt (by omega))
  · rw [e 0 (by omega) (by omega) (by omega)] at hr
    rw [e _ (by omega) (by omega) (by omega)]; exact q6 r hr
  · rw [e2] at hg
    rw [e 0 (by omega) (by omega) (by omega)]
    by_cases c : g = v 2
    · subst c
      rw [a1, a2, a3, a4]; omega
    · obtain ⟨b1, b2, b3, b4⟩ := hold g (by omega)
      rw [b1, b2, b3, b4]; exact q7 g (by omega)
  · rw [e2] at hg
    rw [e 0 (by omega) (by omega) (by omega)]
    by_cases c : g = v 2
    · subst c
      rw [a4]
      refine ⟨fun _ => ?_, fun z => by omega⟩
      unfold upw
      rw [e5, or_bit]; simp
    · obtain ⟨b1, b2, b3, b4⟩ := hold g (by omega)
      have hg2 : g < v 2 := by omega
      have hgo := (q7 g hg2).2.2.2.2
      rw [b4]
      refine ⟨fun z => ?_, fun z1 z2 => ?_⟩
      · unfold upw
        have := (hi g hg2).1 z
        unfold upw at this
        rw [e5, or_bit, this]; rfl
      · rw [e _ (by omega) (by omega) (by omega)]; exact (hi g hg2).2 z1 z2
