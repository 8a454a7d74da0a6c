/-! RISK, as the class reckons it: the numbers -/
/-- a rung that may be rotten: sound, and nobody is on it -/
def fr (v : Nat → Nat) (r : Nat) : Bool := !decide (v (6 + r) = 0) && decide (whoA v (r + 1) = 0)
theorem cntN_mono {f : Nat → Bool} {a b : Nat} (h : a ≤ b) : cntN f a ≤ cntN f b := by
  induction b with
  | zero => obtain rfl : a = 0 := (by omega); exact Nat.le_refl _
  | succ b ih =>
    by_cases e : a = b + 1
    · subst e; exact Nat.le_refl _
    · have := ih (by omega)
      simp only [cntN]; split <;> omega
theorem cntN_lt {f : Nat → Bool} {a b : Nat} (h : a < b) (hf : f a = true) : cntN f a < cntN f b := by
  have h1 : cntN f (a + 1) = cntN f a + 1 := by simp [cntN, hf]
  have h2 := cntN_mono (f := f) (show a + 1 ≤ b by omega)
  omega
theorem cntN_inj {f : Nat → Bool} {a b : Nat} (ha : f a = true) (hb : f b = true) (h : cntN f a = cntN f b) : a = b := by
  rcases Nat.lt_trichotomy a b with z | z | z
  · have := cntN_lt z ha; omega
  · exact z
  · have := cntN_lt z hb; omega
theorem cntN_sur {f : Nat → Bool} : ∀ {n i : Nat}, i < cntN f n → ∃ r, r < n ∧ f r = true ∧ cntN f r = i
  | 0, i, h => by simp [cntN] at h
  | n + 1, i, h => by
    simp only [cntN] at h
    split at h
    · next c =>
      by_cases e : i = cntN f n
      · exact ⟨n, by omega, c, e.symm⟩
      · obtain ⟨r, h1, h2, h3⟩ := cntN_sur (f := f) (n := n) (i := i) (by omega)
        exact ⟨r, by omega, h2, h3⟩
    · obtain ⟨r, h1, h2, h3⟩ := cntN_sur (f := f) (n := n) (i := i) h
      exact ⟨r, by omega, h2, h3⟩
/-- the rungs that the first i bits of s name, among the free ones, are broken -/
def boN (v : Nat → Nat) (s i : Nat) : Nat → Nat := fun j => if 6 ≤ j ∧ j < 6 + v 0 ∧ fr v (j - 6) = true ∧ cntN (fr v) (j - 6) < i ∧ s.testBit (cntN (fr v) (j - 6)) = true then 0 else v j
theorem boN_ne {v : Nat → Nat} {s i j : Nat} (h : j < 6 ∨ 6 + v 0 ≤ j) : boN v s i j = v j := by unfold boN; rw [if_neg (by omega)]
theorem boN_0 (v : Nat → Nat) (s : Nat) : boN v s 0 = v := by funext j; unfold boN; rw [if_neg (by omega)]
theorem fr_who {v : Nat → Nat} {r : Nat} (h : fr v r = true) {g : Nat} (hg : g < v 2) : ¬ v (33 + g) = r + 1 := by
  intro e
  simp [fr] at h
  have := whoA_bit v (r + 1) g
  rw [h.2] at this
  simp [hg, e] at this
theorem boN_Iv {v : Nat → Nat} (h : Iv v) (s i : Nat) : Iv (boN v s i) := by
  obtain ⟨hw, h0, hi⟩ := h
  have hn := hw.nums
  obtain ⟨q0, q1, q2, q3, q4, q5, q6, q7⟩ := hw
  have e : ∀ j, j < 6 ∨ 6 + v 0 ≤ j → boN v s i j = v j := fun j hj => boN_ne hj
  refine ⟨⟨by rw [e 0 (by omega)]; exact q0, by rw [e 1 (by omega)]; exact q1, by rw [e 2 (by omega)]; exact q2, by rw [e 3 (by omega)]; exact q3, by rw [e 4 (by omega)]; exact q4, by rw [e 5 (by omega), e 2 (by omega)]; exact q5, fun r hr => ?_, fun g hg => ?_⟩, by rw [e 0 (by omega)]; exact h0, fun k hk => ?_⟩
  · rw [e 0 (by omega)] at hr
    have := q6 r hr
    unfold boN; split <;> omega
  · rw [e 2 (by omega)] at hg
    rw [e _ (by omega), e _ (by omega), e _ (by omega), e _ (by omega), e 0 (by omega)]
    exact q7 g hg
  · rw [e 2 (by omega)] at hk
    have hgo := (q7 k hk).2.2.2.2
    unfold upw
    rw [e (33 + k) (by omega), e 0 (by omega), e 5 (by omega)]
    refine ⟨(hi k hk).1, fun a b => ?_⟩
    have hz := (hi k hk).2 a b
    have hx : boN v s i (5 + v (33 + k)) = v (5 + v (33 + k)) := by
      unfold boN
      rw [if_neg]
      rintro ⟨a1, a2, a3, -⟩
      exact fr_who a3 hk (by omega)
    rw [hx]; exact hz
/-- one more bit: the rung r is its -/
theorem boN_succ {v : Nat → Nat} {s i r : Nat} (hr : r < v 0) (hf : fr v r = true) (hc : cntN (fr v) r = i) (hb : s.testBit i = true) : boN v s (i + 1) = sv (boN v s i) (6 + r) 0 := by
  funext j
  unfold sv
  by_cases e : j = 6 + r
  · subst e
    rw [if_pos rfl]
    unfold boN
    rw [if_pos ⟨by omega, by omega, by rw [Nat.add_sub_cancel_left]; exact hf, by rw [Nat.add_sub_cancel_left, hc]; omega, by rw [Nat.add_sub_cancel_left, hc]; exact hb⟩]
  · rw [if_neg e]
    unfold boN
    by_cases c : 6 ≤ j ∧ j < 6 + v 0 ∧ fr v (j - 6) = true ∧ cntN (fr v) (j - 6) < i ∧ s.testBit (cntN (fr v) (j - 6)) = true
    · obtain ⟨c1, c2, c3, c4, c5⟩ := c
      rw [if_pos ⟨c1, c2, c3, by omega, c5⟩, if_pos ⟨c1, c2, c3, c4, c5⟩]
    · rw [if_neg c, if_neg]
      rintro ⟨c1, c2, c3, c4, c5⟩
      by_cases d : cntN (fr v) (j - 6) = i
      · have := cntN_inj c3 hf (d.trans hc.symm)
        omega
      · exact c ⟨c1, c2, c3, by omega, c5⟩
theorem boN_skip {v : Nat → Nat} {s i : Nat} (hb : ¬ s.testBit i = true) : boN v s (i + 1) = boN v s i := by
  funext j
  unfold boN
  by_cases c : 6 ≤ j ∧ j < 6 + v 0 ∧ fr v (j - 6) = true ∧ cntN (fr v) (j - 6) < i ∧ s.testBit (cntN (fr v) (j - 6)) = true
  · obtain ⟨c1, c2, c3, c4, c5⟩ := c
    rw [if_pos ⟨c1, c2, c3, by omega, c5⟩, if_pos ⟨c1, c2, c3, c4, c5⟩]
  · rw [if_neg c, if_neg]
    rintro ⟨c1, c2, c3, c4, c5⟩
    by_cases d : cntN (fr v) (j - 6) = i
    · rw [d] at c5; exact hb c5
    · exact c ⟨c1, c2, c3, by omega, c5⟩
/-- how many rungs may be rotten -/
def frC (v : Nat → Nat) : Nat := cntN (fr v) (v 0)
def rkW (v : Nat → Nat) (p s : Nat) : Nat := p ^ pop s * (10 - p) ^ (frC v - pop s)
def rkA (v : Nat → Nat) (g n p : Nat) : Nat := sumN (fun s => if abv (hrs (boN v s 9) n) g = true then rkW v p s else 0) (2 ^ frC v)
theorem sumN_pow {f : Nat → Nat} {B : Nat} : ∀ (n : Nat), (∀ k, k < n → f k ≤ B) → sumN f n ≤ n * B := fun n h => sumN_le h
theorem pow_le10 {p a : Nat} (h : p ≤ 10) : p ^ a ≤ 10 ^ a := Nat.pow_le_pow_left h a
theorem rkW_le {v : Nat → Nat} {p s : Nat} (hp : p ≤ 10) (hs : pop s ≤ frC v) : rkW v p s ≤ 10 ^ frC v := by
  unfold rkW
  have h1 := pow_le10 (p := p) (a := pop s) hp
  have h2 := pow_le10 (p := 10 - p) (a := frC v - pop s) (by omega)
  calc p ^ pop s * (10 - p) ^ (frC v - pop s) ≤ 10 ^ pop s * 10 ^ (frC v - pop s) := Nat.mul_le_mul h1 h2
    _ = 10 ^ frC v := by rw [← Nat.pow_add]; congr 1; omega
theorem gcd_step {x y : Nat} : Nat.gcd y (x % y) = Nat.gcd x y := by
  rw [Nat.gcd_comm, ← Nat.gcd_rec, Nat.gcd_comm]
/-- one step of the divisions halves the product -/
theorem gcd_half {x y i : Nat} (h : y < x) (hy : 0 < y) (hb : x * y * 2 ^ i < 2 ^ 62) : x % y < y ∧ y * (x % y) * 2 ^ (i + 1) < 2 ^ 62 := by
  have h1 : x % y < y := Nat.mod_lt _ hy
  have h2 : x % y + y ≤ x := by
    have := Nat.div_add_mod x y
    have hq : 1 ≤ x / y := (Nat.one_le_div_iff hy).mpr (by omega)
    have := Nat.mul_le_mul_left y hq
    omega
  refine ⟨h1, Nat.lt_of_le_of_lt ?_ hb⟩
  have h3 : 2 * (x % y) ≤ x := by omega
  have : y * (x % y) * 2 ^ (i + 1) = y * (2 * (x % y)) * 2 ^ i := by rw [Nat.pow_succ]; ac_rfl
  rw [this]
  apply Nat.mul_le_mul_right
  rw [Nat.mul_comm x y]
  exact Nat.mul_le_mul_left y h3
