/-! THE REFERENCE: the risk (laid by gen_m10.py) -/
def coM (f : Nat → Bool) (n : Nat) : Nat := orN (fun r => if f r = true then 2 ^ r else 0) n
theorem coM_bit (f : Nat → Bool) (n k : Nat) : (coM f n).testBit k = decide (k < n ∧ f k = true) := orN_bit k n
theorem coM_lt (f : Nat → Bool) (n : Nat) : coM f n < 2 ^ n := orN_lt (fun k hk => by have := bit_lt hk; have := Nat.two_pow_pos n; split <;> omega)
def exN (f : Nat → Bool) : Nat → Nat → Nat
  | 0, _ => 0
  | n + 1, s => if f n = true ∧ s.testBit (cntN f n) = true then 2 ^ n + exN f n s else exN f n s
theorem exN_lt (f : Nat → Bool) (s : Nat) : ∀ n, exN f n s < 2 ^ n
  | 0 => by simp [exN]
  | n + 1 => by
    have := exN_lt f s n
    simp only [exN]
    rw [Nat.pow_succ]
    split <;> omega
theorem exN_bit (f : Nat → Bool) (s : Nat) : ∀ n r, (exN f n s).testBit r = (decide (r < n) && (f r && s.testBit (cntN f r)))
  | 0, r => by simp [exN]
  | n + 1, r => by
    have ih := exN_bit f s n
    have hl := exN_lt f s n
    simp only [exN]
    by_cases hr : r < n
    · have h1 : r < n + 1 := by omega
      split
      · rw [Nat.testBit_two_pow_add_gt hr, ih]; simp [hr, h1]
      · rw [ih]; simp [hr, h1]
    · by_cases hr2 : r = n
      · subst hr2
        have hz : (exN f r s).testBit r = false := Nat.testBit_lt_two_pow hl
        split
        · next h => rw [Nat.testBit_two_pow_add_eq, hz]; simp [h.1, h.2]
        · next h =>
          rw [hz]
          cases hf : f r <;> cases hb : s.testBit (cntN f r) <;> simp
          exact h ⟨hf, hb⟩
      · have h1 : ¬ r < n + 1 := by omega
        have hp : 2 ^ (n + 1) ≤ 2 ^ r := Nat.pow_le_pow_right (by decide) (by omega)
        have e : 2 ^ (n + 1) = 2 ^ n * 2 := Nat.pow_succ 2 n
        rw [Nat.testBit_lt_two_pow (by split <;> omega)]
        simp [h1]
theorem exN_congr (f : Nat → Bool) {s t : Nat} : ∀ n, (∀ i, i < cntN f n → s.testBit i = t.testBit i) → exN f n s = exN f n t
  | 0, _ => rfl
  | n + 1, h => by
    have ih := exN_congr f n (fun i hi => h i (Nat.lt_of_lt_of_le hi (cntN_mono (by omega))))
    simp only [exN]
    rw [ih]
    by_cases hf : f n = true
    · rw [h (cntN f n) (by simp only [cntN]; rw [if_pos hf]; omega)]
    · rw [if_neg (fun z => hf z.1), if_neg (fun z => hf z.1)]
theorem sumN_split (f : Nat → Nat) (a : Nat) : ∀ b, sumN f (a + b) = sumN f a + sumN (fun k => f (a + k)) b
  | 0 => rfl
  | b + 1 => by
    show sumN f (a + b) + f (a + b) = _
    rw [sumN_split f a b]
    simp only [sumN]
    omega
theorem sumN_zero {f : Nat → Nat} : ∀ n, (∀ k, k < n → f k = 0) → sumN f n = 0
  | 0, _ => rfl
  | n + 1, h => by simp only [sumN]; rw [sumN_zero n (fun k hk => h k (by omega)), h n (by omega)]
theorem sumN_ext0 {f : Nat → Nat} {a b : Nat} (h : a ≤ b) (hz : ∀ k, a ≤ k → k < b → f k = 0) : sumN f b = sumN f a := by
  obtain ⟨c, rfl⟩ : ∃ c, b = a + c := ⟨b - a, by omega⟩
  rw [sumN_split, sumN_zero c (fun k hk => hz (a + k) (by omega) (by omega))]; rfl
abbrev Sb (z c : Nat) : Prop := z &&& (511 ^^^ c) = 0
theorem Sb_iff {z c : Nat} (hz : z < 512) : Sb z c ↔ ∀ r, z.testBit r = true → c.testBit r = true := by
  unfold Sb
  constructor
  · intro h r hr
    have h2 : (z &&& (511 ^^^ c)).testBit r = false := by rw [h, Nat.zero_testBit]
    have hr9 : r < 9 := by
      rcases Nat.lt_or_ge r 9 with q | q
      · exact q
      · have : 512 ≤ 2 ^ r := Nat.pow_le_pow_right (n := 2) (by decide) q
        rw [Nat.testBit_lt_two_pow (by omega)] at hr; cases hr
    rw [Nat.testBit_and, hr, Nat.testBit_xor, show (511 : Nat) = 2 ^ 9 - 1 from rfl, Nat.testBit_two_pow_sub_one] at h2
    simpa [hr9] using h2
  · intro h
    apply Nat.eq_of_testBit_eq
    intro r
    rw [Nat.testBit_and, Nat.zero_testBit]
    cases hr : z.testBit r with
    | false => rfl
    | true =>
      rw [Nat.testBit_xor, h r hr, show (511 : Nat) = 2 ^ 9 - 1 from rfl, Nat.testBit_two_pow_sub_one]
      have hr9 : r < 9 := by
        rcases Nat.lt_or_ge r 9 with q | q
        · exact q
        · have : 512 ≤ 2 ^ r := Nat.pow_le_pow_right (n := 2) (by decide) q
          rw [Nat.testBit_lt_two_pow (by omega)] at hr; cases hr
      simp [hr9]
theorem Sb_le {z c : Nat} (hz : z < 512) (h : Sb z c) : z ≤ c := by
  have h1 := (Sb_iff hz).mp h
  have : z = z &&& c := by
    apply Nat.eq_of_testBit_eq
    intro r
    rw [Nat.testBit_and]
    cases hr : z.testBit r with
    | false => rfl
    | true => rw [h1 r hr]; rfl
  rw [this]; exact Nat.and_le_right
theorem sum_sub (f : Nat → Bool) : ∀ (n : Nat) (F : Nat → Nat), n ≤ 9 → sumN (fun z => if Sb z (coM f n) then F z else 0) (2 ^ n) = sumN (fun s => F (exN f n s)) (2 ^ cntN f n)
  | 0, F, _ => by
    show 0 + (if Sb 0 0 then F 0 else 0) = 0 + F 0
    rw [if_pos (by decide)]
  | n + 1, F, hn => by
    have hp : 2 ^ n ≤ 256 := Nat.pow_le_pow_right (n := 2) (by decide) (show n ≤ 8 by omega)
    have hcl := coM_lt f n
    have hb : ∀ z, z < 2 ^ n → z < 512 := fun z hz => by omega
    rw [show 2 ^ (n + 1) = 2 ^ n + 2 ^ n by rw [Nat.pow_succ]; omega, sumN_split]
    by_cases hf : f n = true
    · have hc : ∀ k, (coM f (n + 1)).testBit k = ((coM f n).testBit k || decide (k = n)) := fun k => by
        rw [coM_bit, coM_bit]
        by_cases e : k = n
        · subst e; simp [hf]
        · by_cases q : k < n
          · have : k < n + 1 := by omega
            simp [q, this, e]
          · have : ¬ k < n + 1 := by omega
            simp [q, this, e]
      have e1 : sumN (fun z => if Sb z (coM f (n + 1)) then F z else 0) (2 ^ n) = sumN (fun z => if Sb z (coM f n) then F z else 0) (2 ^ n) := by
        refine sumN_congr (fun z hz => ?_)
        have q : Sb z (coM f (n + 1)) ↔ Sb z (coM f n) := by
          rw [Sb_iff (hb z hz), Sb_iff (hb z hz)]
          constructor
          · intro h r hr
            have := h r hr
            rw [hc] at this
            have hrn : r ≠ n := fun e => by rw [e, Nat.testBit_lt_two_pow hz] at hr; cases hr
            simpa [hrn] using this
          · intro h r hr
            rw [hc, h r hr]; rfl
        by_cases s : Sb z (coM f n)
        · rw [if_pos s, if_pos (q.mpr s)]
        · rw [if_neg s, if_neg (fun w => s (q.mp w))]
      have e2 : sumN (fun k => if Sb (2 ^ n + k) (coM f (n + 1)) then F (2 ^ n + k) else 0) (2 ^ n) = sumN (fun z => if Sb z (coM f n) then F (2 ^ n + z) else 0) (2 ^ n) := by
        refine sumN_congr (fun z hz => ?_)
        have q : Sb (2 ^ n + z) (coM f (n + 1)) ↔ Sb z (coM f n) := by
          rw [Sb_iff (by omega), Sb_iff (hb z hz)]
          constructor
          · intro h r hr
            have hrn : r < n := by
              rcases Nat.lt_or_ge r n with w | w
              · exact w
              · have : 2 ^ n ≤ 2 ^ r := Nat.pow_le_pow_right (by decide) w
                rw [Nat.testBit_lt_two_pow (by omega)] at hr; cases hr
            have := h r (by rw [Nat.testBit_two_pow_add_gt hrn]; exact hr)
            rw [hc] at this
            have hne : r ≠ n := by omega
            simpa [hne] using this
          · intro h r hr
            rw [hc]
            by_cases e : r = n
            · simp [e]
            · rcases Nat.lt_or_ge r n with w | w
              · rw [Nat.testBit_two_pow_add_gt w] at hr
                rw [h r hr]; rfl
              · have h3 : 2 ^ (n + 1) ≤ 2 ^ r := Nat.pow_le_pow_right (by decide) (by omega)
                rw [Nat.pow_succ] at h3
                rw [Nat.testBit_lt_two_pow (by omega)] at hr; cases hr
        by_cases s : Sb z (coM f n)
        · rw [if_pos s, if_pos (q.mpr s)]
        · rw [if_neg s, if_neg (fun w => s (q.mp w))]
      rw [e1, e2, sum_sub f n F (by omega), sum_sub f n (fun z => F (2 ^ n + z)) (by omega)]
      have ec : cntN f (n + 1) = cntN f n + 1 := by simp only [cntN]; rw [if_pos hf]
      rw [ec, show 2 ^ (cntN f n + 1) = 2 ^ cntN f n + 2 ^ cntN f n by rw [Nat.pow_succ]; omega, sumN_split]
      congr 1
      · refine sumN_congr (fun s hs => ?_)
        simp only [exN]
        rw [if_neg (fun w => by have := w.2; rw [Nat.testBit_lt_two_pow hs] at this; cases this)]
      · refine sumN_congr (fun s hs => ?_)
        simp only [exN]
        rw [if_pos ⟨hf, by rw [Nat.testBit_two_pow_add_eq, Nat.testBit_lt_two_pow hs]; rfl⟩]
        rw [exN_congr f n (s := 2 ^ cntN f n + s) (t := s) (fun i hi => Nat.testBit_two_pow_add_gt hi s)]
    · have hc : coM f (n + 1) = coM f n := by
        show orN _ n ||| (if f n = true then 2 ^ n else 0) = _
        rw [if_neg hf, Nat.or_zero]; rfl
      have ec : cntN f (n + 1) = cntN f n := by simp only [cntN]; rw [if_neg hf]
      rw [hc, ec, sumN_zero (f := fun k => if Sb (2 ^ n + k) (coM f n) then F (2 ^ n + k) else 0) (2 ^ n) (fun k hk => by
        rw [if_neg (fun w => by have := Sb_le (show 2 ^ n + k < 512 by omega) w; omega)]), Nat.add_zero, sum_sub f n F (by omega)]
      refine sumN_congr (fun s hs => ?_)
      simp only [exN]
      rw [if_neg (fun w => hf w.1)]
def ptN (f : Nat → Bool) (p z : Nat) : Nat → Nat
  | 0 => 1
  | r + 1 => ptN f p z r * (if f r = true then (if z.testBit r = true then p else 10 - p) else 1)
theorem ptN_ex {f : Nat → Bool} {p z s : Nat} : ∀ n, (∀ r, r < n → f r = true → z.testBit r = s.testBit (cntN f r)) → ptN f p z n = p ^ cntN (fun i => s.testBit i) (cntN f n) * (10 - p) ^ (cntN f n - cntN (fun i => s.testBit i) (cntN f n))
  | 0, _ => by simp [ptN, cntN]
  | n + 1, h => by
    have ih := ptN_ex (p := p) n (fun r hr => h r (by omega))
    have hle := cntN_le (fun i => s.testBit i) (cntN f n)
    simp only [ptN]
    rw [ih]
    by_cases hf : f n = true
    · have ec : cntN f (n + 1) = cntN f n + 1 := by simp only [cntN]; rw [if_pos hf]
      rw [ec, if_pos hf, h n (by omega) hf]
      by_cases hb : s.testBit (cntN f n) = true
      · have e2 : cntN (fun i => s.testBit i) (cntN f n + 1) = cntN (fun i => s.testBit i) (cntN f n) + 1 := by
          show (if s.testBit (cntN f n) = true then _ else _) = _
          rw [if_pos hb]
        rw [if_pos hb, e2, Nat.pow_succ, Nat.add_sub_add_right]
        rw [Nat.mul_assoc, Nat.mul_assoc, Nat.mul_comm p]
      · have e2 : cntN (fun i => s.testBit i) (cntN f n + 1) = cntN (fun i => s.testBit i) (cntN f n) := by
          show (if s.testBit (cntN f n) = true then _ else _) = _
          rw [if_neg hb]
        rw [if_neg hb, e2, show cntN f n + 1 - cntN (fun i => s.testBit i) (cntN f n) = cntN f n - cntN (fun i => s.testBit i) (cntN f n) + 1 by omega, Nat.pow_succ, Nat.mul_assoc]
    · have ec : cntN f (n + 1) = cntN f n := by simp only [cntN]; rw [if_neg hf]
      rw [ec, if_neg hf, Nat.mul_one]
def zrN (v : Nat → Nat) (z : Nat) : Nat → Nat → Nat
  | 0 => v
  | k + 1 => if z.testBit k = true then sv (zrN v z k) (6 + k) 0 else zrN v z k
theorem zrN_at (v : Nat → Nat) (z : Nat) : ∀ k j, zrN v z k j = if 6 ≤ j ∧ j < 6 + k ∧ z.testBit (j - 6) = true then 0 else v j
  | 0, j => by rw [if_neg (by omega)]; rfl
  | k + 1, j => by
    have ih := zrN_at v z k j
    simp only [zrN]
    by_cases e : j = 6 + k
    · subst e
      rw [show 6 + k - 6 = k by omega]
      by_cases hb : z.testBit k = true
      · rw [if_pos hb, sv_eq, if_pos ⟨by omega, by omega, hb⟩]
      · rw [if_neg hb, if_neg (fun w => hb w.2.2), ih, if_neg (by omega)]
    · have hs : (if z.testBit k = true then sv (zrN v z k) (6 + k) 0 else zrN v z k) j = zrN v z k j := by
        split
        · rw [sv_ne _ _ e]
        · rfl
      rw [hs, ih]
      by_cases q : 6 ≤ j ∧ j < 6 + k ∧ z.testBit (j - 6) = true
      · rw [if_pos q, if_pos ⟨q.1, by omega, q.2.2⟩]
      · rw [if_neg q, if_neg (fun w => q ⟨w.1, by omega, w.2.2⟩)]
theorem zrN_Iv {v : Nat → Nat} (h : Iv v) {z : Nat} (hz : ∀ r, z.testBit r = true → fr v r = true) : ∀ k, k ≤ v 0 → Iv (zrN v z k)
  | 0, _ => h
  | k + 1, hk => by
    have ih := zrN_Iv h hz k (by omega)
    have hn := h.1.nums
    have e : ∀ j, (j < 6 ∨ 15 ≤ j) → zrN v z k j = v j := fun j hj => by rw [zrN_at, if_neg (by omega)]
    simp only [zrN]
    split
    · next hb =>
      have := ih.setS (p := k + 1) (y := 0) (by omega) (by rw [e 0 (by omega)]; omega) (by omega) (fun _ g hg => by
        rw [e 2 (by omega)] at hg
        rw [e _ (by omega)]
        exact fr_who (hz k hb) hg)
      rwa [show 5 + (k + 1) = 6 + k by omega] at this
    · exact ih
theorem zr_bo {v : Nat → Nat} (h9 : v 0 ≤ 9) (s : Nat) : zrN v (exN (fr v) (v 0) s) (v 0) = boN v s 9 := by
  funext j
  rw [zrN_at]
  unfold boN
  have hc := cntN_le (fr v) (j - 6)
  by_cases hj : 6 ≤ j ∧ j < 6 + v 0
  · rw [exN_bit]
    have h1 : j - 6 < v 0 := by omega
    have h2 : cntN (fr v) (j - 6) < 9 := by omega
    cases hf : fr v (j - 6) <;> cases hb : s.testBit (cntN (fr v) (j - 6)) <;> simp [hj.1, hj.2, h1, h2]
  · rw [if_neg (fun w => hj ⟨w.1, w.2.1⟩), if_neg (fun w => hj ⟨w.1, w.2.1⟩)]
def rzF (v : Nat → Nat) (g n p z : Nat) : Nat := if Sb z (coM (fr v) (v 0)) then (if abv (hrs (zrN v z (v 0)) n) g = true then ptN (fr v) p z (v 0) else 0) else 0
theorem rz_all {v : Nat → Nat} (h9 : v 0 ≤ 9) (g n p : Nat) : sumN (rzF v g n p) (coM (fr v) (v 0) + 1) = rkA v g n p := by
  have hc := coM_lt (fr v) (v 0)
  have hp : 2 ^ v 0 ≤ 512 := Nat.pow_le_pow_right (n := 2) (by decide) h9
  have e1 : sumN (rzF v g n p) (2 ^ v 0) = sumN (rzF v g n p) (coM (fr v) (v 0) + 1) := sumN_ext0 (by omega) (fun k h1 h2 => by
    unfold rzF
    rw [if_neg (fun w => by have := Sb_le (by omega) w; omega)])
  rw [← e1]
  have := sum_sub (fr v) (v 0) (fun z => if abv (hrs (zrN v z (v 0)) n) g = true then ptN (fr v) p z (v 0) else 0) h9
  refine (this.trans ?_)
  unfold rkA
  refine sumN_congr (fun s hs => ?_)
  have hf9 : frC v ≤ 9 := by have := cntN_le (fr v) (v 0); unfold frC; omega
  rw [zr_bo h9]
  have e2 : ptN (fr v) p (exN (fr v) (v 0) s) (v 0) = rkW v p s := by
    rw [ptN_ex (s := s) (v 0) (fun r hr hf => by rw [exN_bit]; simp [hr, hf])]
    have : cntN (fun i => s.testBit i) (cntN (fr v) (v 0)) = pop s := by
      unfold pop
      exact (cntN_ext 32 (by have := cntN_le (fr v) (v 0); omega) (fun i _ => rfl) (fun i h1 _ => Nat.testBit_lt_two_pow (Nat.lt_of_lt_of_le hs (Nat.pow_le_pow_right (by decide) h1)))).symm
    rw [this]; rfl
  rw [e2]
theorem rkA_lt {v : Nat → Nat} (h9 : v 0 ≤ 9) {p : Nat} (hp : p ≤ 10) (g n : Nat) : rkA v g n p < 2 ^ 62 ∧ 10 ^ frC v ≤ 1000000000 := by
  have hf9 : frC v ≤ 9 := by have := cntN_le (fr v) (v 0); unfold frC; omega
  have h10 : 10 ^ frC v ≤ 10 ^ 9 := Nat.pow_le_pow_right (by decide) hf9
  have h2 : 2 ^ frC v ≤ 2 ^ 9 := Nat.pow_le_pow_right (by decide) hf9
  have : rkA v g n p ≤ 2 ^ frC v * 10 ^ frC v := sumN_le (fun s hs => by
    have := rkW_le (v := v) hp (pop_le (frC v) hf9 s hs)
    split
    · exact this
    · exact Nat.zero_le _)
  have h3 : 2 ^ frC v * 10 ^ frC v ≤ 2 ^ 9 * 10 ^ 9 := Nat.mul_le_mul h2 h10
  exact ⟨by omega, by omega⟩

set_option maxRecDepth 100000 in
set_option maxHeartbeats 4000000 in
theorem m_risk {Ω : Om} {l : Launch} {M : Mem} {σ : Sg} (hM : IM M σ) (hW : SgW σ) {x n q w : Int32} : Ct Ω l yX12_risk cX12_risk 16 11 (some .long) [.ref (Ω.2.2 34), .int x, .int n, .int q, .int w] M (fun ro M' => ro = some (.long (R_risk σ.v x n q w)) ∧ IM M' σ ∧ FrC M M') := by
  have hS := hM.ms
  have hLv : Lv σ.v := hW.2.2.1
  have hw := hLv.wv
  have hn := hw.nums
  have hth := hM.there
  refine ct_of (by decide) (Nat.le_of_ble_eq_true rfl) ?_
  intro p e R s m args below meth c
  have big : ∀ (g n q : Nat), g < σ.v 2 → n ≤ 30 → q ≤ 10 → inB (nI n) 0 30 = true → inB (nI q) 0 10 = true → inB w 0 1 = true → ∀ (M0 : Mem), MsR M0 σ.v → AsR M0 σ.v → FQ M M0 → X (mkG p l e R s m args below meth c Ω (fun ro M' => ro = some (.long (R_risk σ.v (nI g) (nI n) (nI q) w)) ∧ IM M' σ ∧ FrC M M')) Ω RX12 cX12_risk 16 11 (some .long) 57 [some (.ref (Ω.2.2 34)), some (.int (nI g)), some (.int (nI n)), some (.int (nI q)), some (.int w), some (.int (nI 0)), some (.long (lN 1)), none, some (.int (nI 0)), none, none, none, none, none, none, none] [] M0 := by
    intro g n q hg n2 q2 hi1 hi2 hi3 M00 hS00 hA00 hF00
    obtain ⟨hI, h999⟩ := hLv.goer hg
    have tg := tN_nI (g := g) (by omega)
    have tn := tN_nI (g := n) (by omega)
    have tq := tN_nI (g := q) (by omega)
    obtain ⟨hr1, hr2⟩ := rkA_lt (v := σ.v) hn.1 q2 g n
    have h10 : 0 < 10 ^ frC σ.v := Nat.pow_pos (by decide)
    have hcl := coM_lt (fr σ.v) (σ.v 0)
    have hpw : 2 ^ σ.v 0 ≤ 512 := Nat.pow_le_pow_right (by decide) hn.1 (n := 2)
    have hw01 : w = nI 0 ∨ w = nI 1 := by
      obtain ⟨z, _, _, rfl⟩ := inB_nI hi3 (by decide)
      rcases (show z = 0 ∨ z = 1 by omega) with rfl | rfl
      · exact Or.inl rfl
      · exact Or.inr rfl
    have fin : R_risk σ.v (nI g) (nI n) (nI q) w = (if w = nI 0 then lN (rkA σ.v g n q / Nat.gcd (rkA σ.v g n q) (10 ^ frC σ.v)) else lN (10 ^ frC σ.v / Nat.gcd (rkA σ.v g n q) (10 ^ frC σ.v))) := by
      unfold R_risk
      rw [if_pos ⟨inR_of hg (by omega), hi1, hi2, hi3⟩, tg, tn, tq]
    have keyG : ∀ (k x y : Nat) (M1 : Mem) (x14 : Option Value), y ≤ k → Nat.gcd x y = Nat.gcd (rkA σ.v g n q) (10 ^ frC σ.v) → x < 2 ^ 62 → y < 2 ^ 62 → MsR M1 σ.v → FQ M M1 → X (mkG p l e R s m args below meth c Ω (fun ro M' => ro = some (.long (R_risk σ.v (nI g) (nI n) (nI q) w)) ∧ IM M' σ ∧ FrC M M')) Ω RX12 cX12_risk 16 11 (some .long) 293 [some (.ref (Ω.2.2 34)), some (.int (nI g)), some (.int (nI n)), some (.int (nI q)), some (.int w), some (.int (nI (coM (fr σ.v) (σ.v 0)))), some (.long (lN (10 ^ frC σ.v))), none, some (.long (lN (rkA σ.v g n q))), none, some (.long (lN x)), none, some (.long (lN y)), none, x14, none] [] M1 := by
      intro k
      induction k with
      | zero =>
        intro x y M1 x14 hk hgc hx hy hS1 hF1
        have hgp : y = 0 → 0 < x := fun z => by
          subst z
          rw [Nat.gcd_zero_right] at hgc
          rw [hgc]; exact Nat.gcd_pos_of_pos_right _ h10
        refine x_lload dX12_risk_293 rfl ?_
        refine x_lconst (v := lN 0) dX12_risk_295 rfl ?_
        refine y_lc0_eq 318 dX12_risk_296 dX12_risk_297 (by omega) (fun h_297 => ?_) (fun h_297 => ?_)
        · have hx0 := hgp h_297
          refine x_iload dX12_risk_318 rfl ?_
          refine x_if_ne 331 dX12_risk_320 (fun h_320 => ?_) (fun h_320 => ?_)
          · refine x_lload dX12_risk_331 rfl ?_
            refine x_lload dX12_risk_333 rfl ?_
            refine y_ldiv dX12_risk_335 (by omega) (by omega) (by omega) ?_
            refine x_lret dX12_risk_336 ?_
            obtain rfl : y = 0 := by omega
            rw [Nat.gcd_zero_right] at hgc
            refine ⟨congrArg (fun z => some (Value.long z)) ?_, hM.q hF1 hS1⟩
            rw [fin]
            rcases hw01 with rfl | rfl
            · first
                | (exact absurd rfl h_320)
                | (rw [if_pos rfl, hgc])
            · first
                | (exact absurd h_320 (by decide +kernel))
                | (rw [if_neg (by decide +kernel), hgc])
          · refine x_lload dX12_risk_323 rfl ?_
            refine x_lload dX12_risk_325 rfl ?_
            refine y_ldiv dX12_risk_327 (by omega) (by omega) (by omega) ?_
            refine x_goto 336 dX12_risk_328 ?_
            refine x_lret dX12_risk_336 ?_
            obtain rfl : y = 0 := by omega
            rw [Nat.gcd_zero_right] at hgc
            refine ⟨congrArg (fun z => some (Value.long z)) ?_, hM.q hF1 hS1⟩
            rw [fin]
            rcases hw01 with rfl | rfl
            · first
                | (exact absurd rfl h_320)
                | (rw [if_pos rfl, hgc])
            · first
                | (exact absurd h_320 (by decide +kernel))
                | (rw [if_neg (by decide +kernel), hgc])
        · exfalso; omega
      | succ k ih =>
        intro x y M1 x14 hk hgc hx hy hS1 hF1
        have hgp : y = 0 → 0 < x := fun z => by
          subst z
          rw [Nat.gcd_zero_right] at hgc
          rw [hgc]; exact Nat.gcd_pos_of_pos_right _ h10
        refine x_lload dX12_risk_293 rfl ?_
        refine x_lconst (v := lN 0) dX12_risk_295 rfl ?_
        refine y_lc0_eq 318 dX12_risk_296 dX12_risk_297 (by omega) (fun h_297 => ?_) (fun h_297 => ?_)
        · have hx0 := hgp h_297
          refine x_iload dX12_risk_318 rfl ?_
          refine x_if_ne 331 dX12_risk_320 (fun h_320 => ?_) (fun h_320 => ?_)
          · refine x_lload dX12_risk_331 rfl ?_
            refine x_lload dX12_risk_333 rfl ?_
            refine y_ldiv dX12_risk_335 (by omega) (by omega) (by omega) ?_
            refine x_lret dX12_risk_336 ?_
            obtain rfl : y = 0 := by omega
            rw [Nat.gcd_zero_right] at hgc
            refine ⟨congrArg (fun z => some (Value.long z)) ?_, hM.q hF1 hS1⟩
            rw [fin]
            rcases hw01 with rfl | rfl
            · first
                | (exact absurd rfl h_320)
                | (rw [if_pos rfl, hgc])
            · first
                | (exact absurd h_320 (by decide +kernel))
                | (rw [if_neg (by decide +kernel), hgc])
          · refine x_lload dX12_risk_323 rfl ?_
            refine x_lload dX12_risk_325 rfl ?_
            refine y_ldiv dX12_risk_327 (by omega) (by omega) (by omega) ?_
            refine x_goto 336 dX12_risk_328 ?_
            refine x_lret dX12_risk_336 ?_
            obtain rfl : y = 0 := by omega
            rw [Nat.gcd_zero_right] at hgc
            refine ⟨congrArg (fun z => some (Value.long z)) ?_, hM.q hF1 hS1⟩
            rw [fin]
            rcases hw01 with rfl | rfl
            · first
                | (exact absurd rfl h_320)
                | (rw [if_pos rfl, hgc])
            · first
                | (exact absurd h_320 (by decide +kernel))
                | (rw [if_neg (by decide +kernel), hgc])
        · refine x_lload dX12_risk_300 rfl ?_
          refine x_lload dX12_risk_302 rfl ?_
          refine y_lrem dX12_risk_304 (by omega) (by omega) (by omega) ?_
          refine x_lstore dX12_risk_305 ?_
          refine x_lload dX12_risk_307 rfl ?_
          refine x_lstore dX12_risk_309 ?_
          refine x_lload dX12_risk_311 rfl ?_
          refine x_lstore dX12_risk_313 ?_
          refine x_goto 293 dX12_risk_315 ?_
          have hml := Nat.mod_lt x (show 0 < y by omega)
          exact ih y (x % y) M1 _ (by omega) (gcd_step.trans hgc) hy (by omega) hS1 hF1
    have inner : ∀ (z : Nat), z < 512 → ∀ (k r : Nat) (M1 M0 : Mem), r + k = σ.v 0 → MsR M1 (zrN σ.v z r) → FS M0 M1 → (∀ (M2 : Mem) (x13 : Int32), MsR M2 (zrN σ.v z (σ.v 0)) → FS M0 M2 → X (mkG p l e R s m args below meth c Ω (fun ro M' => ro = some (.long (R_risk σ.v (nI g) (nI n) (nI q) w)) ∧ IM M' σ ∧ FrC M M')) Ω RX12 cX12_risk 16 11 (some .long) 259 [some (.ref (Ω.2.2 34)), some (.int (nI g)), some (.int (nI n)), some (.int (nI q)), some (.int w), some (.int (nI (coM (fr σ.v) (σ.v 0)))), some (.long (lN (10 ^ frC σ.v))), none, some (.long (lN (sumN (rzF σ.v g n q) z))), none, some (.int (nI z)), some (.long (lN (ptN (fr σ.v) q z (σ.v 0)))), none, some (.int x13), none, none] [] M2) → X (mkG p l e R s m args below meth c Ω (fun ro M' => ro = some (.long (R_risk σ.v (nI g) (nI n) (nI q) w)) ∧ IM M' σ ∧ FrC M M')) Ω RX12 cX12_risk 16 11 (some .long) 169 [some (.ref (Ω.2.2 34)), some (.int (nI g)), some (.int (nI n)), some (.int (nI q)), some (.int w), some (.int (nI (coM (fr σ.v) (σ.v 0)))), some (.long (lN (10 ^ frC σ.v))), none, some (.long (lN (sumN (rzF σ.v g n q) z))), none, some (.int (nI z)), some (.long (lN (ptN (fr σ.v) q z r))), none, some (.int (nI r)), none, none] [] M1 := by
      intro z hz k
      induction k with
      | zero =>
        intro r M1 M0 hk hS1 hF1 hc
        have e0 : zrN σ.v z r 0 = σ.v 0 := by rw [zrN_at, if_neg (by omega)]
        have e6 : zrN σ.v z r (6 + r) = σ.v (6 + r) := by rw [zrN_at, if_neg (by omega)]
        refine x_iload dX12_risk_169 rfl ?_
        refine x_aload_n dX12_risk_171 rfl ?_
        refine g_X12_19 dX12_risk_172 ?_
        refine y_iconst (a := 0) dX12_risk_175 rfl ?_
        refine x_ial dX12_risk_176 (⟨by decide, rfl, rfl, by decide⟩ : Ar 38 45) (by omega) ?_
        rw [hS1.at (by omega), e0]
        refine y_icmp_ge 259 dX12_risk_177 (by omega) (by omega) (fun h_177 => ?_) (fun h_177 => ?_)
        · obtain rfl : r = σ.v 0 := by omega
          exact hc _ _ hS1 hF1
        · exfalso; omega
      | succ k ih =>
        intro r M1 M0 hk hS1 hF1 hc
        have e0 : zrN σ.v z r 0 = σ.v 0 := by rw [zrN_at, if_neg (by omega)]
        have e6 : zrN σ.v z r (6 + r) = σ.v (6 + r) := by rw [zrN_at, if_neg (by omega)]
        refine x_iload dX12_risk_169 rfl ?_
        refine x_aload_n dX12_risk_171 rfl ?_
        refine g_X12_19 dX12_risk_172 ?_
        refine y_iconst (a := 0) dX12_risk_175 rfl ?_
        refine x_ial dX12_risk_176 (⟨by decide, rfl, rfl, by decide⟩ : Ar 38 45) (by omega) ?_
        rw [hS1.at (by omega), e0]
        refine y_icmp_ge 259 dX12_risk_177 (by omega) (by omega) (fun h_177 => ?_) (fun h_177 => ?_)
        · exfalso; omega
        · refine x_lload dX12_risk_180 rfl ?_
          refine x_iload dX12_risk_182 rfl ?_
          refine x_iload dX12_risk_184 rfl ?_
          refine q_X12_174 (m_has (by omega) (by omega)) dX12_risk_186 rfl ?_
          rintro _ _ ⟨rfl, rfl⟩
          refine z_if_ne 196 dX12_risk_189 (fun h_189 => ?_) (fun h_189 => ?_)
          · refine x_iload dX12_risk_196 rfl ?_
            refine x_iload dX12_risk_198 rfl ?_
            refine q_X12_174 (m_has (by omega) (by omega)) dX12_risk_200 rfl ?_
            rintro _ _ ⟨rfl, rfl⟩
            refine z_if_eq 211 dX12_risk_203 (fun h_203 => ?_) (fun h_203 => ?_)
            · refine x_bipush (v := nI 10) dX12_risk_211 rfl ?_
              refine x_iload_n dX12_risk_213 rfl ?_
              refine y_isub dX12_risk_214 (by omega) ?_
              refine y_i2l dX12_risk_215 (by omega) ?_
              refine y_lmul dX12_risk_216 ?_
              refine x_lstore dX12_risk_217 ?_
              refine x_aload_n dX12_risk_219 rfl ?_
              refine g_X12_19 dX12_risk_220 ?_
              refine x_bipush (v := nI 6) dX12_risk_223 rfl ?_
              refine x_iload dX12_risk_225 rfl ?_
              refine y_iadd dX12_risk_227 ?_
              refine x_iload dX12_risk_228 rfl ?_
              refine x_iload dX12_risk_230 rfl ?_
              refine q_X12_174 (m_has (by omega) (by omega)) dX12_risk_232 rfl ?_
              rintro _ _ ⟨rfl, rfl⟩
              refine z_if_eq 242 dX12_risk_235 (fun h_235 => ?_) (fun h_235 => ?_)
              · refine x_aload_n dX12_risk_242 rfl ?_
                refine g_X12_19 dX12_risk_243 ?_
                refine x_bipush (v := nI 6) dX12_risk_246 rfl ?_
                refine x_iload dX12_risk_248 rfl ?_
                refine y_iadd dX12_risk_250 ?_
                refine x_ial dX12_risk_251 (⟨by decide, rfl, rfl, by decide⟩ : Ar 38 45) (by omega) ?_
                rw [hS1.at (by omega)]
                refine x_ias dX12_risk_252 (⟨by decide, rfl, rfl, by decide⟩ : Ar 38 45) (by omega) ?_
                refine y_iinc dX12_risk_253 rfl ?_
                refine x_goto 169 dX12_risk_256 ?_
                have hcb : (coM (fr σ.v) (σ.v 0)).testBit r = fr σ.v r := by rw [coM_bit]; cases fr σ.v r <;> simp; omega
                rw [hcb] at h_189
                first
                  | (have hz2 : MsR (up1 M1 38 (6 + r) (nI 0)) (zrN σ.v z (r + 1)) := by
                       refine (hS1.set (6 + r) 0).congr (fun j _ => ?_)
                       simp only [zrN]; rw [if_pos h_235]
                     have hh := ih (r + 1) _ M0 (by omega) hz2 hF1.up hc
                     simp only [ptN] at hh
                     first
                       | (rw [if_neg (fun u => Bool.false_ne_true (h_189.symm.trans u))] at hh; exact hh)
                       | (rw [if_pos h_189, if_pos h_203] at hh; exact hh)
                       | (rw [if_pos h_189, if_neg (fun u => Bool.false_ne_true (h_203.symm.trans u))] at hh; exact hh))
                  | (have hz2 : MsR (up1 M1 38 (6 + r) (nI (zrN σ.v z r (6 + r)))) (zrN σ.v z (r + 1)) := by
                       refine (hS1.set (6 + r) (zrN σ.v z r (6 + r))).congr (fun j _ => ?_)
                       simp only [zrN]; rw [if_neg (fun u => Bool.false_ne_true (h_235.symm.trans u))]
                       unfold sv; split
                       · next e => rw [e]
                       · rfl
                     have hh := ih (r + 1) _ M0 (by omega) hz2 hF1.up hc
                     simp only [ptN] at hh
                     first
                       | (rw [if_neg (fun u => Bool.false_ne_true (h_189.symm.trans u))] at hh; exact hh)
                       | (rw [if_pos h_189, if_pos h_203] at hh; exact hh)
                       | (rw [if_pos h_189, if_neg (fun u => Bool.false_ne_true (h_203.symm.trans u))] at hh; exact hh))
              · refine y_iconst (a := 0) dX12_risk_238 rfl ?_
                refine x_goto 252 dX12_risk_239 ?_
                refine x_ias dX12_risk_252 (⟨by decide, rfl, rfl, by decide⟩ : Ar 38 45) (by omega) ?_
                refine y_iinc dX12_risk_253 rfl ?_
                refine x_goto 169 dX12_risk_256 ?_
                have hcb : (coM (fr σ.v) (σ.v 0)).testBit r = fr σ.v r := by rw [coM_bit]; cases fr σ.v r <;> simp; omega
                rw [hcb] at h_189
                first
                  | (have hz2 : MsR (up1 M1 38 (6 + r) (nI 0)) (zrN σ.v z (r + 1)) := by
                       refine (hS1.set (6 + r) 0).congr (fun j _ => ?_)
                       simp only [zrN]; rw [if_pos h_235]
                     have hh := ih (r + 1) _ M0 (by omega) hz2 hF1.up hc
                     simp only [ptN] at hh
                     first
                       | (rw [if_neg (fun u => Bool.false_ne_true (h_189.symm.trans u))] at hh; exact hh)
                       | (rw [if_pos h_189, if_pos h_203] at hh; exact hh)
                       | (rw [if_pos h_189, if_neg (fun u => Bool.false_ne_true (h_203.symm.trans u))] at hh; exact hh))
                  | (have hz2 : MsR (up1 M1 38 (6 + r) (nI (zrN σ.v z r (6 + r)))) (zrN σ.v z (r + 1)) := by
                       refine (hS1.set (6 + r) (zrN σ.v z r (6 + r))).congr (fun j _ => ?_)
                       simp only [zrN]; rw [if_neg (fun u => Bool.false_ne_true (h_235.symm.trans u))]
                       unfold sv; split
                       · next e => rw [e]
                       · rfl
                     have hh := ih (r + 1) _ M0 (by omega) hz2 hF1.up hc
                     simp only [ptN] at hh
                     first
                       | (rw [if_neg (fun u => Bool.false_ne_true (h_189.symm.trans u))] at hh; exact hh)
                       | (rw [if_pos h_189, if_pos h_203] at hh; exact hh)
                       | (rw [if_pos h_189, if_neg (fun u => Bool.false_ne_true (h_203.symm.trans u))] at hh; exact hh))
            · refine x_iload_n dX12_risk_206 rfl ?_
              refine y_i2l dX12_risk_207 (by omega) ?_
              refine x_goto 216 dX12_risk_208 ?_
              refine y_lmul dX12_risk_216 ?_
              refine x_lstore dX12_risk_217 ?_
              refine x_aload_n dX12_risk_219 rfl ?_
              refine g_X12_19 dX12_risk_220 ?_
              refine x_bipush (v := nI 6) dX12_risk_223 rfl ?_
              refine x_iload dX12_risk_225 rfl ?_
              refine y_iadd dX12_risk_227 ?_
              refine x_iload dX12_risk_228 rfl ?_
              refine x_iload dX12_risk_230 rfl ?_
              refine q_X12_174 (m_has (by omega) (by omega)) dX12_risk_232 rfl ?_
              rintro _ _ ⟨rfl, rfl⟩
              refine z_if_eq 242 dX12_risk_235 (fun h_235 => ?_) (fun h_235 => ?_)
              · refine x_aload_n dX12_risk_242 rfl ?_
                refine g_X12_19 dX12_risk_243 ?_
                refine x_bipush (v := nI 6) dX12_risk_246 rfl ?_
                refine x_iload dX12_risk_248 rfl ?_
                refine y_iadd dX12_risk_250 ?_
                refine x_ial dX12_risk_251 (⟨by decide, rfl, rfl, by decide⟩ : Ar 38 45) (by omega) ?_
                rw [hS1.at (by omega)]
                refine x_ias dX12_risk_252 (⟨by decide, rfl, rfl, by decide⟩ : Ar 38 45) (by omega) ?_
                refine y_iinc dX12_risk_253 rfl ?_
                refine x_goto 169 dX12_risk_256 ?_
                have hcb : (coM (fr σ.v) (σ.v 0)).testBit r = fr σ.v r := by rw [coM_bit]; cases fr σ.v r <;> simp; omega
                rw [hcb] at h_189
                first
                  | (have hz2 : MsR (up1 M1 38 (6 + r) (nI 0)) (zrN σ.v z (r + 1)) := by
                       refine (hS1.set (6 + r) 0).congr (fun j _ => ?_)
                       simp only [zrN]; rw [if_pos h_235]
                     have hh := ih (r + 1) _ M0 (by omega) hz2 hF1.up hc
                     simp only [ptN] at hh
                     first
                       | (rw [if_neg (fun u => Bool.false_ne_true (h_189.symm.trans u))] at hh; exact hh)
                       | (rw [if_pos h_189, if_pos h_203] at hh; exact hh)
                       | (rw [if_pos h_189, if_neg (fun u => Bool.false_ne_true (h_203.symm.trans u))] at hh; exact hh))
                  | (have hz2 : MsR (up1 M1 38 (6 + r) (nI (zrN σ.v z r (6 + r)))) (zrN σ.v z (r + 1)) := by
                       refine (hS1.set (6 + r) (zrN σ.v z r (6 + r))).congr (fun j _ => ?_)
                       simp only [zrN]; rw [if_neg (fun u => Bool.false_ne_true (h_235.symm.trans u))]
                       unfold sv; split
                       · next e => rw [e]
                       · rfl
                     have hh := ih (r + 1) _ M0 (by omega) hz2 hF1.up hc
                     simp only [ptN] at hh
                     first
                       | (rw [if_neg (fun u => Bool.false_ne_true (h_189.symm.trans u))] at hh; exact hh)
                       | (rw [if_pos h_189, if_pos h_203] at hh; exact hh)
                       | (rw [if_pos h_189, if_neg (fun u => Bool.false_ne_true (h_203.symm.trans u))] at hh; exact hh))
              · refine y_iconst (a := 0) dX12_risk_238 rfl ?_
                refine x_goto 252 dX12_risk_239 ?_
                refine x_ias dX12_risk_252 (⟨by decide, rfl, rfl, by decide⟩ : Ar 38 45) (by omega) ?_
                refine y_iinc dX12_risk_253 rfl ?_
                refine x_goto 169 dX12_risk_256 ?_
                have hcb : (coM (fr σ.v) (σ.v 0)).testBit r = fr σ.v r := by rw [coM_bit]; cases fr σ.v r <;> simp; omega
                rw [hcb] at h_189
                first
                  | (have hz2 : MsR (up1 M1 38 (6 + r) (nI 0)) (zrN σ.v z (r + 1)) := by
                       refine (hS1.set (6 + r) 0).congr (fun j _ => ?_)
                       simp only [zrN]; rw [if_pos h_235]
                     have hh := ih (r + 1) _ M0 (by omega) hz2 hF1.up hc
                     simp only [ptN] at hh
                     first
                       | (rw [if_neg (fun u => Bool.false_ne_true (h_189.symm.trans u))] at hh; exact hh)
                       | (rw [if_pos h_189, if_pos h_203] at hh; exact hh)
                       | (rw [if_pos h_189, if_neg (fun u => Bool.false_ne_true (h_203.symm.trans u))] at hh; exact hh))
                  | (have hz2 : MsR (up1 M1 38 (6 + r) (nI (zrN σ.v z r (6 + r)))) (zrN σ.v z (r + 1)) := by
                       refine (hS1.set (6 + r) (zrN σ.v z r (6 + r))).congr (fun j _ => ?_)
                       simp only [zrN]; rw [if_neg (fun u => Bool.false_ne_true (h_235.symm.trans u))]
                       unfold sv; split
                       · next e => rw [e]
                       · rfl
                     have hh := ih (r + 1) _ M0 (by omega) hz2 hF1.up hc
                     simp only [ptN] at hh
                     first
                       | (rw [if_neg (fun u => Bool.false_ne_true (h_189.symm.trans u))] at hh; exact hh)
                       | (rw [if_pos h_189, if_pos h_203] at hh; exact hh)
                       | (rw [if_pos h_189, if_neg (fun u => Bool.false_ne_true (h_203.symm.trans u))] at hh; exact hh))
          · refine x_lconst (v := lN 1) dX12_risk_192 rfl ?_
            refine x_goto 216 dX12_risk_193 ?_
            refine y_lmul dX12_risk_216 ?_
            refine x_lstore dX12_risk_217 ?_
            refine x_aload_n dX12_risk_219 rfl ?_
            refine g_X12_19 dX12_risk_220 ?_
            refine x_bipush (v := nI 6) dX12_risk_223 rfl ?_
            refine x_iload dX12_risk_225 rfl ?_
            refine y_iadd dX12_risk_227 ?_
            refine x_iload dX12_risk_228 rfl ?_
            refine x_iload dX12_risk_230 rfl ?_
            refine q_X12_174 (m_has (by omega) (by omega)) dX12_risk_232 rfl ?_
            rintro _ _ ⟨rfl, rfl⟩
            refine z_if_eq 242 dX12_risk_235 (fun h_235 => ?_) (fun h_235 => ?_)
            · refine x_aload_n dX12_risk_242 rfl ?_
              refine g_X12_19 dX12_risk_243 ?_
              refine x_bipush (v := nI 6) dX12_risk_246 rfl ?_
              refine x_iload dX12_risk_248 rfl ?_
              refine y_iadd dX12_risk_250 ?_
              refine x_ial dX12_risk_251 (⟨by decide, rfl, rfl, by decide⟩ : Ar 38 45) (by omega) ?_
              rw [hS1.at (by omega)]
              refine x_ias dX12_risk_252 (⟨by decide, rfl, rfl, by decide⟩ : Ar 38 45) (by omega) ?_
              refine y_iinc dX12_risk_253 rfl ?_
              refine x_goto 169 dX12_risk_256 ?_
              have hcb : (coM (fr σ.v) (σ.v 0)).testBit r = fr σ.v r := by rw [coM_bit]; cases fr σ.v r <;> simp; omega
              rw [hcb] at h_189
              first
                | (have hz2 : MsR (up1 M1 38 (6 + r) (nI 0)) (zrN σ.v z (r + 1)) := by
                     refine (hS1.set (6 + r) 0).congr (fun j _ => ?_)
                     simp only [zrN]; rw [if_pos h_235]
                   have hh := ih (r + 1) _ M0 (by omega) hz2 hF1.up hc
                   simp only [ptN] at hh
                   first
                     | (rw [if_neg (fun u => Bool.false_ne_true (h_189.symm.trans u))] at hh; exact hh)
                     | (rw [if_pos h_189, if_pos h_203] at hh; exact hh)
                     | (rw [if_pos h_189, if_neg (fun u => Bool.false_ne_true (h_203.symm.trans u))] at hh; exact hh))
                | (have hz2 : MsR (up1 M1 38 (6 + r) (nI (zrN σ.v z r (6 + r)))) (zrN σ.v z (r + 1)) := by
                     refine (hS1.set (6 + r) (zrN σ.v z r (6 + r))).congr (fun j _ => ?_)
                     simp only [zrN]; rw [if_neg (fun u => Bool.false_ne_true (h_235.symm.trans u))]
                     unfold sv; split
                     · next e => rw [e]
                     · rfl
                   have hh := ih (r + 1) _ M0 (by omega) hz2 hF1.up hc
                   simp only [ptN] at hh
                   first
                     | (rw [if_neg (fun u => Bool.false_ne_true (h_189.symm.trans u))] at hh; exact hh)
                     | (rw [if_pos h_189, if_pos h_203] at hh; exact hh)
                     | (rw [if_pos h_189, if_neg (fun u => Bool.false_ne_true (h_203.symm.trans u))] at hh; exact hh))
            · refine y_iconst (a := 0) dX12_risk_238 rfl ?_
              refine x_goto 252 dX12_risk_239 ?_
              refine x_ias dX12_risk_252 (⟨by decide, rfl, rfl, by decide⟩ : Ar 38 45) (by omega) ?_
              refine y_iinc dX12_risk_253 rfl ?_
              refine x_goto 169 dX12_risk_256 ?_
              have hcb : (coM (fr σ.v) (σ.v 0)).testBit r = fr σ.v r := by rw [coM_bit]; cases fr σ.v r <;> simp; omega
              rw [hcb] at h_189
              first
                | (have hz2 : MsR (up1 M1 38 (6 + r) (nI 0)) (zrN σ.v z (r + 1)) := by
                     refine (hS1.set (6 + r) 0).congr (fun j _ => ?_)
                     simp only [zrN]; rw [if_pos h_235]
                   have hh := ih (r + 1) _ M0 (by omega) hz2 hF1.up hc
                   simp only [ptN] at hh
                   first
                     | (rw [if_neg (fun u => Bool.false_ne_true (h_189.symm.trans u))] at hh; exact hh)
                     | (rw [if_pos h_189, if_pos h_203] at hh; exact hh)
                     | (rw [if_pos h_189, if_neg (fun u => Bool.false_ne_true (h_203.symm.trans u))] at hh; exact hh))
                | (have hz2 : MsR (up1 M1 38 (6 + r) (nI (zrN σ.v z r (6 + r)))) (zrN σ.v z (r + 1)) := by
                     refine (hS1.set (6 + r) (zrN σ.v z r (6 + r))).congr (fun j _ => ?_)
                     simp only [zrN]; rw [if_neg (fun u => Bool.false_ne_true (h_235.symm.trans u))]
                     unfold sv; split
                     · next e => rw [e]
                     · rfl
                   have hh := ih (r + 1) _ M0 (by omega) hz2 hF1.up hc
                   simp only [ptN] at hh
                   first
                     | (rw [if_neg (fun u => Bool.false_ne_true (h_189.symm.trans u))] at hh; exact hh)
                     | (rw [if_pos h_189, if_pos h_203] at hh; exact hh)
                     | (rw [if_pos h_189, if_neg (fun u => Bool.false_ne_true (h_203.symm.trans u))] at hh; exact hh))
    have key2 : ∀ (k z : Nat) (M1 : Mem) (x11 x13 : Option Value), z + k = (coM (fr σ.v) (σ.v 0)) + 1 → MsR M1 σ.v → AsR M1 σ.v → FQ M M1 → X (mkG p l e R s m args below meth c Ω (fun ro M' => ro = some (.long (R_risk σ.v (nI g) (nI n) (nI q) w)) ∧ IM M' σ ∧ FrC M M')) Ω RX12 cX12_risk 16 11 (some .long) 146 [some (.ref (Ω.2.2 34)), some (.int (nI g)), some (.int (nI n)), some (.int (nI q)), some (.int w), some (.int (nI (coM (fr σ.v) (σ.v 0)))), some (.long (lN (10 ^ frC σ.v))), none, some (.long (lN (sumN (rzF σ.v g n q) z))), none, some (.int (nI z)), x11, none, x13, none, none] [] M1 := by
      intro k
      induction k with
      | zero =>
        intro z M1 x11 x13 hk hS1 hA1 hF1
        refine x_iload dX12_risk_146 rfl ?_
        refine x_iload dX12_risk_148 rfl ?_
        refine y_icmp_gt 285 dX12_risk_150 (by omega) (by omega) (fun h_150 => ?_) (fun h_150 => ?_)
        · refine x_lload dX12_risk_285 rfl ?_
          refine x_lstore dX12_risk_287 ?_
          refine x_lload dX12_risk_289 rfl ?_
          refine x_lstore dX12_risk_291 ?_
          obtain rfl : z = (coM (fr σ.v) (σ.v 0)) + 1 := by omega
          rw [rz_all hn.1]
          exact keyG (10 ^ frC σ.v) _ _ M1 none (Nat.le_refl _) rfl hr1 (by omega) hS1 hF1
        · exfalso; omega
      | succ k ih =>
        intro z M1 x11 x13 hk hS1 hA1 hF1
        refine x_iload dX12_risk_146 rfl ?_
        refine x_iload dX12_risk_148 rfl ?_
        refine y_icmp_gt 285 dX12_risk_150 (by omega) (by omega) (fun h_150 => ?_) (fun h_150 => ?_)
        · exfalso; omega
        · refine x_iload dX12_risk_153 rfl ?_
          refine x_iload dX12_risk_155 rfl ?_
          refine x_iconst (v := -1) dX12_risk_157 rfl ?_
          refine x_ixor dX12_risk_158 ?_
          refine x_iand dX12_risk_159 ?_
          rw [snd_and (show z < 512 by omega)]
          have hal : z &&& (511 ^^^ (coM (fr σ.v) (σ.v 0))) ≤ z := Nat.and_le_left
          refine y_if_ne 279 dX12_risk_160 (by omega) (fun h_160 => ?_) (fun h_160 => ?_)
          · refine y_iinc dX12_risk_279 rfl ?_
            refine x_goto 146 dX12_risk_282 ?_
            have hh := ih (z + 1) M1 x11 x13 (by omega) hS1 hA1 hF1
            rw [show sumN (rzF σ.v g n q) (z + 1) = sumN (rzF σ.v g n q) z + rzF σ.v g n q z from rfl, show rzF σ.v g n q z = 0 by unfold rzF; rw [if_neg (c := Sb _ _) (fun u => h_160 u)], Nat.add_zero] at hh
            exact hh
          · refine x_lconst (v := lN 1) dX12_risk_163 rfl ?_
            refine x_lstore dX12_risk_164 ?_
            refine y_iconst (a := 0) dX12_risk_166 rfl ?_
            refine x_istore dX12_risk_167 ?_
            have hsb : Sb z (coM (fr σ.v) (σ.v 0)) := h_160
            have hzf : ∀ r, z.testBit r = true → fr σ.v r = true := fun r hr => by
              have := (Sb_iff (show z < 512 by omega)).mp hsb r hr
              rw [coM_bit] at this
              simp only [decide_eq_true_eq] at this
              exact this.2
            have hIz := zrN_Iv hI hzf (σ.v 0) (Nat.le_refl _)
            have ez : ∀ j, j < 6 → zrN σ.v z (σ.v 0) j = σ.v j := fun j hj => by rw [zrN_at, if_neg (by omega)]
            exact inner z (by omega) (σ.v 0) 0 M1 M1 (Nat.zero_add _) hS1 FS.rf (by
              intro M2 x13 hS2 hF2
              refine x_lload dX12_risk_259 rfl ?_
              refine x_aload_n dX12_risk_261 rfl ?_
              refine x_iload_n dX12_risk_262 rfl ?_
              refine x_iload_n dX12_risk_263 rfl ?_
              refine q_X12_240 (m_isAboveBy hS2 hIz (hA1.keep hF2) (by rw [ez 2 (by omega)]; exact hg) (by omega) (by rw [ez 3 (by omega)]; omega)) dX12_risk_264 rfl ?_
              rintro _ M3 ⟨rfl, hS3, hF3⟩
              refine z_if_eq 275 dX12_risk_267 (fun h_267 => ?_) (fun h_267 => ?_)
              · refine x_lconst (v := lN 0) dX12_risk_275 rfl ?_
                refine y_ladd dX12_risk_276 ?_
                refine x_lstore dX12_risk_277 ?_
                refine y_iinc dX12_risk_279 rfl ?_
                refine x_goto 146 dX12_risk_282 ?_
                have hh := ih (z + 1) M3 (some (.long (lN (ptN (fr σ.v) q z (σ.v 0))))) (some (.int x13)) (by omega) hS3 ((hA1.keep hF2).keep hF3) ((hF1.s hF2).s hF3)
                rw [show sumN (rzF σ.v g n q) (z + 1) = sumN (rzF σ.v g n q) z + rzF σ.v g n q z from rfl] at hh
                rw [show rzF σ.v g n q z = (if abv (hrs (zrN σ.v z (σ.v 0)) n) g = true then ptN (fr σ.v) q z (σ.v 0) else 0) by unfold rzF; rw [if_pos hsb]] at hh
                first
                  | (rw [if_pos h_267] at hh; exact hh)
                  | (rw [if_neg (fun u => Bool.false_ne_true (h_267.symm.trans u))] at hh; exact hh)
              · refine x_lload dX12_risk_270 rfl ?_
                refine x_goto 276 dX12_risk_272 ?_
                refine y_ladd dX12_risk_276 ?_
                refine x_lstore dX12_risk_277 ?_
                refine y_iinc dX12_risk_279 rfl ?_
                refine x_goto 146 dX12_risk_282 ?_
                have hh := ih (z + 1) M3 (some (.long (lN (ptN (fr σ.v) q z (σ.v 0))))) (some (.int x13)) (by omega) hS3 ((hA1.keep hF2).keep hF3) ((hF1.s hF2).s hF3)
                rw [show sumN (rzF σ.v g n q) (z + 1) = sumN (rzF σ.v g n q) z + rzF σ.v g n q z from rfl] at hh
                rw [show rzF σ.v g n q z = (if abv (hrs (zrN σ.v z (σ.v 0)) n) g = true then ptN (fr σ.v) q z (σ.v 0) else 0) by unfold rzF; rw [if_pos hsb]] at hh
                first
                  | (rw [if_pos h_267] at hh; exact hh)
                  | (rw [if_neg (fun u => Bool.false_ne_true (h_267.symm.trans u))] at hh; exact hh))
    have key1 : ∀ (k r : Nat) (x9 : Option Value), r + k = σ.v 0 → X (mkG p l e R s m args below meth c Ω (fun ro M' => ro = some (.long (R_risk σ.v (nI g) (nI n) (nI q) w)) ∧ IM M' σ ∧ FrC M M')) Ω RX12 cX12_risk 16 11 (some .long) 57 [some (.ref (Ω.2.2 34)), some (.int (nI g)), some (.int (nI n)), some (.int (nI q)), some (.int w), some (.int (nI (coM (fr σ.v) r))), some (.long (lN (10 ^ cntN (fr σ.v) r))), none, some (.int (nI r)), x9, none, none, none, none, none, none] [] M00 := by
      intro k
      induction k with
      | zero =>
        intro r x9 hk
        refine x_iload dX12_risk_57 rfl ?_
        refine x_aload_n dX12_risk_59 rfl ?_
        refine g_X12_19 dX12_risk_60 ?_
        refine y_iconst (a := 0) dX12_risk_63 rfl ?_
        refine x_ial dX12_risk_64 (⟨by decide, rfl, rfl, by decide⟩ : Ar 38 45) (by omega) ?_
        rw [hS00.at (by omega)]
        refine y_icmp_ge 140 dX12_risk_65 (by omega) (by omega) (fun h_65 => ?_) (fun h_65 => ?_)
        · refine x_lconst (v := lN 0) dX12_risk_140 rfl ?_
          refine x_lstore dX12_risk_141 ?_
          refine y_iconst (a := 0) dX12_risk_143 rfl ?_
          refine x_istore dX12_risk_144 ?_
          obtain rfl : r = σ.v 0 := by omega
          exact key2 (coM (fr σ.v) (σ.v 0) + 1) 0 M00 none none (by omega) hS00 hA00 hF00
        · exfalso; omega
      | succ k ih =>
        intro r x9 hk
        refine x_iload dX12_risk_57 rfl ?_
        refine x_aload_n dX12_risk_59 rfl ?_
        refine g_X12_19 dX12_risk_60 ?_
        refine y_iconst (a := 0) dX12_risk_63 rfl ?_
        refine x_ial dX12_risk_64 (⟨by decide, rfl, rfl, by decide⟩ : Ar 38 45) (by omega) ?_
        rw [hS00.at (by omega)]
        refine y_icmp_ge 140 dX12_risk_65 (by omega) (by omega) (fun h_65 => ?_) (fun h_65 => ?_)
        · exfalso; omega
        · have hst := hw.2.2.2.2.2.2.1 r (by omega)
          have hwl := whoA_lt hw (r + 1)
          refine x_aload_n dX12_risk_68 rfl ?_
          refine g_X12_19 dX12_risk_69 ?_
          refine x_bipush (v := nI 6) dX12_risk_72 rfl ?_
          refine x_iload dX12_risk_74 rfl ?_
          refine y_iadd dX12_risk_76 ?_
          refine x_ial dX12_risk_77 (⟨by decide, rfl, rfl, by decide⟩ : Ar 38 45) (by omega) ?_
          rw [hS00.at (by omega)]
          refine y_if_le 96 dX12_risk_78 (by omega) (fun h_78 => ?_) (fun h_78 => ?_)
          · refine x_iconst (v := bI false) dX12_risk_96 rfl ?_
            refine x_istore dX12_risk_97 ?_
            refine x_iload dX12_risk_99 rfl ?_
            refine x_iload dX12_risk_101 rfl ?_
            refine z_if_eq 113 dX12_risk_103 (fun _ => ?_) (fun h => absurd h (by decide))
            refine y_iconst (a := 0) dX12_risk_113 rfl ?_
            refine y_ior dX12_risk_114 ?_
            refine x_istore dX12_risk_115 ?_
            refine x_lload dX12_risk_117 rfl ?_
            refine x_iload dX12_risk_119 rfl ?_
            refine z_if_eq 130 dX12_risk_121 (fun _ => ?_) (fun h => absurd h (by decide))
            refine x_lconst (v := lN 1) dX12_risk_130 rfl ?_
            refine y_lmul dX12_risk_131 ?_
            refine x_lstore dX12_risk_132 ?_
            refine y_iinc dX12_risk_134 rfl ?_
            refine x_goto 57 dX12_risk_137 ?_
            have hh := ih (r + 1) (some (.int (bI (fr σ.v r)))) (by omega)
            have ec : coM (fr σ.v) (r + 1) = coM (fr σ.v) r ||| (if fr σ.v r = true then 2 ^ r else 0) := rfl
            have en : cntN (fr σ.v) (r + 1) = if fr σ.v r = true then cntN (fr σ.v) r + 1 else cntN (fr σ.v) r := rfl
            rw [ec, en] at hh
            first
              | (have hfr : fr σ.v r = true := by simp [fr, h_89]; omega
                 rw [hfr, if_pos rfl, if_pos rfl, Nat.pow_succ] at hh
                 exact hh)
              | (have hfr : fr σ.v r = false := by simp [fr, h_78]
                 rw [hfr, if_neg Bool.false_ne_true, if_neg Bool.false_ne_true, Nat.or_zero] at hh
                 rw [Nat.or_zero, Nat.mul_one]
                 exact hh)
              | (have hfr : fr σ.v r = false := by simp [fr, h_89]
                 rw [hfr, if_neg Bool.false_ne_true, if_neg Bool.false_ne_true, Nat.or_zero] at hh
                 rw [Nat.or_zero, Nat.mul_one]
                 exact hh)
          · refine x_aload_n dX12_risk_81 rfl ?_
            refine x_iload dX12_risk_82 rfl ?_
            refine y_iconst (a := 1) dX12_risk_84 rfl ?_
            refine y_iadd dX12_risk_85 ?_
            refine q_X12_160 (m_whoOn hS00 hw (by omega)) dX12_risk_86 rfl ?_
            rintro _ _ ⟨rfl, rfl⟩
            refine y_if_ne 96 dX12_risk_89 (by omega) (fun h_89 => ?_) (fun h_89 => ?_)
            · refine x_iconst (v := bI false) dX12_risk_96 rfl ?_
              refine x_istore dX12_risk_97 ?_
              refine x_iload dX12_risk_99 rfl ?_
              refine x_iload dX12_risk_101 rfl ?_
              refine z_if_eq 113 dX12_risk_103 (fun _ => ?_) (fun h => absurd h (by decide))
              refine y_iconst (a := 0) dX12_risk_113 rfl ?_
              refine y_ior dX12_risk_114 ?_
              refine x_istore dX12_risk_115 ?_
              refine x_lload dX12_risk_117 rfl ?_
              refine x_iload dX12_risk_119 rfl ?_
              refine z_if_eq 130 dX12_risk_121 (fun _ => ?_) (fun h => absurd h (by decide))
              refine x_lconst (v := lN 1) dX12_risk_130 rfl ?_
              refine y_lmul dX12_risk_131 ?_
              refine x_lstore dX12_risk_132 ?_
              refine y_iinc dX12_risk_134 rfl ?_
              refine x_goto 57 dX12_risk_137 ?_
              have hh := ih (r + 1) (some (.int (bI (fr σ.v r)))) (by omega)
              have ec : coM (fr σ.v) (r + 1) = coM (fr σ.v) r ||| (if fr σ.v r = true then 2 ^ r else 0) := rfl
              have en : cntN (fr σ.v) (r + 1) = if fr σ.v r = true then cntN (fr σ.v) r + 1 else cntN (fr σ.v) r := rfl
              rw [ec, en] at hh
              first
                | (have hfr : fr σ.v r = true := by simp [fr, h_89]; omega
                   rw [hfr, if_pos rfl, if_pos rfl, Nat.pow_succ] at hh
                   exact hh)
                | (have hfr : fr σ.v r = false := by simp [fr, h_78]
                   rw [hfr, if_neg Bool.false_ne_true, if_neg Bool.false_ne_true, Nat.or_zero] at hh
                   rw [Nat.or_zero, Nat.mul_one]
                   exact hh)
                | (have hfr : fr σ.v r = false := by simp [fr, h_89]
                   rw [hfr, if_neg Bool.false_ne_true, if_neg Bool.false_ne_true, Nat.or_zero] at hh
                   rw [Nat.or_zero, Nat.mul_one]
                   exact hh)
            · refine x_iconst (v := bI true) dX12_risk_92 rfl ?_
              refine x_goto 97 dX12_risk_93 ?_
              refine x_istore dX12_risk_97 ?_
              refine x_iload dX12_risk_99 rfl ?_
              refine x_iload dX12_risk_101 rfl ?_
              refine z_if_eq 113 dX12_risk_103 (fun h => absurd h (by decide)) (fun _ => ?_)
              refine y_iconst (a := 1) dX12_risk_106 rfl ?_
              refine x_iload dX12_risk_107 rfl ?_
              refine y_ishl dX12_risk_109 (by omega) ?_
              try rw [Nat.one_mul]
              refine x_goto 114 dX12_risk_110 ?_
              refine y_ior dX12_risk_114 ?_
              refine x_istore dX12_risk_115 ?_
              refine x_lload dX12_risk_117 rfl ?_
              refine x_iload dX12_risk_119 rfl ?_
              refine z_if_eq 130 dX12_risk_121 (fun h => absurd h (by decide)) (fun _ => ?_)
              refine x_ldc2 (v := lN 10) dX12_risk_124 k_X12_260 ?_
              refine x_goto 131 dX12_risk_127 ?_
              refine y_lmul dX12_risk_131 ?_
              refine x_lstore dX12_risk_132 ?_
              refine y_iinc dX12_risk_134 rfl ?_
              refine x_goto 57 dX12_risk_137 ?_
              have hh := ih (r + 1) (some (.int (bI (fr σ.v r)))) (by omega)
              have ec : coM (fr σ.v) (r + 1) = coM (fr σ.v) r ||| (if fr σ.v r = true then 2 ^ r else 0) := rfl
              have en : cntN (fr σ.v) (r + 1) = if fr σ.v r = true then cntN (fr σ.v) r + 1 else cntN (fr σ.v) r := rfl
              rw [ec, en] at hh
              first
                | (have hfr : fr σ.v r = true := by simp [fr, h_89]; omega
                   rw [hfr, if_pos rfl, if_pos rfl, Nat.pow_succ] at hh
                   exact hh)
                | (have hfr : fr σ.v r = false := by simp [fr, h_78]
                   rw [hfr, if_neg Bool.false_ne_true, if_neg Bool.false_ne_true, Nat.or_zero] at hh
                   rw [Nat.or_zero, Nat.mul_one]
                   exact hh)
                | (have hfr : fr σ.v r = false := by simp [fr, h_89]
                   rw [hfr, if_neg Bool.false_ne_true, if_neg Bool.false_ne_true, Nat.or_zero] at hh
                   rw [Nat.or_zero, Nat.mul_one]
                   exact hh)
    exact key1 (σ.v 0) 0 none (Nat.zero_add _)
  refine x_aload_n dX12_risk_0 rfl ?_
  refine x_iload_n dX12_risk_1 rfl ?_
  refine q_X12_209 (m_isGoer hS (by omega)) dX12_risk_2 rfl ?_
  rintro _ _ ⟨rfl, rfl⟩
  refine z_if_eq 40 dX12_risk_5 (fun h_5 => ?_) (fun h_5 => ?_)
  · refine x_ldc2 (v := (-1000001)) dX12_risk_40 k_X12_262 ?_
    refine x_lret dX12_risk_43 ?_
    refine ⟨congrArg (fun z => some (Value.long z)) ?_, hM, FrC.rf⟩
    simp [R_risk, *]
  · obtain ⟨g, hg, rfl⟩ := inR_nI h_5 (by omega)
    obtain ⟨hI, h999⟩ := hLv.goer hg
    have tg := tN_nI (g := g) (by omega)
    have hgo := hw.goer hg
    refine x_iload_n dX12_risk_8 rfl ?_
    refine x_i2l dX12_risk_9 ?_
    refine x_lconst (v := lN 0) dX12_risk_10 rfl ?_
    refine x_ldc2 (v := lN 30) dX12_risk_11 k_X12_212 ?_
    refine q_X12_60 (m_inB (by decide) (by decide)) dX12_risk_14 rfl ?_
    rintro _ _ ⟨rfl, rfl⟩
    refine z_if_eq 40 dX12_risk_17 (fun h_17 => ?_) (fun h_17 => ?_)
    · refine x_ldc2 (v := (-1000001)) dX12_risk_40 k_X12_262 ?_
      refine x_lret dX12_risk_43 ?_
      refine ⟨congrArg (fun z => some (Value.long z)) ?_, hM, FrC.rf⟩
      simp [R_risk, *]
    · obtain ⟨n, n1, n2, rfl⟩ := inB_nI h_17 (by decide)
      have tn := tN_nI (g := n) (by omega)
      refine x_iload_n dX12_risk_20 rfl ?_
      refine x_i2l dX12_risk_21 ?_
      refine x_lconst (v := lN 0) dX12_risk_22 rfl ?_
      refine x_ldc2 (v := lN 10) dX12_risk_23 k_X12_260 ?_
      refine q_X12_60 (m_inB (by decide) (by decide)) dX12_risk_26 rfl ?_
      rintro _ _ ⟨rfl, rfl⟩
      refine z_if_eq 40 dX12_risk_29 (fun h_29 => ?_) (fun h_29 => ?_)
      · refine x_ldc2 (v := (-1000001)) dX12_risk_40 k_X12_262 ?_
        refine x_lret dX12_risk_43 ?_
        refine ⟨congrArg (fun z => some (Value.long z)) ?_, hM, FrC.rf⟩
        simp [R_risk, *]
      · obtain ⟨q, q1, q2, rfl⟩ := inB_nI h_29 (by decide)
        have tq := tN_nI (g := q) (by omega)
        refine x_iload dX12_risk_32 rfl ?_
        refine q_X12_231 (m_isWhat) dX12_risk_34 rfl ?_
        rintro _ _ ⟨rfl, rfl⟩
        refine z_if_ne 44 dX12_risk_37 (fun h_37 => ?_) (fun h_37 => ?_)
        · refine x_aload_n dX12_risk_44 rfl ?_
          refine q_X12_228 (m_putAside hS) dX12_risk_45 rfl ?_
          rintro _ M0 ⟨rfl, hA0, hF0⟩
          have hS0 := hS.fc hF0 (by decide)
          refine y_iconst (a := 0) dX12_risk_48 rfl ?_
          refine x_istore dX12_risk_49 ?_
          refine x_lconst (v := lN 1) dX12_risk_51 rfl ?_
          refine x_lstore dX12_risk_52 ?_
          refine y_iconst (a := 0) dX12_risk_54 rfl ?_
          refine x_istore dX12_risk_55 ?_
          exact big g n q hg n2 q2 h_17 h_29 h_37 _ hS0 hA0 (FQ.rf.c hF0 (by omega))
        · refine x_ldc2 (v := (-1000001)) dX12_risk_40 k_X12_262 ?_
          refine x_lret dX12_risk_43 ?_
          refine ⟨congrArg (fun z => some (Value.long z)) ?_, hM, FrC.rf⟩
          simp [R_risk, *]
