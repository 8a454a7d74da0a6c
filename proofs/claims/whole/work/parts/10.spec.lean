/-! A LAKE AS NUMBERS: v k, laid out by places: 0 rungs, 1 rope, 2 goers, 3 hour, 4 held, 5 who goes up, 6.. strengths, 15.. kinds, 21.. weights, 27.. starts, 33.. places, 39.. falls -/
def sv (v : Nat → Nat) (k x : Nat) : Nat → Nat := fun j => if j = k then x else v j
theorem sv_eq (v : Nat → Nat) (k x : Nat) : sv v k x k = x := by simp [sv]
theorem sv_ne (v : Nat → Nat) {j k : Nat} (x : Nat) (h : j ≠ k) : sv v k x j = v j := by simp [sv, h]
def sumN (f : Nat → Nat) : Nat → Nat
  | 0 => 0
  | n + 1 => sumN f n + f n
def orN (f : Nat → Nat) : Nat → Nat
  | 0 => 0
  | n + 1 => orN f n ||| f n
theorem sumN_congr {f g : Nat → Nat} : ∀ {n : Nat}, (∀ k, k < n → f k = g k) → sumN f n = sumN g n
  | 0, _ => rfl
  | n + 1, h => by simp only [sumN]; rw [sumN_congr (fun k hk => h k (by omega)), h n (by omega)]
theorem orN_congr {f g : Nat → Nat} : ∀ {n : Nat}, (∀ k, k < n → f k = g k) → orN f n = orN g n
  | 0, _ => rfl
  | n + 1, h => by simp only [orN]; rw [orN_congr (fun k hk => h k (by omega)), h n (by omega)]
theorem sumN_le {f : Nat → Nat} {B : Nat} : ∀ {n : Nat}, (∀ k, k < n → f k ≤ B) → sumN f n ≤ n * B
  | 0, _ => by simp [sumN]
  | n + 1, h => by
    have h1 := sumN_le (f := f) (B := B) (n := n) (fun k hk => h k (by omega))
    have h2 := h n (by omega)
    rw [Nat.succ_mul]
    simp only [sumN]
    omega
theorem orN_lt {f : Nat → Nat} {e : Nat} : ∀ {n : Nat}, (∀ k, k < n → f k < 2 ^ e) → orN f n < 2 ^ e
  | 0, _ => Nat.two_pow_pos e
  | n + 1, h => by
    have h1 := orN_lt (f := f) (e := e) (n := n) (fun k hk => h k (by omega))
    exact Nat.or_lt_two_pow h1 (h n (by omega))
/-- the load of a goer -/
def lo (v : Nat → Nat) (g : Nat) : Nat := if v (15 + g) = 5 then v (21 + g) / 2 else v (21 + g)
def brk (v : Nat → Nat) (p : Nat) : Bool := decide (1 ≤ p) && (decide (p ≤ v 0) && decide (v (5 + p) = 0))
def abv (v : Nat → Nat) (g : Nat) : Bool := decide (v 0 < v (33 + g))
def onr (v : Nat → Nat) (g : Nat) : Bool := !decide (v (33 + g) = 0) && decide (v (33 + g) ≤ v 0)
def hld (v : Nat → Nat) (g : Nat) : Bool := (v 4).testBit g
def upw (v : Nat → Nat) (g : Nat) : Bool := (v 5).testBit g
def whoA (v : Nat → Nat) (p : Nat) : Nat := orN (fun g => if v (33 + g) = p then 2 ^ g else 0) (v 2)
def loadA (v : Nat → Nat) (p : Nat) : Nat := sumN (fun g => if v (33 + g) = p then lo v g else 0) (v 2)
def loadR (v : Nat → Nat) : Nat := sumN (fun g => if onr v g = true then lo v g else 0) (v 2)
def fal (v : Nat → Nat) : Nat := sumN (fun g => v (39 + g)) (v 2)
def brkS (v : Nat → Nat) : Nat := orN (fun r => if v (6 + r) = 0 then 2 ^ r else 0) (v 0)
def upF (v : Nat → Nat) (p : Nat) : Option Nat := if v 0 < p then none else if brk v (p + 1) = true then (if brk v (p + 2) = true then none else some (p + 2)) else some (p + 1)
def dnF (v : Nat → Nat) (p : Nat) : Option Nat := if p = 0 then none else if brk v (p - 1) = true then (if brk v (p - 2) = true then none else some (p - 2)) else some (p - 1)
def oI (o : Option Nat) : Int32 := match o with
  | none => -1
  | some k => nI k
def hiN (v : Nat → Nat) : Nat → Nat
  | 0 => 0
  | p + 1 => if v (6 + p) = 0 then hiN v p else p + 1
def hiS (v : Nat → Nat) : Nat := hiN v (v 0)
def gapN (v : Nat → Nat) : Nat → Nat
  | 0 => 0
  | p + 1 => if v (6 + p) = 0 ∧ v (7 + p) = 0 then p + 1 else gapN v p
def gap (v : Nat → Nat) : Nat := gapN v (v 0 - 1)
/-- numbers that a lake's places keep to -/
def Wv (v : Nat → Nat) : Prop := v 0 ≤ 9 ∧ v 1 ≤ 99 ∧ v 2 ≤ 6 ∧ v 3 ≤ 5000 ∧ v 4 < 64 ∧ v 5 < 2 ^ v 2 ∧ (∀ r, r < v 0 → v (6 + r) ≤ 99) ∧ ∀ g, g < v 2 → 1 ≤ v (15 + g) ∧ v (15 + g) ≤ 5 ∧ v (21 + g) ≤ 30 ∧ v (27 + g) ≤ 5000 ∧ v (33 + g) ≤ v 0 + 1
/-- a lake's cells hold the numbers v -/
def LkR (M : Mem) (b : Nat) (v : Nat → Nat) : Prop := M.1 b 8 = nI (v 0) ∧ M.1 b 9 = nI (v 1) ∧ M.1 b 10 = nI (v 2) ∧ M.1 b 11 = nI (v 3) ∧ M.1 b 12 = nI (v 4) ∧ M.1 b 13 = nI ((2 ^ v 2 - 1) ^^^ v 5) ∧ (∀ p, 1 ≤ p → p ≤ v 0 → M.1 (b + 2) p = nI (v (5 + p))) ∧ ∀ g, g < v 2 → M.1 (b + 3) g = nI (v (15 + g)) ∧ M.1 (b + 4) g = nI (v (21 + g)) ∧ M.1 (b + 5) g = nI (v (27 + g)) ∧ M.1 (b + 6) g = nI (v (33 + g)) ∧ M.1 (b + 7) g = nI (v (39 + g))
section
variable {M : Mem} {b : Nat} {v : Nat → Nat}
theorem LkR.rungs (h : LkR M b v) : M.1 b 8 = nI (v 0) := h.1
theorem LkR.rope (h : LkR M b v) : M.1 b 9 = nI (v 1) := h.2.1
theorem LkR.goers (h : LkR M b v) : M.1 b 10 = nI (v 2) := h.2.2.1
theorem LkR.hour (h : LkR M b v) : M.1 b 11 = nI (v 3) := h.2.2.2.1
theorem LkR.held (h : LkR M b v) : M.1 b 12 = nI (v 4) := h.2.2.2.2.1
theorem LkR.down (h : LkR M b v) : M.1 b 13 = nI ((2 ^ v 2 - 1) ^^^ v 5) := h.2.2.2.2.2.1
theorem LkR.strength (h : LkR M b v) {p : Nat} (h1 : 1 ≤ p ∧ p ≤ v 0) : M.1 (b + 2) p = nI (v (5 + p)) := h.2.2.2.2.2.2.1 p h1.1 h1.2
theorem LkR.kind (h : LkR M b v) {g : Nat} (h1 : g < v 2) : M.1 (b + 3) g = nI (v (15 + g)) := (h.2.2.2.2.2.2.2 g h1).1
theorem LkR.weight (h : LkR M b v) {g : Nat} (h1 : g < v 2) : M.1 (b + 4) g = nI (v (21 + g)) := (h.2.2.2.2.2.2.2 g h1).2.1
theorem LkR.start (h : LkR M b v) {g : Nat} (h1 : g < v 2) : M.1 (b + 5) g = nI (v (27 + g)) := (h.2.2.2.2.2.2.2 g h1).2.2.1
theorem LkR.place (h : LkR M b v) {g : Nat} (h1 : g < v 2) : M.1 (b + 6) g = nI (v (33 + g)) := (h.2.2.2.2.2.2.2 g h1).2.2.2.1
theorem LkR.fell (h : LkR M b v) {g : Nat} (h1 : g < v 2) : M.1 (b + 7) g = nI (v (39 + g)) := (h.2.2.2.2.2.2.2 g h1).2.2.2.2
theorem Wv.goer (h : Wv v) {g : Nat} (hg : g < v 2) : 1 ≤ v (15 + g) ∧ v (15 + g) ≤ 5 ∧ v (21 + g) ≤ 30 ∧ v (27 + g) ≤ 5000 ∧ v (33 + g) ≤ v 0 + 1 := h.2.2.2.2.2.2.2 g hg
theorem Wv.str (h : Wv v) {p : Nat} (hp : 1 ≤ p ∧ p ≤ v 0) : v (5 + p) ≤ 99 := by
  have := h.2.2.2.2.2.2.1 (p - 1) (by omega)
  rwa [show 6 + (p - 1) = 5 + p by omega] at this
theorem Wv.nums (h : Wv v) : v 0 ≤ 9 ∧ v 1 ≤ 99 ∧ v 2 ≤ 6 ∧ v 3 ≤ 5000 ∧ v 4 < 64 := ⟨h.1, h.2.1, h.2.2.1, h.2.2.2.1, h.2.2.2.2.1⟩
theorem Wv.up (h : Wv v) : v 5 < 2 ^ v 2 := h.2.2.2.2.2.1
theorem pow6 {n : Nat} (h : n ≤ 6) : 2 ^ n ≤ 64 := Nat.pow_le_pow_right (by decide) h (n := 2)
theorem Wv.up64 (h : Wv v) : v 5 < 64 := Nat.lt_of_lt_of_le h.up (pow6 h.nums.2.2.1)
theorem Wv.dn64 (h : Wv v) : (2 ^ v 2 - 1) ^^^ v 5 < 64 := by
  have h1 := pow6 h.nums.2.2.1
  exact Nat.xor_lt_two_pow (n := 6) (by have := Nat.two_pow_pos (v 2); omega) h.up64
theorem lo_le (h : Wv v) {g : Nat} (hg : g < v 2) : lo v g ≤ 30 := by
  have := h.goer hg
  unfold lo; split <;> omega
theorem loadA_le (h : Wv v) (p : Nat) : loadA v p ≤ 180 := by
  have h1 : loadA v p ≤ v 2 * 30 := sumN_le (fun k hk => by have := lo_le h hk; split <;> omega)
  have := h.nums
  omega
theorem loadR_le (h : Wv v) : loadR v ≤ 180 := by
  have h1 : loadR v ≤ v 2 * 30 := sumN_le (fun k hk => by have := lo_le h hk; split <;> omega)
  have := h.nums
  omega
theorem bit_lt {g n : Nat} (h : g < n) : 2 ^ g < 2 ^ n := Nat.pow_lt_pow_right (by decide) h
theorem whoA_lt (h : Wv v) (p : Nat) : whoA v p < 64 := by
  have := h.nums
  exact orN_lt (e := 6) (fun k hk => by have := bit_lt (g := k) (n := 6) (by omega); split <;> omega)
theorem brkS_lt (h : Wv v) : brkS v < 512 := by
  have := h.nums
  exact orN_lt (e := 9) (fun k hk => by have := bit_lt (g := k) (n := 9) (by omega); split <;> omega)
theorem and1 (a g : Nat) : (a / 2 ^ g) &&& 1 = if a.testBit g = true then 1 else 0 := by
  rw [Nat.and_one_is_mod, Nat.testBit_eq_decide_div_mod_eq]
  have : a / 2 ^ g % 2 < 2 := Nat.mod_lt _ (by decide)
  split <;> simp_all <;> omega
theorem dn_bit (h : Wv v) {g : Nat} (hg : g < v 2) : ((2 ^ v 2 - 1) ^^^ v 5).testBit g = !upw v g := by
  rw [Nat.testBit_xor, Nat.testBit_two_pow_sub_one]
  simp [hg, upw]
end
