/-! LAKE, what changes: the numbers behind it -/
/-- nothing but the lake b has changed -/
def Fr (b : Nat) (M M' : Mem) : Prop := M'.2 = M.2 ∧ ∀ c, ¬ (b ≤ c ∧ c < b + 8) → M'.1 c = M.1 c
theorem Fr.rf {b : Nat} {M : Mem} : Fr b M M := ⟨rfl, fun _ _ => rfl⟩
theorem Fr.tr {b : Nat} {M M1 M2 : Mem} (h : Fr b M M1) (h2 : Fr b M1 M2) : Fr b M M2 := ⟨h2.1.trans h.1, fun c hc => (h2.2 c hc).trans (h.2 c hc)⟩
theorem Fr.up {b : Nat} {M M1 : Mem} (h : Fr b M M1) {c k : Nat} {x : Int32} (hc : b ≤ c ∧ c < b + 8) : Fr b M (up1 M1 c k x) := ⟨h.1, fun d hd => by rw [up1_ne M1 k x (by omega)]; exact h.2 d hd⟩
theorem Fr.upR {b : Nat} {M M1 : Mem} (h : Fr b M M1) {c : Nat} {f : Nat → Int32} (hc : b ≤ c ∧ c < b + 8) : Fr b M (upR M1 c f) := ⟨h.1, fun d hd => by rw [upR_ne M1 f (by omega)]; exact h.2 d hd⟩
theorem up1_at (M : Mem) (c k : Nat) (x : Int32) (d j : Nat) : (up1 M c k x).1 d j = if d = c ∧ j = k then x else M.1 d j := by
  unfold up1
  by_cases h : d = c
  · subst h; by_cases h2 : j = k <;> simp [h2]
  · simp [h]
/-- a lake stays when another's cells change -/
theorem LkR.keep {M M' : Mem} {a b : Nat} {v : Nat → Nat} (h : LkR M a v) (hF : Fr b M M') (ha : Lk a) (hb : Lk b) (hab : a ≠ b) : LkR M' a v := by
  obtain ⟨a1, a2, a3⟩ := ha
  obtain ⟨b1, b2, b3⟩ := hb
  have e : ∀ k, k < 8 → M'.1 (a + k) = M.1 (a + k) := fun k hk => hF.2 _ (by omega)
  have e0 := e 0 (by decide); have e2 := e 2 (by decide); have e3 := e 3 (by decide); have e4 := e 4 (by decide); have e5 := e 5 (by decide); have e6 := e 6 (by decide); have e7 := e 7 (by decide)
  rw [Nat.add_zero] at e0
  unfold LkR
  rw [e0, e2, e3, e4, e5, e6, e7]
  exact h
theorem LkR.congr {M : Mem} {b : Nat} {v w : Nat → Nat} (h : LkR M b v) (h0 : w 0 = v 0) (h1 : w 1 = v 1) (h2 : w 2 = v 2) (h3 : w 3 = v 3) (h4 : w 4 = v 4) (h5 : w 5 = v 5) (hs : ∀ r, r < v 0 → w (6 + r) = v (6 + r)) (hg : ∀ g, g < v 2 → w (15 + g) = v (15 + g) ∧ w (21 + g) = v (21 + g) ∧ w (27 + g) = v (27 + g) ∧ w (33 + g) = v (33 + g) ∧ w (39 + g) = v (39 + g)) : LkR M b w := by
  obtain ⟨q0, q1, q2, q3, q4, q5, q6, q7⟩ := h
  refine ⟨by rw [h0]; exact q0, by rw [h1]; exact q1, by rw [h2]; exact q2, by rw [h3]; exact q3, by rw [h4]; exact q4, by rw [h2, h5]; exact q5, fun p hp hp2 => ?_, fun g hg2 => ?_⟩
  · rw [h0] at hp2
    have := hs (p - 1) (by omega)
    rw [show 6 + (p - 1) = 5 + p by omega] at this
    rw [this]; exact q6 p hp hp2
  · rw [h2] at hg2
    obtain ⟨z1, z2, z3, z4, z5⟩ := hg g hg2
    rw [z1, z2, z3, z4, z5]; exact q7 g hg2
section
variable {M : Mem} {b : Nat} {v : Nat → Nat}
theorem LkR.setKind (h : LkR M b v) (hw : Wv v) {g y : Nat} (hg : g < v 2) : LkR (up1 M (b + 3) g (nI y)) b (sv v (15 + g) y) := by
  have hn := hw.nums
  obtain ⟨q0, q1, q2, q3, q4, q5, q6, q7⟩ := h
  have s0 : sv v (15 + g) y 0 = v 0 := sv_ne _ _ (by omega)
  have s2 : sv v (15 + g) y 2 = v 2 := sv_ne _ _ (by omega)
  refine ⟨by rw [up1_at, if_neg (by omega), s0]; exact q0, by rw [up1_at, if_neg (by omega), sv_ne _ _ (by omega)]; exact q1, by rw [up1_at, if_neg (by omega), s2]; exact q2, by rw [up1_at, if_neg (by omega), sv_ne _ _ (by omega)]; exact q3, by rw [up1_at, if_neg (by omega), sv_ne _ _ (by omega)]; exact q4, by rw [up1_at, if_neg (by omega), s2, sv_ne _ _ (by omega)]; exact q5, fun p hp hp2 => ?_, fun k hk => ?_⟩
  · rw [s0] at hp2
    rw [up1_at, if_neg (by omega), sv_ne _ _ (by omega)]; exact q6 p hp hp2
  · rw [s2] at hk
    obtain ⟨z1, z2, z3, z4, z5⟩ := q7 k hk
    refine ⟨?_, by rw [up1_at, if_neg (by omega), sv_ne _ _ (by omega)]; exact z2, by rw [up1_at, if_neg (by omega), sv_ne _ _ (by omega)]; exact z3, by rw [up1_at, if_neg (by omega), sv_ne _ _ (by omega)]; exact z4, by rw [up1_at, if_neg (by omega), sv_ne _ _ (by omega)]; exact z5⟩
    by_cases e : k = g
    · subst e; rw [up1_at, if_pos ⟨rfl, rfl⟩, sv_eq]
    · rw [up1_at, if_neg (by omega), sv_ne _ _ (by omega)]; exact z1
theorem LkR.setWeight (h : LkR M b v) (hw : Wv v) {g y : Nat} (hg : g < v 2) : LkR (up1 M (b + 4) g (nI y)) b (sv v (21 + g) y) := by
  have hn := hw.nums
  obtain ⟨q0, q1, q2, q3, q4, q5, q6, q7⟩ := h
  have s0 : sv v (21 + g) y 0 = v 0 := sv_ne _ _ (by omega)
  have s2 : sv v (21 + g) y 2 = v 2 := sv_ne _ _ (by omega)
  refine ⟨by rw [up1_at, if_neg (by omega), s0]; exact q0, by rw [up1_at, if_neg (by omega), sv_ne _ _ (by omega)]; exact q1, by rw [up1_at, if_neg (by omega), s2]; exact q2, by rw [up1_at, if_neg (by omega), sv_ne _ _ (by omega)]; exact q3, by rw [up1_at, if_neg (by omega), sv_ne _ _ (by omega)]; exact q4, by rw [up1_at, if_neg (by omega), s2, sv_ne _ _ (by omega)]; exact q5, fun p hp hp2 => ?_, fun k hk => ?_⟩
  · rw [s0] at hp2
    rw [up1_at, if_neg (by omega), sv_ne _ _ (by omega)]; exact q6 p hp hp2
  · rw [s2] at hk
    obtain ⟨z1, z2, z3, z4, z5⟩ := q7 k hk
    refine ⟨by rw [up1_at, if_neg (by omega), sv_ne _ _ (by omega)]; exact z1, ?_, by rw [up1_at, if_neg (by omega), sv_ne _ _ (by omega)]; exact z3, by rw [up1_at, if_neg (by omega), sv_ne _ _ (by omega)]; exact z4, by rw [up1_at, if_neg (by omega), sv_ne _ _ (by omega)]; exact z5⟩
    by_cases e : k = g
    · subst e; rw [up1_at, if_pos ⟨rfl, rfl⟩, sv_eq]
    · rw [up1_at, if_neg (by omega), sv_ne _ _ (by omega)]; exact z2
theorem LkR.setStart (h : LkR M b v) (hw : Wv v) {g y : Nat} (hg : g < v 2) : LkR (up1 M (b + 5) g (nI y)) b (sv v (27 + g) y) := by
  have hn := hw.nums
  obtain ⟨q0, q1, q2, q3, q4, q5, q6, q7⟩ := h
  have s0 : sv v (27 + g) y 0 = v 0 := sv_ne _ _ (by omega)
  have s2 : sv v (27 + g) y 2 = v 2 := sv_ne _ _ (by omega)
  refine ⟨by rw [up1_at, if_neg (by omega), s0]; exact q0, by rw [up1_at, if_neg (by omega), sv_ne _ _ (by omega)]; exact q1, by rw [up1_at, if_neg (by omega), s2]; exact q2, by rw [up1_at, if_neg (by omega), sv_ne _ _ (by omega)]; exact q3, by rw [up1_at, if_neg (by omega), sv_ne _ _ (by omega)]; exact q4, by rw [up1_at, if_neg (by omega), s2, sv_ne _ _ (by omega)]; exact q5, fun p hp hp2 => ?_, fun k hk => ?_⟩
  · rw [s0] at hp2
    rw [up1_at, if_neg (by omega), sv_ne _ _ (by omega)]; exact q6 p hp hp2
  · rw [s2] at hk
    obtain ⟨z1, z2, z3, z4, z5⟩ := q7 k hk
    refine ⟨by rw [up1_at, if_neg (by omega), sv_ne _ _ (by omega)]; exact z1, by rw [up1_at, if_neg (by omega), sv_ne _ _ (by omega)]; exact z2, ?_, by rw [up1_at, if_neg (by omega), sv_ne _ _ (by omega)]; exact z4, by rw [up1_at, if_neg (by omega), sv_ne _ _ (by omega)]; exact z5⟩
    by_cases e : k = g
    · subst e; rw [up1_at, if_pos ⟨rfl, rfl⟩, sv_eq]
    · rw [up1_at, if_neg (by omega), sv_ne _ _ (by omega)]; exact z3
theorem LkR.setPlace (h : LkR M b v) (hw : Wv v) {g y : Nat} (hg : g < v 2) : LkR (up1 M (b + 6) g (nI y)) b (sv v (33 + g) y) := by
  have hn := hw.nums
  obtain ⟨q0, q1, q2, q3, q4, q5, q6, q7⟩ := h
  have s0 : sv v (33 + g) y 0 = v 0 := sv_ne _ _ (by omega)
  have s2 : sv v (33 + g) y 2 = v 2 := sv_ne _ _ (by omega)
  refine ⟨by rw [up1_at, if_neg (by omega), s0]; exact q0, by rw [up1_at, if_neg (by omega), sv_ne _ _ (by omega)]; exact q1, by rw [up1_at, if_neg (by omega), s2]; exact q2, by rw [up1_at, if_neg (by omega), sv_ne _ _ (by omega)]; exact q3, by rw [up1_at, if_neg (by omega), sv_ne _ _ (by omega)]; exact q4, by rw [up1_at, if_neg (by omega), s2, sv_ne _ _ (by omega)]; exact q5, fun p hp hp2 => ?_, fun k hk => ?_⟩
  · rw [s0] at hp2
    rw [up1_at, if_neg (by omega), sv_ne _ _ (by omega)]; exact q6 p hp hp2
  · rw [s2] at hk
    obtain ⟨z1, z2, z3, z4, z5⟩ := q7 k hk
    refine ⟨by rw [up1_at, if_neg (by omega), sv_ne _ _ (by omega)]; exact z1, by rw [up1_at, if_neg (by omega), sv_ne _ _ (by omega)]; exact z2, by rw [up1_at, if_neg (by omega), sv_ne _ _ (by omega)]; exact z3, ?_, by rw [up1_at, if_neg (by omega), sv_ne _ _ (by omega)]; exact z5⟩
    by_cases e : k = g
    · subst e; rw [up1_at, if_pos ⟨rfl, rfl⟩, sv_eq]
    · rw [up1_at, if_neg (by omega), sv_ne _ _ (by omega)]; exact z4
theorem LkR.setFell (h : LkR M b v) (hw : Wv v) {g y : Nat} (hg : g < v 2) : LkR (up1 M (b + 7) g (nI y)) b (sv v (39 + g) y) := by
  have hn := hw.nums
  obtain ⟨q0, q1, q2, q3, q4, q5, q6, q7⟩ := h
  have s0 : sv v (39 + g) y 0 = v 0 := sv_ne _ _ (by omega)
  have s2 : sv v (39 + g) y 2 = v 2 := sv_ne _ _ (by omega)
  refine ⟨by rw [up1_at, if_neg (by omega), s0]; exact q0, by rw [up1_at, if_neg (by omega), sv_ne _ _ (by omega)]; exact q1, by rw [up1_at, if_neg (by omega), s2]; exact q2, by rw [up1_at, if_neg (by omega), sv_ne _ _ (by omega)]; exact q3, by rw [up1_at, if_neg (by omega), sv_ne _ _ (by omega)]; exact q4, by rw [up1_at, if_neg (by omega), s2, sv_ne _ _ (by omega)]; exact q5, fun p hp hp2 => ?_, fun k hk => ?_⟩
  · rw [s0] at hp2
    rw [up1_at, if_neg (by omega), sv_ne _ _ (by omega)]; exact q6 p hp hp2
  · rw [s2] at hk
    obtain ⟨z1, z2, z3, z4, z5⟩ := q7 k hk
    refine ⟨by rw [up1_at, if_neg (by omega), sv_ne _ _ (by omega)]; exact z1, by rw [up1_at, if_neg (by omega), sv_ne _ _ (by omega)]; exact z2, by rw [up1_at, if_neg (by omega), sv_ne _ _ (by omega)]; exact z3, by rw [up1_at, if_neg (by omega), sv_ne _ _ (by omega)]; exact z4, ?_⟩
    by_cases e : k = g
    · subst e; rw [up1_at, if_pos ⟨rfl, rfl⟩, sv_eq]
    · rw [up1_at, if_neg (by omega), sv_ne _ _ (by omega)]; exact z5
theorem LkR.setStrength (h : LkR M b v) (hw : Wv v) {p y : Nat} (hg : 1 ≤ p ∧ p ≤ v 0) : LkR (up1 M (b + 2) p (nI y)) b (sv v (5 + p) y) := by
  have hn := hw.nums
  obtain ⟨q0, q1, q2, q3, q4, q5, q6, q7⟩ := h
  have s0 : sv v (5 + p) y 0 = v 0 := sv_ne _ _ (by omega)
  have s2 : sv v (5 + p) y 2 = v 2 := sv_ne _ _ (by omega)
  refine ⟨by rw [up1_at, if_neg (by omega), s0]; exact q0, by rw [up1_at, if_neg (by omega), sv_ne _ _ (by omega)]; exact q1, by rw [up1_at, if_neg (by omega), s2]; exact q2, by rw [up1_at, if_neg (by omega), sv_ne _ _ (by omega)]; exact q3, by rw [up1_at, if_neg (by omega), sv_ne _ _ (by omega)]; exact q4, by rw [up1_at, if_neg (by omega), s2, sv_ne _ _ (by omega)]; exact q5, fun q hq hq2 => ?_, fun k hk => ?_⟩
  · rw [s0] at hq2
    by_cases e : q = p
    · subst e; rw [up1_at, if_pos ⟨rfl, rfl⟩, sv_eq]
    · rw [up1_at, if_neg (by omega), sv_ne _ _ (by omega)]; exact q6 q hq hq2
  · rw [s2] at hk
    obtain ⟨z1, z2, z3, z4, z5⟩ := q7 k hk
    refine ⟨by rw [up1_at, if_neg (by omega), sv_ne _ _ (by omega)]; exact z1, by rw [up1_at, if_neg (by omega), sv_ne _ _ (by omega)]; exact z2, by rw [up1_at, if_neg (by omega), sv_ne _ _ (by omega)]; exact z3, by rw [up1_at, if_neg (by omega), sv_ne _ _ (by omega)]; exact z4, by rw [up1_at, if_neg (by omega), sv_ne _ _ (by omega)]; exact z5⟩
theorem LkR.setLoads (h : LkR M b v) (k : Nat) (x : Int32) : LkR (up1 M (b + 1) k x) b v := by
  obtain ⟨q0, q1, q2, q3, q4, q5, q6, q7⟩ := h
  have e : ∀ c, c ≠ b + 1 → (up1 M (b + 1) k x).1 c = M.1 c := fun c hc => up1_ne M k x hc
  unfold LkR
  rw [e b (by omega), e (b + 2) (by omega), e (b + 3) (by omega), e (b + 4) (by omega), e (b + 5) (by omega), e (b + 6) (by omega), e (b + 7) (by omega)]
  exact ⟨q0, q1, q2, q3, q4, q5, q6, q7⟩
theorem LkR.setHour (h : LkR M b v) {y : Nat} : LkR (up1 M b 11 (nI y)) b (sv v 3 y) := by
  obtain ⟨q0, q1, q2, q3, q4, q5, q6, q7⟩ := h
  have e : ∀ c, c ≠ b → (up1 M b 11 (nI y)).1 c = M.1 c := fun c hc => up1_ne M _ _ hc
  unfold LkR
  rw [e (b + 2) (by omega), e (b + 3) (by omega), e (b + 4) (by omega), e (b + 5) (by omega), e (b + 6) (by omega), e (b + 7) (by omega)]
  have hs : ∀ j, j ≠ 3 → sv v 3 y j = v j := fun j hj => sv_ne _ _ hj
  have hz : sv v 3 y 3 = y := sv_eq _ _ _
  simp only [up1_at, hs 0 (by decide), hs 1 (by decide), hs 2 (by decide), hs 4 (by decide), hz, hs 5 (by decide)]
  refine ⟨by simpa using q0, by simpa using q1, by simpa using q2, by simp, by simpa using q4, by simpa using q5, fun p hp hp2 => ?_, fun k hk => ?_⟩
  · rw [hs _ (by omega)]; exact q6 p hp hp2
  · rw [hs _ (by omega), hs _ (by omega), hs _ (by omega), hs _ (by omega), hs _ (by omega)]; exact q7 k hk
theorem LkR.setHeld (h : LkR M b v) {y : Nat} : LkR (up1 M b 12 (nI y)) b (sv v 4 y) := by
  obtain ⟨q0, q1, q2, q3, q4, q5, q6, q7⟩ := h
  have e : ∀ c, c ≠ b → (up1 M b 12 (nI y)).1 c = M.1 c := fun c hc => up1_ne M _ _ hc
  unfold LkR
  rw [e (b + 2) (by omega), e (b + 3) (by omega), e (b + 4) (by omega), e (b + 5) (by omega), e (b + 6) (by omega), e (b + 7) (by omega)]
  have hs : ∀ j, j ≠ 4 → sv v 4 y j = v j := fun j hj => sv_ne _ _ hj
  have hz : sv v 4 y 4 = y := sv_eq _ _ _
  simp only [up1_at, hs 0 (by decide), hs 1 (by decide), hs 2 (by decide), hs 3 (by decide), hz, hs 5 (by decide)]
  refine ⟨by simpa using q0, by simpa using q1, by simpa using q2, by simpa using q3, by simp, by simpa using q5, fun p hp hp2 => ?_, fun k hk => ?_⟩
  · rw [hs _ (by omega)]; exact q6 p hp hp2
  · rw [hs _ (by omega), hs _ (by omega), hs _ (by omega), hs _ (by omega), hs _ (by omega)]; exact q7 k hk
theorem LkR.setDown (h : LkR M b v) {u : Nat} : LkR (up1 M b 13 (nI ((2 ^ v 2 - 1) ^^^ u))) b (sv v 5 u) := by
  obtain ⟨q0, q1, q2, q3, q4, q5, q6, q7⟩ := h
  have e : ∀ c, c ≠ b → (up1 M b 13 (nI ((2 ^ v 2 - 1) ^^^ u))).1 c = M.1 c := fun c hc => up1_ne M _ _ hc
  unfold LkR
  rw [e (b + 2) (by omega), e (b + 3) (by omega), e (b + 4) (by omega), e (b + 5) (by omega), e (b + 6) (by omega), e (b + 7) (by omega)]
  have hs : ∀ j, j ≠ 5 → sv v 5 u j = v j := fun j hj => sv_ne _ _ hj
  have hz : sv v 5 u 5 = u := sv_eq _ _ _
  simp only [up1_at, hs 0 (by decide), hs 1 (by decide), hs 2 (by decide), hs 3 (by decide), hs 4 (by decide), hz]
  refine ⟨by simpa using q0, by simpa using q1, by simpa using q2, by simpa using q3, by simpa using q4, by simp, fun p hp hp2 => ?_, fun k hk => ?_⟩
  · rw [hs _ (by omega)]; exact q6 p hp hp2
  · rw [hs _ (by omega), hs _ (by omega), hs _ (by omega), hs _ (by omega), hs _ (by omega)]; exact q7 k hk
end
/-! the steps -/
def clr (u g : Nat) : Nat := u &&& (63 ^^^ 2 ^ g)
def suP (v : Nat → Nat) (g : Nat) : Option Nat := match upF v (v (33 + g)) with
  | none => none
  | some q => if v (33 + g) = 0 ∧ v 1 < loadR v + lo v g then none else some q
def suV (v : Nat → Nat) (g : Nat) : Nat → Nat := match suP v g with
  | none => v
  | some q => sv v (33 + g) q
def sdV (v : Nat → Nat) (g : Nat) : Nat → Nat := match dnF v (v (33 + g)) with
  | none => v
  | some q => if q = 0 then sv (sv v (33 + g) 0) 5 (v 5 ||| 2 ^ g) else sv v (33 + g) q
def tiV (v : Nat → Nat) (g : Nat) : Nat → Nat := if ¬ v (33 + g) = 0 ∧ (v (33 + g) = hiS v ∨ upF v (v (33 + g)) = none) then sv v 5 (clr (v 5) g) else v
def mvV (v : Nat → Nat) (g : Nat) : Nat → Nat :=
  if v (15 + g) = 1 then suV v g
  else if v (15 + g) = 2 then (if (suP v g).isSome = true then suV (suV v g) g else v)
  else if v (15 + g) = 3 then (if v 3 % 2 = 0 then suV v g else v)
  else (if upw (tiV v g) g = true then suV (tiV v g) g else sdV (tiV v g) g)
def mvN (v : Nat → Nat) : Nat → Nat → Nat
  | 0 => v
  | k + 1 => if abv (mvN v k) k = true ∨ hld (mvN v k) k = true ∨ (mvN v k) 3 < (mvN v k) (27 + k) then mvN v k else mvV (mvN v k) k
/-- a rung breaks: the first k goers have been looked at -/
def bkN (v : Nat → Nat) (p : Nat) : Nat → Nat → Nat
  | 0 => sv v (5 + p) 0
  | k + 1 => if bkN v p k (33 + k) = p then sv (sv (bkN v p k) (33 + k) 0) (39 + k) (bkN v p k (39 + k) + 1) else bkN v p k
def bkV (v : Nat → Nat) (p : Nat) : Nat → Nat := sv (bkN v p (v 2)) 5 (v 5 ||| whoA v p)
def wr1 (v : Nat → Nat) (p : Nat) : Nat → Nat := if v (5 + p) < loadA v p then bkV v p else if loadA v p = 0 then v else if v (5 + p) = 1 then bkV (sv v (5 + p) 0) p else sv v (5 + p) (v (5 + p) - 1)
/-- the rungs 1 to n wear -/
def wrN (v : Nat → Nat) : Nat → Nat → Nat
  | 0 => v
  | n + 1 => wr1 (wrN v n) (n + 1)
def hrV (v : Nat → Nat) : Nat → Nat := sv (wrN (mvN v (v 2)) (v 0)) 3 (v 3 + 1)
