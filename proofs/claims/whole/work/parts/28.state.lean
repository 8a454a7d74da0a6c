/-! THE STATE of a lake's object, for both sides: lanes, sizes, items of the rows; the finding; the tape; the fault; the lake; the acts (the oldest first); the images; the trace -/
abbrev Sg : Type := (Nat → Int32) × (Nat → Int32) × (Nat → Nat → Int32) × Int32 × Nat × (Nat → Nat) × Int32 × (Nat → Nat) × Nat × (Nat → Nat → Nat) × (Nat → Option (Nat → Nat)) × Nat × (Nat → Int32)
def Sg.ln (σ : Sg) : Nat → Int32 := σ.1
def Sg.sz (σ : Sg) : Nat → Int32 := σ.2.1
def Sg.it (σ : Sg) : Nat → Nat → Int32 := σ.2.2.1
def Sg.st (σ : Sg) : Int32 := σ.2.2.2.1
def Sg.tn (σ : Sg) : Nat := σ.2.2.2.2.1
def Sg.tb (σ : Sg) : Nat → Nat := σ.2.2.2.2.2.1
def Sg.fl (σ : Sg) : Int32 := σ.2.2.2.2.2.2.1
def Sg.v (σ : Sg) : Nat → Nat := σ.2.2.2.2.2.2.2.1
def Sg.am (σ : Sg) : Nat := σ.2.2.2.2.2.2.2.2.1
def Sg.ah (σ : Sg) : Nat → Nat → Nat := σ.2.2.2.2.2.2.2.2.2.1
def Sg.im (σ : Sg) : Nat → Option (Nat → Nat) := σ.2.2.2.2.2.2.2.2.2.2.1
def Sg.rn (σ : Sg) : Nat := σ.2.2.2.2.2.2.2.2.2.2.2.1
def Sg.rt (σ : Sg) : Nat → Int32 := σ.2.2.2.2.2.2.2.2.2.2.2.2
def mkS (a : Nat → Int32) (b : Nat → Int32) (c : Nat → Nat → Int32) (d : Int32) (e : Nat) (f : Nat → Nat) (g : Int32) (h : Nat → Nat) (i : Nat) (j : Nat → Nat → Nat) (k : Nat → Option (Nat → Nat)) (l : Nat) (m : Nat → Int32) : Sg := (a, b, c, d, e, f, g, h, i, j, k, l, m)
def Sg.uRow (σ : Sg) (a b : Nat → Int32) (c : Nat → Nat → Int32) (d : Int32) : Sg := mkS a b c d σ.tn σ.tb σ.fl σ.v σ.am σ.ah σ.im σ.rn σ.rt
def Sg.uSt (σ : Sg) (d : Int32) : Sg := σ.uRow σ.ln σ.sz σ.it d
def Sg.uTape (σ : Sg) (e : Nat) (f : Nat → Nat) : Sg := mkS σ.ln σ.sz σ.it σ.st e f σ.fl σ.v σ.am σ.ah σ.im σ.rn σ.rt
def Sg.uFl (σ : Sg) (g : Int32) : Sg := mkS σ.ln σ.sz σ.it σ.st σ.tn σ.tb g σ.v σ.am σ.ah σ.im σ.rn σ.rt
def Sg.uLake (σ : Sg) (h : Nat → Nat) (i : Nat) (j : Nat → Nat → Nat) : Sg := mkS σ.ln σ.sz σ.it σ.st σ.tn σ.tb σ.fl h i j σ.im σ.rn σ.rt
def Sg.uIm (σ : Sg) (k : Nat → Option (Nat → Nat)) : Sg := mkS σ.ln σ.sz σ.it σ.st σ.tn σ.tb σ.fl σ.v σ.am σ.ah k σ.rn σ.rt
def Sg.uTr (σ : Sg) (l : Nat) (m : Nat → Int32) : Sg := mkS σ.ln σ.sz σ.it σ.st σ.tn σ.tb σ.fl σ.v σ.am σ.ah σ.im l m
/-- a lake that is there, or none (all zero) -/
def Lv (v : Nat → Nat) : Prop := (Iv v ∧ v 3 ≤ 999) ∨ ∀ j, j < 45 → v j = 0
def RowsC (M : Mem) (σ : Sg) : Prop := ∀ r, r < 8 → M.1 (18 + 2 * r) 1 = σ.ln r ∧ M.1 (18 + 2 * r) 2 = σ.sz r ∧ ∀ j, j < 40 → M.1 (19 + 2 * r) j = σ.it r j
/-- what the rows keep to -/
def RowsW (σ : Sg) : Prop := ∀ r, r < 8 → (σ.ln r = nI 0 ∨ σ.ln r = nI 1 ∨ σ.ln r = nI 2) ∧ (σ.sz r = -1 ∨ ∃ k, k ≤ 40 ∧ σ.sz r = nI k)
def TapeC (M : Mem) (σ : Sg) : Prop := M.1 2 1 = nI σ.tn ∧ ∀ j, j < σ.tn → M.1 3 j = nI (σ.tb j)
def TapeW (σ : Sg) : Prop := σ.tn ≤ 100 ∧ ∀ j, j < σ.tn → σ.tb j < 256
def ActsC (M : Mem) (σ : Sg) : Prop := ∃ o, o < 24 ∧ M.1 0 8 = nI o ∧ M.1 0 9 = nI σ.am ∧ ∀ i, i < σ.am → LkR M (81 + 8 * ((o + i) % 24)) (σ.ah i)
def ImgC (M : Mem) (σ : Sg) : Prop := ∃ k, k < 4 ∧ M.1 0 10 = nI k ∧ ∀ i, i < 2 → (k.testBit i = (σ.im i).isSome) ∧ ∀ w, σ.im i = some w → LkR M (273 + 8 * i) w
def TrC (M : Mem) (σ : Sg) : Prop := M.1 6 1 = nI σ.rn ∧ ∀ j, j < σ.rn → M.1 7 j = σ.rt j
/-- what the state keeps to -/
def SgW (σ : Sg) : Prop := RowsW σ ∧ TapeW σ ∧ Lv σ.v ∧ σ.am ≤ 24 ∧ (∀ i, i < σ.am → Lv (σ.ah i) ∧ Iv (σ.ah i)) ∧ (∀ i w, i < 2 → σ.im i = some w → Iv w ∧ w 3 ≤ 999) ∧ σ.rn ≤ 16 ∧ ((∀ j, j < 45 → σ.v j = 0) → σ.am = 0)
theorem Lv.wv {v : Nat → Nat} (h : Lv v) : Wv v := by
  rcases h with h | h
  · exact h.1.1
  · refine ⟨by rw [h 0 (by omega)]; omega, by rw [h 1 (by omega)]; omega, by rw [h 2 (by omega)]; omega, by rw [h 3 (by omega)]; omega, by rw [h 4 (by omega)]; omega, by rw [h 5 (by omega), h 2 (by omega)]; decide, fun r hr => ?_, fun g hg => ?_⟩
    · rw [h 0 (by omega)] at hr; omega
    · rw [h 2 (by omega)] at hg; omega
theorem Lv.goer {v : Nat → Nat} (h : Lv v) {g : Nat} (hg : g < v 2) : Iv v ∧ v 3 ≤ 999 := by
  rcases h with h | h
  · exact h
  · rw [h 2 (by omega)] at hg; omega
theorem Lv.rung {v : Nat → Nat} (h : Lv v) {r : Nat} (hr : r < v 0) : Iv v ∧ v 3 ≤ 999 := by
  rcases h with h | h
  · exact h
  · rw [h 0 (by omega)] at hr; omega
/-- x is one of 0 .. n - 1 -/
def inR (x : Int32) (n : Nat) : Bool := decide (0 ≤ x.toInt ∧ x.toInt < n)
theorem inR_nI {x : Int32} {n : Nat} (h : inR x n = true) (hn : n < 2 ^ 31) : ∃ g, g < n ∧ x = nI g := by
  simp only [inR, decide_eq_true_eq] at h
  exact vp_in_of (vp_in_iff.mpr h) hn
theorem inR_of {g n : Nat} (h : g < n) (hn : n < 2 ^ 31) : inR (nI g) n = true := by
  simp only [inR, decide_eq_true_eq]
  rw [nI_toInt (by omega)]
  omega
