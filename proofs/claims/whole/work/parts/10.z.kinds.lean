/-! the kinds' objects: instanceof on the object of a kind -/
section
variable {Γ : Gx} {Ω : Om} {own : String} {cc : ByteArray} {nL lev : Nat} {ret : Option FieldType} {pc : Nat} {L : List (Option Value)} {st : List Value} {M : Mem}
theorem kind_all {k : Nat} (hk : 1 ≤ k ∧ k ≤ 5) : k = 1 ∨ k = 2 ∨ k = 3 ∨ k = 4 ∨ k = 5 := by omega
theorem x_inst1 {k idx : Nat} (hk : 1 ≤ k ∧ k ≤ 5) (d : decode cc pc = .ok (.instanceof idx, 3)) (hlk : Cond.classLink own idx RX1 ∈ tbw) (kk : X Γ Ω own cc nL lev ret (pc + 3) L (.int (bI (decide (k ≤ 3))) :: st) M) : X Γ Ω own cc nL lev ret pc L (.ref (Ω.2.2 (8 + k)) :: st) M := by
  rcases kind_all hk with rfl | rfl | rfl | rfl | rfl
  · exact x_instY d hlk (ci := 1) (by decide) rfl (by decide) rfl (Or.inr rfl) kk
  · exact x_instY d hlk (ci := 3) (by decide) rfl (by decide) rfl (Or.inl (by decide)) kk
  · exact x_instY d hlk (ci := 2) (by decide) rfl (by decide) rfl (Or.inl (by decide)) kk
  · exact x_instN d hlk (ci := 4) (by decide) rfl (by decide) rfl (by decide) kk
  · exact x_instN d hlk (ci := 6) (by decide) rfl (by decide) rfl (by decide) kk
theorem x_inst3 {k idx : Nat} (hk : 1 ≤ k ∧ k ≤ 5) (d : decode cc pc = .ok (.instanceof idx, 3)) (hlk : Cond.classLink own idx RX3 ∈ tbw) (kk : X Γ Ω own cc nL lev ret (pc + 3) L (.int (bI (decide (k = 2))) :: st) M) : X Γ Ω own cc nL lev ret pc L (.ref (Ω.2.2 (8 + k)) :: st) M := by
  rcases kind_all hk with rfl | rfl | rfl | rfl | rfl
  · exact x_instN d hlk (ci := 1) (by decide) rfl (by decide) rfl (by decide) kk
  · exact x_instY d hlk (ci := 3) (by decide) rfl (by decide) rfl (Or.inr rfl) kk
  · exact x_instN d hlk (ci := 2) (by decide) rfl (by decide) rfl (by decide) kk
  · exact x_instN d hlk (ci := 4) (by decide) rfl (by decide) rfl (by decide) kk
  · exact x_instN d hlk (ci := 6) (by decide) rfl (by decide) rfl (by decide) kk
theorem x_inst2 {k idx : Nat} (hk : 1 ≤ k ∧ k ≤ 5) (d : decode cc pc = .ok (.instanceof idx, 3)) (hlk : Cond.classLink own idx RX2 ∈ tbw) (kk : X Γ Ω own cc nL lev ret (pc + 3) L (.int (bI (decide (k = 3))) :: st) M) : X Γ Ω own cc nL lev ret pc L (.ref (Ω.2.2 (8 + k)) :: st) M := by
  rcases kind_all hk with rfl | rfl | rfl | rfl | rfl
  · exact x_instN d hlk (ci := 1) (by decide) rfl (by decide) rfl (by decide) kk
  · exact x_instN d hlk (ci := 3) (by decide) rfl (by decide) rfl (by decide) kk
  · exact x_instY d hlk (ci := 2) (by decide) rfl (by decide) rfl (Or.inr rfl) kk
  · exact x_instN d hlk (ci := 4) (by decide) rfl (by decide) rfl (by decide) kk
  · exact x_instN d hlk (ci := 6) (by decide) rfl (by decide) rfl (by decide) kk
theorem x_inst4 {k idx : Nat} (hk : 1 ≤ k ∧ k ≤ 5) (d : decode cc pc = .ok (.instanceof idx, 3)) (hlk : Cond.classLink own idx RX4 ∈ tbw) (kk : X Γ Ω own cc nL lev ret (pc + 3) L (.int (bI (decide (4 ≤ k))) :: st) M) : X Γ Ω own cc nL lev ret pc L (.ref (Ω.2.2 (8 + k)) :: st) M := by
  rcases kind_all hk with rfl | rfl | rfl | rfl | rfl
  · exact x_instN d hlk (ci := 1) (by decide) rfl (by decide) rfl (by decide) kk
  · exact x_instN d hlk (ci := 3) (by decide) rfl (by decide) rfl (by decide) kk
  · exact x_instN d hlk (ci := 2) (by decide) rfl (by decide) rfl (by decide) kk
  · exact x_instY d hlk (ci := 4) (by decide) rfl (by decide) rfl (Or.inr rfl) kk
  · exact x_instY d hlk (ci := 6) (by decide) rfl (by decide) rfl (Or.inl (by decide)) kk
theorem x_inst6 {k idx : Nat} (hk : 1 ≤ k ∧ k ≤ 5) (d : decode cc pc = .ok (.instanceof idx, 3)) (hlk : Cond.classLink own idx RX6 ∈ tbw) (kk : X Γ Ω own cc nL lev ret (pc + 3) L (.int (bI (decide (k = 5))) :: st) M) : X Γ Ω own cc nL lev ret pc L (.ref (Ω.2.2 (8 + k)) :: st) M := by
  rcases kind_all hk with rfl | rfl | rfl | rfl | rfl
  · exact x_instN d hlk (ci := 1) (by decide) rfl (by decide) rfl (by decide) kk
  · exact x_instN d hlk (ci := 3) (by decide) rfl (by decide) rfl (by decide) kk
  · exact x_instN d hlk (ci := 2) (by decide) rfl (by decide) rfl (by decide) kk
  · exact x_instN d hlk (ci := 4) (by decide) rfl (by decide) rfl (by decide) kk
  · exact x_instY d hlk (ci := 6) (by decide) rfl (by decide) rfl (Or.inr rfl) kk
/-- the object of a kind, out of the array of kinds -/
theorem x_kinds {k : Nat} (hk : 1 ≤ k ∧ k ≤ 5) (d : decode cc pc = .ok (.aaload, 1)) (kk : X Γ Ω own cc nL lev ret (pc + 1) L (.ref (Ω.2.2 (8 + k)) :: st) M) : X Γ Ω own cc nL lev ret pc L (.int (nI k) :: .ref (Ω.2.2 8) :: st) M :=
  x_aaload d (by decide) (Or.inl rfl) (vp_in_nI (N := 6) (by omega) (by decide)) (by rw [nI_clamp (by omega)]; rcases kind_all hk with rfl | rfl | rfl | rfl | rfl <;> rfl) kk
end
def mayR (v : Nat → Nat) (g : Nat) : Bool := decide (gap v ≤ v (33 + g)) && (decide (v (33 + g) ≤ v 0) && (!hld v g && decide (v (15 + g) ≤ 3)))
/-- how many of the first n are so -/
def cntN (f : Nat → Bool) : Nat → Nat
  | 0 => 0
  | n + 1 => if f n = true then cntN f n + 1 else cntN f n
theorem cntN_le (f : Nat → Bool) : ∀ n, cntN f n ≤ n
  | 0 => Nat.le_refl _
  | n + 1 => by have := cntN_le f n; unfold cntN; split <;> omega
theorem gapN_le (v : Nat → Nat) : ∀ n, gapN v n ≤ n
  | 0 => Nat.le_refl _
  | n + 1 => by have := gapN_le v n; unfold gapN; split <;> omega
theorem hiN_le (v : Nat → Nat) : ∀ n, hiN v n ≤ n
  | 0 => Nat.le_refl _
  | n + 1 => by have := hiN_le v n; unfold hiN; split <;> omega
/-- how many bits are set -/
def pop (a : Nat) : Nat := cntN (fun i => a.testBit i) 32
