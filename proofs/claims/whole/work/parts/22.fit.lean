/-! what fits; draws: the numbers -/
/-- where goer g is in the n hours to come is what 'it' tells -/
def fitN (v : Nat → Nat) (g : Nat) (it : Nat → Int32) : Nat → Bool
  | 0 => true
  | n + 1 => fitN v g it n && decide (nI (hrs v (n + 1) (33 + g)) = it n)
theorem fitN_false {v : Nat → Nat} {g : Nat} {it : Nat → Int32} {h : Nat} (hf : ¬ nI (hrs v (h + 1) (33 + g)) = it h) : ∀ {n : Nat}, h < n → fitN v g it n = false
  | 0, hn => by omega
  | n + 1, hn => by
    by_cases e : h = n
    · subst e; simp [fitN, hf]
    · simp [fitN, fitN_false hf (n := n) (by omega)]
theorem Wv.setG {v : Nat → Nat} (hw : Wv v) {g : Nat} (hg : g < v 2) {j y : Nat} (hj : (j = 15 + g ∧ 1 ≤ y ∧ y ≤ 5) ∨ (j = 21 + g ∧ y ≤ 30) ∨ (j = 27 + g ∧ y ≤ 5000)) : Wv (sv v j y) := by
  have hn := hw.nums
  obtain ⟨q0, q1, q2, q3, q4, q5, q6, q7⟩ := hw
  have e : ∀ i, i ≠ j → sv v j y i = v i := fun i hi => sv_ne _ _ hi
  refine ⟨by rw [e 0 (by omega)]; exact q0, by rw [e 1 (by omega)]; exact q1, by rw [e 2 (by omega)]; exact q2, by rw [e 3 (by omega)]; exact q3, by rw [e 4 (by omega)]; exact q4, by rw [e 5 (by omega), e 2 (by omega)]; exact q5, fun r hr => ?_, fun k hk => ?_⟩
  · rw [e 0 (by omega)] at hr
    rw [e _ (by omega)]; exact q6 r hr
  · rw [e 2 (by omega)] at hk
    obtain ⟨z1, z2, z3, z4, z5⟩ := q7 k hk
    rw [e 0 (by omega), e (33 + k) (by omega)]
    simp only [sv]
    refine ⟨?_, ?_, ?_, ?_, z5⟩
    · split <;> omega
    · split <;> omega
    · split <;> omega
    · split <;> omega
/-- a draw: a rung is mended, or taken out -/
def drV (v : Nat → Nat) (a : Nat) : Nat → Nat := if a % 4 = 0 then sv v (6 + a % v 0) 99 else if a % 7 = 0 ∧ ¬ v (6 + a % v 0) = 0 then bkV v (a % v 0 + 1) else v
def dwX (a : Nat) : Nat → Nat
  | 0 => a
  | n + 1 => dwX a n * 16807 % 2147483647
def dwV (v : Nat → Nat) (a : Nat) : Nat → Nat → Nat
  | 0 => v
  | n + 1 => hrV (drV (dwV v a n) (dwX a (n + 1)))
theorem drV_Iv {v : Nat → Nat} (h : Iv v) (a : Nat) : Iv (drV v a) := by
  have h0 := h.2.1
  have hm : a % v 0 < v 0 := Nat.mod_lt _ (by omega)
  unfold drV
  repeat' split
  · have := h.setS (p := a % v 0 + 1) (y := 99) (by omega) (by omega) (by omega) (fun z => by omega)
    rwa [show 5 + (a % v 0 + 1) = 6 + a % v 0 by omega] at this
  · exact h.bk (by omega) (by omega)
  · exact h
theorem drV_3 {v : Nat → Nat} (h : Iv v) (a : Nat) : drV v a 3 = v 3 := by
  have hn := h.1.nums
  unfold drV
  repeat' split
  · exact sv_ne _ _ (by omega)
  · exact bkV_ne (by omega) (by omega) (Or.inl (by omega)) (by omega)
  · rfl
theorem dwV_Iv {v : Nat → Nat} (h : Iv v) (a : Nat) : ∀ (n : Nat), v 3 + n ≤ 5000 → Iv (dwV v a n) ∧ dwV v a n 3 = v 3 + n
  | 0, _ => ⟨h, rfl⟩
  | n + 1, hn => by
    obtain ⟨h1, h2⟩ := dwV_Iv h a n (by omega)
    have h3 := drV_3 h1 (dwX a (n + 1))
    refine ⟨(drV_Iv h1 _).hr (by omega), ?_⟩
    show hrV _ 3 = _
    rw [hrV_3, h3, h2]; omega
theorem dwX_lt {a : Nat} (ha : a < 2147483647) : ∀ n, dwX a n < 2147483647
  | 0 => ha
  | n + 1 => Nat.mod_lt _ (by decide)
theorem lgc0 {a : Nat} (h : a < 2 ^ 63) : lg_cmp (lN a) 0 = 0 ↔ a = 0 := by
  have e : (0 : Int64) = lN 0 := rfl
  rw [e]
  unfold lg_cmp
  have h1 : lN a > lN 0 ↔ 0 < a := pk_lLT (by decide) h
  have h2 : lN a = lN 0 ↔ a = 0 := pk_lEQ h (by decide)
  by_cases c : a = 0
  · subst c
    rw [if_neg (by rw [h1]; omega), if_pos rfl]; simp
  · rw [if_pos (h1.mpr (by omega))]
    constructor
    · intro z; cases z
    · intro z; exact absurd z c
section
variable {Γ : Gx} {Ω : Om} {own : String} {cc : ByteArray} {nL lev : Nat} {ret : Option FieldType} {pc : Nat} {L : List (Option Value)} {st : List Value} {M : Mem}
theorem y_lrem {a b : Nat} (d : decode cc pc = .ok (.lrem, 1)) (ha : a < 2 ^ 63) (h0 : 0 < b) (hb : b < 2 ^ 63) (k : X Γ Ω own cc nL lev ret (pc + 1) L (.long (lN (a % b)) :: st) M) : X Γ Ω own cc nL lev ret pc L (.long (lN b) :: .long (lN a) :: st) M := x_lrem d (by rw [show (0 : Int64) = lN 0 from rfl, pk_lEQ hb (by decide)]; omega) (by rw [pk_lRem ha h0 hb]; exact k)
theorem y_ldiv {a b : Nat} (d : decode cc pc = .ok (.ldiv, 1)) (ha : a < 2 ^ 63) (h0 : 0 < b) (hb : b < 2 ^ 63) (k : X Γ Ω own cc nL lev ret (pc + 1) L (.long (lN (a / b)) :: st) M) : X Γ Ω own cc nL lev ret pc L (.long (lN b) :: .long (lN a) :: st) M := x_ldiv d (by rw [show (0 : Int64) = lN 0 from rfl, pk_lEQ hb (by decide)]; omega) (by rw [pk_lDiv ha h0 hb]; exact k)
theorem y_lmul {a b : Nat} (d : decode cc pc = .ok (.lmul, 1)) (k : X Γ Ω own cc nL lev ret (pc + 1) L (.long (lN (a * b)) :: st) M) : X Γ Ω own cc nL lev ret pc L (.long (lN b) :: .long (lN a) :: st) M := x_lmul d (by rw [lN_mul]; exact k)
theorem y_ladd {a b : Nat} (d : decode cc pc = .ok (.ladd, 1)) (k : X Γ Ω own cc nL lev ret (pc + 1) L (.long (lN (a + b)) :: st) M) : X Γ Ω own cc nL lev ret pc L (.long (lN b) :: .long (lN a) :: st) M := x_ladd d (by rw [lN_add]; exact k)
theorem y_i2l {a : Nat} (d : decode cc pc = .ok (.i2l, 1)) (ha : a < 2 ^ 31) (k : X Γ Ω own cc nL lev ret (pc + 1) L (.long (lN a) :: st) M) : X Γ Ω own cc nL lev ret pc L (.int (nI a) :: st) M := x_i2l d (by rw [nI_l ha]; exact k)
theorem y_l2i {a : Nat} (d : decode cc pc = .ok (.l2i, 1)) (k : X Γ Ω own cc nL lev ret (pc + 1) L (.int (nI a) :: st) M) : X Γ Ω own cc nL lev ret pc L (.long (lN a) :: st) M := x_l2i d (by rw [lN_i]; exact k)
/-- a long beside 0, then ifne / ifeq -/
theorem y_lc0_ne {a : Nat} {off : Int} (tgt : Nat) (d1 : decode cc pc = .ok (.lcmp, 1)) (d2 : decode cc (pc + 1) = .ok (.ifCond .ne off, 3)) (ha : a < 2 ^ 63) (kt : ¬ a = 0 → X Γ Ω own cc nL lev ret tgt L st M) (kf : a = 0 → X Γ Ω own cc nL lev ret (pc + 1 + 3) L st M) (ht : ((pc + 1 : Nat) : Int) + off = (tgt : Int) := by decide) : X Γ Ω own cc nL lev ret pc L (.long 0 :: .long (lN a) :: st) M :=
  x_lcmp d1 (x_if_ne tgt d2 (fun h => kt (fun z => h ((lgc0 ha).mpr z))) (fun h => kf ((lgc0 ha).mp h)) ht)
theorem y_lc0_eq {a : Nat} {off : Int} (tgt : Nat) (d1 : decode cc pc = .ok (.lcmp, 1)) (d2 : decode cc (pc + 1) = .ok (.ifCond .eq off, 3)) (ha : a < 2 ^ 63) (kt : a = 0 → X Γ Ω own cc nL lev ret tgt L st M) (kf : ¬ a = 0 → X Γ Ω own cc nL lev ret (pc + 1 + 3) L st M) (ht : ((pc + 1 : Nat) : Int) + off = (tgt : Int) := by decide) : X Γ Ω own cc nL lev ret pc L (.long 0 :: .long (lN a) :: st) M :=
  x_lcmp d1 (x_if_eq tgt d2 (fun h => kt ((lgc0 ha).mp h)) (fun h => kf (fun z => h ((lgc0 ha).mpr z))) ht)
end
