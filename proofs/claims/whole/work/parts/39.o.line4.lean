/-! LADDERSPRINGS: line (laid by gen_line3.py) -/
theorem IC.setLine {M M' : Mem} {σ : Sg} (h : IC M σ) (hF : F14 M M') (hl : LineC M') : IC M' σ ∧ FrM M M' := by
  obtain ⟨h1, h2, h3, h4, h5, h6, h7, h8, h9⟩ := h
  have e : ∀ c, ¬ (c = 14 ∨ c = 15 ∨ c = 16 ∨ (65 ≤ c ∧ c < 81)) → M'.1 c = M.1 c := hF.1
  have e0 := e 0 (by omega)
  exact ⟨⟨h1.keep (fun c a b => e c (by omega)), by rw [e0]; exact h2, h3.keep (fun c a b => e c (by omega)), by rw [e0]; exact h4, h5.same (fun k hk => e _ (by omega)), h6.keep (by rw [e0]) (by rw [e0]) (fun c a b => e c (by omega)), h7.keep (by rw [e0]) (fun c a b => e c (by omega)), h8.keep (fun c a b => e c (by omega)), hl⟩, fun c a b => e c (by omega)⟩
theorem m1_toInt : ((-1 : Int32)).toInt = -1 := rfl
