/-! what the state keeps to is kept by every call -/
def SgI (σ : Sg) : Prop := SgW σ ∧ SgX σ
theorem SgX.of {σ : Sg} (h : Iv σ.v) : SgX σ := fun i hi z e => by have := h.2.1; omega
theorem SgI.row {σ : Sg} (h : SgI σ) {a b : Nat → Int32} {c : Nat → Nat → Int32} {d : Int32} (hr : RowsW (σ.uRow a b c d)) : SgI (σ.uRow a b c d) := by
  obtain ⟨⟨h1, h2, h3, h4, h5, h6, h7, h8⟩, hx⟩ := h
  exact ⟨⟨hr, h2, h3, h4, h5, h6, h7, h8⟩, hx⟩
theorem SgI.st {σ : Sg} (h : SgI σ) (d : Int32) : SgI (σ.uSt d) := h.row h.1.1
theorem SgI.act {σ : Sg} (h : SgI σ) (hI : Iv σ.v) (h9 : σ.v 3 ≤ 999) {w : Nat → Nat} (hv : Iv w ∧ w 3 ≤ 999) : SgI (σ.act w) := ⟨actW h.1 hI h9 hv, SgX.of hv.1⟩
section
variable {σ : Sg}
theorem I_who (h : SgI σ) (x w o r i n : Int32) : SgI (R_who σ x w o r i n).2 := by
  unfold R_who
  split
  · split
    · exact h.st _
    · split
      · exact h.st _
      · exact h.st _
  · exact h
theorem I_rotten (h : SgI σ) (x r i n : Int32) : SgI (R_rotten σ x r i n).2 := by
  unfold R_rotten
  split
  · split
    · exact h.st _
    · split
      · exact h.st _
      · exact h.st _
  · exact h
theorem I_as (h : SgI σ) (x k : Int32) : SgI (R_as σ x k).2 := by
  unfold R_as
  split
  · split
    · exact h.st _
    · exact h.st _
  · exact h
theorem I_row (h : SgI σ) (x a n : Int32) : SgI (R_row σ x a n).2 := by
  unfold R_row
  split
  · next hc =>
    split
    · exact h.st _
    · next hn =>
      refine h.row (fun r hr => ?_)
      obtain ⟨w1, w2⟩ := h.1.1 r hr
      show (upF1 σ.ln (tN x) a r = nI 0 ∨ upF1 σ.ln (tN x) a r = nI 1 ∨ upF1 σ.ln (tN x) a r = nI 2) ∧ (upF1 σ.sz (tN x) n r = -1 ∨ ∃ k, k ≤ 40 ∧ upF1 σ.sz (tN x) n r = nI k)
      unfold upF1
      by_cases e : r = tN x
      · rw [if_pos e, if_pos e]
        refine ⟨?_, Or.inr ?_⟩
        · obtain ⟨g, g1, g2, g3⟩ := inB_nI hc.2.1 (by decide)
          have : g = 0 ∨ g = 1 ∨ g = 2 := by omega
          rcases this with rfl | rfl | rfl
          · exact Or.inl g3
          · exact Or.inr (Or.inl g3)
          · exact Or.inr (Or.inr g3)
        · have hb : inB n 0 40 = true := by
            simp only [inB, decide_eq_true_eq]
            omega
          obtain ⟨g, g1, g2, g3⟩ := inB_nI hb (by decide)
          exact ⟨g, g2, g3⟩
      · rw [if_neg e, if_neg e]
        exact ⟨w1, w2⟩
  · exact h
theorem I_set (h : SgI σ) (x i y : Int32) : SgI (R_set σ x i y).2 := by
  unfold R_set
  split
  · split
    · exact h.st _
    · split
      · exact h.row h.1.1
      · exact h.st _
  · exact h
theorem I_copy (h : SgI σ) (a i b j n : Int32) : SgI (R_copy σ a i b j n).2 := by
  unfold R_copy
  split
  · split
    · exact h.st _
    · split
      · split
        · exact h.row h.1.1
        · exact h.st _
      · exact h.st _
  · exact h
theorem I_drop (h : SgI σ) (x : Int32) : SgI (R_drop σ x).2 := by
  unfold R_drop
  split
  · split
    · exact h.st _
    · refine h.row (fun r hr => ?_)
      obtain ⟨w1, w2⟩ := h.1.1 r hr
      refine ⟨w1, ?_⟩
      show upF1 σ.sz (tN x) (-1) r = -1 ∨ ∃ k, k ≤ 40 ∧ upF1 σ.sz (tN x) (-1) r = nI k
      unfold upF1
      by_cases e : r = tN x
      · rw [if_pos e]
        exact Or.inl rfl
      · rw [if_neg e]
        exact w2
  · exact h
theorem I_feed (h : SgI σ) (x : Int32) : SgI (R_feed σ x).2 := by
  unfold R_feed
  split
  · next hc =>
    split
    · next ht =>
      obtain ⟨⟨h1, h2, h3⟩, hx⟩ := h
      refine ⟨⟨h1, ⟨?_, fun j hj => ?_⟩, h3⟩, hx⟩
      · show σ.tn + 1 ≤ 100
        omega
      · show (if j = σ.tn then tN x else σ.tb j) < 256
        have hj : j < σ.tn + 1 := hj
        split
        · obtain ⟨g, g1, g2, rfl⟩ := inB_nI hc (by decide)
          rw [tN_nI (by omega)]
          omega
        · exact h2.2 j (by omega)
    · exact h
  · exact h
theorem I_begin (h : SgI σ) (x n : Int32) : SgI (R_begin σ x n).2 := by
  unfold R_begin
  split
  · next hc =>
    have hw := h.1.2.2.1.wv.nums
    obtain ⟨g, g1, rfl⟩ := inR_nI hc.1 (by omega)
    obtain ⟨t, t1, t2, rfl⟩ := inB_nI hc.2 (by decide)
    obtain ⟨hI, h9⟩ := h.1.2.2.1.goer g1
    rw [tN_nI (by omega), tN_nI (by omega)]
    refine h.act hI h9 ⟨hI.setG g1 (Or.inr (Or.inr ⟨rfl, by omega⟩)), ?_⟩
    rw [sv_ne _ _ (by omega)]
    exact h9
  · exact h
theorem I_hold (h : SgI σ) (x w : Int32) : SgI (R_hold σ x w).2 := by
  unfold R_hold
  split
  · next hc =>
    split
    · exact h
    · have hw := h.1.2.2.1.wv.nums
      obtain ⟨g, g1, rfl⟩ := inR_nI hc.1 (by omega)
      obtain ⟨hI, h9⟩ := h.1.2.2.1.goer g1
      rw [tN_nI (by omega)]
      refine h.act hI h9 ⟨hI.setHd (Nat.xor_lt_two_pow (n := 6) hw.2.2.2.2 (Nat.pow_lt_pow_right (by decide) (by omega))), ?_⟩
      rw [sv_ne _ _ (by omega)]
      exact h9
  · exact h
theorem I_mend (h : SgI σ) (x : Int32) : SgI (R_mend σ x).2 := by
  unfold R_mend
  split
  · next hc =>
    have hw := h.1.2.2.1.wv.nums
    obtain ⟨g, g1, rfl⟩ := inR_nI hc (by omega)
    obtain ⟨hI, h9⟩ := h.1.2.2.1.rung g1
    rw [tN_nI (by omega)]
    refine h.act hI h9 ⟨?_, ?_⟩
    · have := hI.setS (p := g + 1) (y := 99) (by omega) (by omega) (by omega) (fun z => absurd z (by omega))
      rw [show 5 + (g + 1) = 6 + g by omega] at this
      exact this
    · rw [sv_ne _ _ (by omega)]
      exact h9
  · exact h
theorem I_takeOut (h : SgI σ) (x : Int32) : SgI (R_takeOut σ x).2 := by
  unfold R_takeOut
  split
  · next hc =>
    split
    · exact h
    · have hw := h.1.2.2.1.wv.nums
      obtain ⟨g, g1, rfl⟩ := inR_nI hc (by omega)
      obtain ⟨hI, h9⟩ := h.1.2.2.1.rung g1
      rw [tN_nI (by omega)]
      refine h.act hI h9 ⟨hI.bk (by omega) (by omega), ?_⟩
      rw [bkV_ne (by omega) (by omega) (by omega) (by omega)]
      exact h9
  · exact h
theorem I_hours (h : SgI σ) (n : Int32) : SgI (R_hours σ n).2 := by
  unfold R_hours
  split
  · exact h
  · next h0 =>
    split
    · next hc =>
      split
      · exact h
      · next h99 =>
        obtain ⟨t, t1, t2, rfl⟩ := inB_nI hc (by decide)
        rw [tN_nI (by omega)] at h99 ⊢
        have hI : Iv σ.v := (h.1.2.2.1.rung (r := 0) (by omega)).1
        refine ⟨hsN_W h.1 hI t (by omega), SgX.of ?_⟩
        rw [hsN_v]
        exact hrs_Iv hI t (by omega)
    · exact h
theorem I_undo (h : SgI σ) : SgI (R_undo σ).2 := by
  unfold R_undo
  split
  · exact h
  · next ha =>
    have h4 : σ.am ≤ 24 := h.1.2.2.2.1
    have h5 := h.1.2.2.2.2.1 (σ.am - 1) (by omega)
    have h9 : σ.ah (σ.am - 1) 3 ≤ 999 := by
      rcases h5.1 with z | z
      · exact z.2
      · rw [z 3 (by omega)]; omega
    exact ⟨uRowW h.1 ⟨h5.2, h9⟩ (by omega) (fun k hk => h.1.2.2.2.2.1 k (by omega)), SgX.of h5.2⟩
theorem I_image (h : SgI σ) (k : Int32) : SgI (R_image σ k).2 := by
  unfold R_image
  split
  · split
    · exact h
    · next h0 =>
      have hI := h.1.2.2.1.rung (r := 0) (by omega)
      obtain ⟨⟨h1, h2, h3, h4, h5, h6, h7, h8⟩, hx⟩ := h
      refine ⟨⟨h1, h2, h3, h4, h5, fun i w hi hw => ?_, h7, h8⟩, fun i hi z => h0⟩
      have hw : (if i = tN k then some σ.v else σ.im i) = some w := hw
      split at hw
      · cases hw; exact hI
      · exact h6 i w hi hw
  · exact h
theorem I_restore (h : SgI σ) (k : Int32) : SgI (R_restore σ k).2 := by
  unfold R_restore
  split
  · next hc =>
    split
    · exact h
    · next w hw =>
      obtain ⟨g, g1, g2, rfl⟩ := inB_nI hc (by decide)
      rw [tN_nI (by omega)] at hw
      have h6 := h.1.2.2.2.2.2.1 g w (by omega) hw
      exact ⟨uRowW h.1 h6 (by omega) (fun k hk => absurd hk (Nat.not_lt_zero _)), SgX.of h6.1⟩
  · exact h
theorem I_ask (h : SgI σ) (x w : Int32) : SgI (R_ask σ x w).2 := by
  unfold R_ask
  split
  · obtain ⟨⟨h1, h2, h3, h4, h5, h6, h7, h8⟩, hx⟩ := h
    refine ⟨⟨h1, h2, h3, h4, h5, h6, ?_, h8⟩, hx⟩
    show (askA σ.v (tN x) w).2.length ≤ 16
    unfold askA szA mkA
    split
    · split
      · exact Nat.le_of_ble_eq_true rfl
      · split
        · exact Nat.le_of_ble_eq_true rfl
        · split
          · exact Nat.le_of_ble_eq_true rfl
          · split <;> exact Nat.le_of_ble_eq_true rfl
    · split
      · exact Nat.le_of_ble_eq_true rfl
      · split
        · exact Nat.le_of_ble_eq_true rfl
        · split
          · exact Nat.le_of_ble_eq_true rfl
          · split <;> exact Nat.le_of_ble_eq_true rfl
  · exact h
theorem I_lake (h : SgI σ) : SgI (R_lake σ).2 := by
  have h0 : SgI (σ.uTape 0 σ.tb) := ⟨h.1.tape0, h.2⟩
  unfold R_lake
  split
  · obtain ⟨⟨h1, h2, h3, h4, h5, h6, h7, h8⟩, hx⟩ := h0
    exact ⟨⟨h1, h2, h3, h4, h5, h6, h7, h8⟩, hx⟩
  · next v hv =>
    obtain ⟨hI, h3⟩ := pLake_Iv hv
    exact ⟨uRowW h0.1 ⟨hI, by omega⟩ (by omega) (fun k hk => absurd hk (Nat.not_lt_zero _)), SgX.of hI⟩
end
/-! both sides hold the state -/
def Both (M : Mem) (σ : Sg) : Prop := IC M σ ∧ IM M σ ∧ SgI σ
theorem IC.frc {M M' : Mem} {σ : Sg} (h : IC M σ) (hF : FrC M M') : IC M' σ := h.keep (fun c hc => hF.2 c (by omega))
