/-! SM: what the line sees of a lake is the same for lakes that differ in falls alone -/
section
variable {v w : Nat → Nat}
theorem Sm.n2 (h : Sm v w) : v 2 = w 2 := h.2.2.1
theorem Sm.n0 (h : Sm v w) : v 0 = w 0 := h.1
theorem Sm.go (h : Sm v w) {g : Nat} (hg : g < v 2) : v (15 + g) = w (15 + g) ∧ v (21 + g) = w (21 + g) ∧ v (27 + g) = w (27 + g) ∧ v (33 + g) = w (33 + g) := h.2.2.2.2.2.2.2 g hg
theorem Sm.rg (h : Sm v w) {r : Nat} (hr : r < v 0) : v (6 + r) = w (6 + r) := h.2.2.2.2.2.2.1 r hr
theorem Sm.set (h : Sm v w) {k x : Nat} (h0 : k ≠ 0) (h2 : k ≠ 2) : Sm (sv v k x) (sv w k x) := by
  obtain ⟨a0, a1, a2, a3, a4, a5, a6, a7⟩ := h
  have e0 : sv v k x 0 = v 0 := sv_ne _ _ (Ne.symm h0)
  have e2 : sv v k x 2 = v 2 := sv_ne _ _ (Ne.symm h2)
  have e : ∀ j, v j = w j → sv v k x j = sv w k x j := fun j hj => by unfold sv; split; rfl; exact hj
  refine ⟨e _ a0, e _ a1, e _ a2, e _ a3, e _ a4, e _ a5, fun r hr => e _ (a6 r (by omega)), fun g hg => ?_⟩
  obtain ⟨b1, b2, b3, b4⟩ := a7 g (by omega)
  exact ⟨e _ b1, e _ b2, e _ b3, e _ b4⟩
theorem Sm.fell (h : Sm v w) (h0 : v 0 ≤ 9) (h2 : v 2 ≤ 6) {k x y : Nat} : Sm (sv v (39 + k) x) (sv w (39 + k) y) := by
  obtain ⟨a0, a1, a2, a3, a4, a5, a6, a7⟩ := h
  have e : ∀ j, j < 39 → v j = w j → sv v (39 + k) x j = sv w (39 + k) y j := fun j hj q => by rw [sv_ne _ _ (by omega), sv_ne _ _ (by omega)]; exact q
  have e0 : sv v (39 + k) x 0 = v 0 := sv_ne _ _ (by omega)
  have e2 : sv v (39 + k) x 2 = v 2 := sv_ne _ _ (by omega)
  refine ⟨e _ (by omega) a0, e _ (by omega) a1, e _ (by omega) a2, e _ (by omega) a3, e _ (by omega) a4, e _ (by omega) a5, fun r hr => e _ (by omega) (a6 r (by omega)), fun g hg => ?_⟩
  obtain ⟨b1, b2, b3, b4⟩ := a7 g (by omega)
  exact ⟨e _ (by omega) b1, e _ (by omega) b2, e _ (by omega) b3, e _ (by omega) b4⟩
theorem Sm.lo (h : Sm v w) {g : Nat} (hg : g < v 2) : lo v g = lo w g := by
  obtain ⟨b1, b2, b3, b4⟩ := h.go hg
  unfold Jvm.Pilot.CLadderSpringsLaw_law_r9216_a26200.lo
  rw [b1, b2]
theorem Sm.brk (h : Sm v w) (q : Nat) : brk v q = brk w q := by
  unfold Jvm.Pilot.CLadderSpringsLaw_law_r9216_a26200.brk
  by_cases h1 : 1 ≤ q ∧ q ≤ v 0
  · have := h.rg (r := q - 1) (by omega)
    rw [show 6 + (q - 1) = 5 + q by omega] at this
    rw [this, h.n0]
  · by_cases h2 : 1 ≤ q
    · have h3 : ¬ q ≤ v 0 := by omega
      have h4 : ¬ q ≤ w 0 := by rw [← h.n0]; exact h3
      simp [h3, h4]
    · simp [h2]
theorem Sm.upF (h : Sm v w) (q : Nat) : upF v q = upF w q := by
  unfold Jvm.Pilot.CLadderSpringsLaw_law_r9216_a26200.upF
  rw [h.n0, h.brk, h.brk]
theorem Sm.dnF (h : Sm v w) (q : Nat) : dnF v q = dnF w q := by
  unfold Jvm.Pilot.CLadderSpringsLaw_law_r9216_a26200.dnF
  rw [h.brk, h.brk]
theorem Sm.onr (h : Sm v w) {g : Nat} (hg : g < v 2) : onr v g = onr w g := by
  unfold Jvm.Pilot.CLadderSpringsLaw_law_r9216_a26200.onr
  rw [(h.go hg).2.2.2, h.n0]
theorem Sm.loadR (h : Sm v w) : loadR v = loadR w := by
  unfold Jvm.Pilot.CLadderSpringsLaw_law_r9216_a26200.loadR
  rw [← h.n2]
  exact sumN_congr (fun k hk => by rw [h.onr hk, h.lo hk])
theorem Sm.loadA (h : Sm v w) (q : Nat) : loadA v q = loadA w q := by
  unfold Jvm.Pilot.CLadderSpringsLaw_law_r9216_a26200.loadA
  rw [← h.n2]
  exact sumN_congr (fun k hk => by rw [(h.go hk).2.2.2, h.lo hk])
theorem Sm.whoA (h : Sm v w) (q : Nat) : whoA v q = whoA w q := by
  unfold Jvm.Pilot.CLadderSpringsLaw_law_r9216_a26200.whoA
  rw [← h.n2]
  exact orN_congr (fun k hk => by rw [(h.go hk).2.2.2])
theorem Sm.hiN (h : Sm v w) : ∀ n, n ≤ v 0 → hiN v n = hiN w n
  | 0, _ => rfl
  | n + 1, hn => by
    show (if v (6 + n) = 0 then Jvm.Pilot.CLadderSpringsLaw_law_r9216_a26200.hiN v n else n + 1) = (if w (6 + n) = 0 then Jvm.Pilot.CLadderSpringsLaw_law_r9216_a26200.hiN w n else n + 1)
    rw [h.rg (by omega), Sm.hiN h n (by omega)]
theorem Sm.hiS (h : Sm v w) : hiS v = hiS w := by
  unfold Jvm.Pilot.CLadderSpringsLaw_law_r9216_a26200.hiS
  rw [← h.n0]
  exact h.hiN _ (Nat.le_refl _)
theorem Sm.suP (h : Sm v w) {g : Nat} (hg : g < v 2) : suP v g = suP w g := by
  unfold Jvm.Pilot.CLadderSpringsLaw_law_r9216_a26200.suP
  rw [(h.go hg).2.2.2, h.upF, h.loadR, h.lo hg, h.2.1]
theorem Sm.suV (h : Sm v w) {g : Nat} (hg : g < v 2) : Sm (suV v g) (suV w g) := by
  unfold Jvm.Pilot.CLadderSpringsLaw_law_r9216_a26200.suV
  rw [← h.suP hg]
  split
  · exact h
  · exact h.set (by omega) (by omega)
theorem Sm.sdV (h : Sm v w) {g : Nat} (hg : g < v 2) : Sm (sdV v g) (sdV w g) := by
  unfold Jvm.Pilot.CLadderSpringsLaw_law_r9216_a26200.sdV
  rw [← h.dnF, ← (h.go hg).2.2.2]
  split
  · exact h
  · split
    · rw [h.2.2.2.2.2.1]
      exact (h.set (by omega) (by omega)).set (by omega) (by omega)
    · exact h.set (by omega) (by omega)
theorem Sm.tiV (h : Sm v w) {g : Nat} (hg : g < v 2) : Sm (tiV v g) (tiV w g) := by
  unfold Jvm.Pilot.CLadderSpringsLaw_law_r9216_a26200.tiV
  rw [← h.upF, ← (h.go hg).2.2.2, ← h.hiS, ← h.2.2.2.2.2.1]
  split
  · exact h.set (by omega) (by omega)
  · exact h
theorem Sm.mvV (h : Sm v w) {g : Nat} (hg : g < v 2) : Sm (mvV v g) (mvV w g) := by
  have ht := h.tiV hg
  have hgt : g < Jvm.Pilot.CLadderSpringsLaw_law_r9216_a26200.tiV v g 2 := by rw [tiV_2]; exact hg
  have hs := h.suV hg
  have hgs : g < Jvm.Pilot.CLadderSpringsLaw_law_r9216_a26200.suV v g 2 := by rw [suV_2]; exact hg
  unfold Jvm.Pilot.CLadderSpringsLaw_law_r9216_a26200.mvV
  rw [← (h.go hg).1, ← h.suP hg, ← h.2.2.2.1, show upw (Jvm.Pilot.CLadderSpringsLaw_law_r9216_a26200.tiV w g) g = upw (Jvm.Pilot.CLadderSpringsLaw_law_r9216_a26200.tiV v g) g from by unfold upw; rw [ht.2.2.2.2.2.1]]
  split
  · exact hs
  split
  · split
    · exact hs.suV hgs
    · exact h
  split
  · split
    · exact hs
    · exact h
  split
  · exact ht.suV hgt
  · exact ht.sdV hgt
theorem Sm.mvN (h : Sm v w) : ∀ k, k ≤ v 2 → Sm (mvN v k) (mvN w k)
  | 0, _ => h
  | k + 1, hk => by
    have i := Sm.mvN h k (by omega)
    have hg : k < Jvm.Pilot.CLadderSpringsLaw_law_r9216_a26200.mvN v k 2 := by rw [mvN_2]; omega
    obtain ⟨b1, b2, b3, b4⟩ := i.go hg
    unfold Jvm.Pilot.CLadderSpringsLaw_law_r9216_a26200.mvN
    rw [show abv (Jvm.Pilot.CLadderSpringsLaw_law_r9216_a26200.mvN w k) k = abv (Jvm.Pilot.CLadderSpringsLaw_law_r9216_a26200.mvN v k) k from by unfold abv; rw [b4, i.n0], show hld (Jvm.Pilot.CLadderSpringsLaw_law_r9216_a26200.mvN w k) k = hld (Jvm.Pilot.CLadderSpringsLaw_law_r9216_a26200.mvN v k) k from by unfold hld; rw [i.2.2.2.2.1], ← b3, ← i.2.2.2.1]
    split
    · exact i
    · exact i.mvV hg
theorem Sm.bkN (h : Sm v w) (h0 : v 0 ≤ 9) (h2 : v 2 ≤ 6) {q : Nat} (h1 : 1 ≤ q) (hq : q ≤ v 0) : ∀ k, k ≤ v 2 → Sm (bkN v q k) (bkN w q k) ∧ bkN v q k 0 = v 0 ∧ bkN v q k 2 = v 2
  | 0, _ => ⟨h.set (by omega) (by omega), sv_ne _ _ (by omega), sv_ne _ _ (by omega)⟩
  | k + 1, hk => by
    obtain ⟨i, i0, i2⟩ := Sm.bkN h h0 h2 h1 hq k (by omega)
    have b4 := (i.go (g := k) (by omega)).2.2.2
    unfold Jvm.Pilot.CLadderSpringsLaw_law_r9216_a26200.bkN
    rw [← b4]
    split
    · refine ⟨(i.set (by omega) (by omega)).fell ?_ ?_, ?_, ?_⟩
      · rw [sv_ne _ _ (by omega)]; omega
      · rw [sv_ne _ _ (by omega)]; omega
      · rw [sv_ne _ _ (by omega), sv_ne _ _ (by omega)]; exact i0
      · rw [sv_ne _ _ (by omega), sv_ne _ _ (by omega)]; exact i2
    · exact ⟨i, i0, i2⟩
theorem Sm.bkV (h : Sm v w) (h0 : v 0 ≤ 9) (h2 : v 2 ≤ 6) {q : Nat} (h1 : 1 ≤ q) (hq : q ≤ v 0) : Sm (bkV v q) (bkV w q) := by
  unfold Jvm.Pilot.CLadderSpringsLaw_law_r9216_a26200.bkV
  rw [← h.n2, ← h.whoA, ← h.2.2.2.2.2.1]
  exact ((h.bkN h0 h2 h1 hq _ (Nat.le_refl _)).1).set (by omega) (by omega)
theorem Sm.wr1 (h : Sm v w) (h0 : v 0 ≤ 9) (h2 : v 2 ≤ 6) {q : Nat} (h1 : 1 ≤ q) (hq : q ≤ v 0) : Sm (wr1 v q) (wr1 w q) := by
  have e := h.rg (r := q - 1) (by omega)
  rw [show 6 + (q - 1) = 5 + q by omega] at e
  unfold Jvm.Pilot.CLadderSpringsLaw_law_r9216_a26200.wr1
  rw [← e, ← h.loadA]
  split
  · exact h.bkV h0 h2 h1 hq
  split
  · exact h
  split
  · exact (h.set (by omega) (by omega)).bkV (by rw [sv_ne _ _ (by omega)]; exact h0) (by rw [sv_ne _ _ (by omega)]; exact h2) h1 (by rw [sv_ne _ _ (by omega)]; exact hq)
  · exact h.set (by omega) (by omega)
theorem Sm.wrN (h : Sm v w) (h0 : v 0 ≤ 9) (h2 : v 2 ≤ 6) : ∀ k, k ≤ v 0 → Sm (wrN v k) (wrN w k)
  | 0, _ => h
  | k + 1, hk => by
    have e0 := wrN_ne h2 k (j := 0) (by omega) (by omega) (by omega) (by omega)
    have e2 := wrN_ne h2 k (j := 2) (by omega) (by omega) (by omega) (by omega)
    exact (Sm.wrN h h0 h2 k (by omega)).wr1 (by omega) (by omega) (by omega) (by omega)
theorem Sm.hrV (h : Sm v w) (h0 : v 0 ≤ 9) (h2 : v 2 ≤ 6) : Sm (hrV v) (hrV w) := by
  unfold Jvm.Pilot.CLadderSpringsLaw_law_r9216_a26200.hrV
  rw [← h.n2, ← h.n0, ← h.2.2.2.1]
  have e0 := mvN_ne (v := v) (v 2) (j := 0) (by omega) (by omega)
  have e2 := mvN_2 (v := v) (v 2)
  exact ((h.mvN _ (Nat.le_refl _)).wrN (by omega) (by omega) _ (by omega)).set (by omega) (by omega)
theorem Sm.hrs (h : Sm v w) (hw : Wv v) : ∀ n, v 3 + n ≤ 5000 → Sm (hrs v n) (hrs w n)
  | 0, _ => h
  | n + 1, hn => by
    have hne := (hrs_ne hw n (by omega)).1.nums
    exact (Sm.hrs h hw n (by omega)).hrV hne.1 hne.2.2.1
theorem Sm.refl (v : Nat → Nat) : Sm v v := ⟨rfl, rfl, rfl, rfl, rfl, rfl, fun _ _ => rfl, fun _ _ => ⟨rfl, rfl, rfl, rfl⟩⟩
/-! the line -/
theorem Sm.o0 (h : Sm v w) : o0 v = o0 w := by
  unfold Jvm.Pilot.CLadderSpringsLaw_law_r9216_a26200.o0
  rw [← h.n2]
  apply List.filter_congr
  intro g hg
  have hg2 := List.mem_range.mp hg
  unfold bo hld
  rw [(h.go hg2).2.2.2, h.2.2.2.2.1]
theorem Sm.liN (h : Sm v w) (o : List Nat) : ∀ k, Sm (liN v o k) (liN w o k)
  | 0 => h
  | k + 1 => by
    show Sm (sv (Jvm.Pilot.CLadderSpringsLaw_law_r9216_a26200.liN v o k) (27 + gD o k) (v 3 + k)) (sv (Jvm.Pilot.CLadderSpringsLaw_law_r9216_a26200.liN w o k) (27 + gD o k) (w 3 + k))
    rw [h.2.2.2.1]
    exact (Sm.liN h o k).set (by omega) (by omega)
/-- an order of goers: each is one of those there, none twice -/
def Od (v : Nat → Nat) (o : List Nat) : Prop := o.length ≤ 6 ∧ ∀ i, i < o.length → gD o i < v 2
theorem liN_Iv (h : Iv v) (h3 : v 3 ≤ 4000) {o : List Nat} (ho : Od v o) : ∀ k, k ≤ o.length → Iv (liN v o k) ∧ (∀ j, j < 27 ∨ 33 ≤ j → liN v o k j = v j)
  | 0, _ => ⟨h, fun _ _ => rfl⟩
  | k + 1, hk => by
    obtain ⟨i1, i2⟩ := liN_Iv h h3 ho k (by omega)
    have hg := ho.2 k (by omega)
    have hn := h.1.nums
    have e2 : liN v o k 2 = v 2 := i2 2 (by omega)
    have hW : Wv (liN v o (k + 1)) := i1.1.setG (g := gD o k) (by omega) (Or.inr (Or.inr ⟨rfl, by have := ho.1; omega⟩))
    have e : ∀ j, j < 27 ∨ 33 ≤ j → liN v o (k + 1) j = v j := fun j hj => by
      show sv _ _ _ j = _
      rw [sv_ne _ _ (by omega)]
      exact i2 j hj
    refine ⟨⟨hW, ?_, fun g hg2 => ?_⟩, e⟩
    · rw [e 0 (by omega)]; exact h.2.1
    · rw [e 2 (by omega)] at hg2
      have hx := h.2.2 g hg2
      have hgo := h.1.goer hg2
      unfold upw at hx ⊢
      rw [e (33 + g) (by omega), e 5 (by omega), e 0 (by omega)]
      refine ⟨hx.1, fun a b => ?_⟩
      rw [e (5 + v (33 + g)) (by omega)]
      exact hx.2 a b
theorem Sm.AO (h : Sm v w) (hI : Iv v) (h3 : v 3 ≤ 4000) {n : Nat} (hn : n ≤ 60) {o : List Nat} (ho : Od v o) : AO v n o = AO w n o := by
  obtain ⟨i1, i2⟩ := liN_Iv hI h3 ho _ (Nat.le_refl _)
  unfold Jvm.Pilot.CLadderSpringsLaw_law_r9216_a26200.AO
  rw [← h.n0, ((h.liN o o.length).hrs i1.1 n (by rw [i2 3 (by omega)]; omega)).whoA]
end
