/-! the line, as numbers; THE CLASS'S SIDE: its cells hold the state -/
def gD (o : List Nat) (i : Nat) : Nat := o.getD i 0
/-- the place (plus one) at which the next order begins to differ, of k .. 1; 0: there is no next order -/
def fI (o : List Nat) : Nat → Nat
  | 0 => 0
  | k + 1 => if gD o (k + 1) < gD o k then fI o k else k + 1
def fJ (o : List Nat) (i : Nat) : Nat → Nat
  | 0 => 0
  | k + 1 => if i < k + 1 ∧ gD o (k + 1) < gD o i then fJ o i k else k + 1
def swL (o : List Nat) (i j : Nat) : List Nat := (o.set i (gD o j)).set j (gD o i)
def rvN : Nat → List Nat → Nat → Nat → List Nat
  | 0, o, _, _ => o
  | f + 1, o, a, b => if a < b then rvN f (swL o a b) (a + 1) (b - 1) else o
def nxL (o : List Nat) : Option (List Nat) := if fI o (o.length - 1) = 0 then none else some (rvN 6 (swL o (fI o (o.length - 1) - 1) (fJ o (fI o (o.length - 1) - 1) (o.length - 1))) (fI o (o.length - 1)) (o.length - 1))
/-- those in line begin one after another -/
def liN (v : Nat → Nat) (o : List Nat) : Nat → Nat → Nat
  | 0 => v
  | k + 1 => sv (liN v o k) (27 + gD o k) (v 3 + k)
def AO (v : Nat → Nat) (n : Nat) (o : List Nat) : Nat := pop (whoA (hrs (liN v o o.length) n) (v 0 + 1))
def bo (v : Nat → Nat) (g : Nat) : Bool := decide (v (33 + g) = 0) && !hld v g
def o0 (v : Nat → Nat) : List Nat := (List.range (v 2)).filter (bo v)
def lnU (v : Nat → Nat) (n : Nat) (acc : Option (Nat × List Nat)) (o : List Nat) : Option (Nat × List Nat) := match acc with
  | none => some (AO v n o, o)
  | some q => if q.1 < AO v n o then some (AO v n o, o) else some q
def lnS (v : Nat → Nat) (n : Nat) : Nat → List Nat → Option (Nat × List Nat) → Option (Nat × List Nat)
  | 0, _, acc => acc
  | f + 1, o, acc => match nxL o with
    | none => lnU v n acc o
    | some o2 => lnS v n f o2 (lnU v n acc o)
def lineR (v : Nat → Nat) (n : Nat) : Option (Nat × List Nat) := lnS v n 720 (o0 v) none
def LineC (M : Mem) : Prop := M.1 14 2 = nI 0 ∨ ∃ (w : Nat → Nat) (n m : Nat) (b : List Nat), LkR M 73 w ∧ Iv w ∧ w 3 ≤ 999 ∧ M.1 14 2 = nI n ∧ 1 ≤ n ∧ n ≤ 60 ∧ lineR w n = some (m, b) ∧ b.length = (o0 w).length ∧ M.1 14 5 = nI b.length ∧ M.1 14 6 = nI m ∧ ∀ i, i < b.length → M.1 16 i = nI (gD b i)
def IC (M : Mem) (σ : Sg) : Prop := RowsC M σ ∧ M.1 0 12 = σ.st ∧ TapeC M σ ∧ M.1 0 11 = σ.fl ∧ LkR M 49 σ.v ∧ ActsC M σ ∧ ImgC M σ ∧ TrC M σ ∧ LineC M
/-- the reference's cells stay -/
def FrM (M M' : Mem) : Prop := ∀ c, 34 ≤ c → c < 49 → M'.1 c = M.1 c
theorem LkR.same {M M' : Mem} {b : Nat} {v : Nat → Nat} (h : LkR M b v) (e : ∀ k, k < 8 → M'.1 (b + k) = M.1 (b + k)) : LkR M' b v := by
  have e0 := e 0 (by decide); have e2 := e 2 (by decide); have e3 := e 3 (by decide); have e4 := e 4 (by decide); have e5 := e 5 (by decide); have e6 := e 6 (by decide); have e7 := e 7 (by decide)
  rw [Nat.add_zero] at e0
  unfold LkR
  rw [e0, e2, e3, e4, e5, e6, e7]
  exact h
section
variable {M M' : Mem} {σ : Sg}
theorem IC.rows (h : IC M σ) : RowsC M σ := h.1
theorem IC.st (h : IC M σ) : M.1 0 12 = σ.st := h.2.1
theorem IC.tape (h : IC M σ) : TapeC M σ := h.2.2.1
theorem IC.fl (h : IC M σ) : M.1 0 11 = σ.fl := h.2.2.2.1
theorem IC.lake (h : IC M σ) : LkR M 49 σ.v := h.2.2.2.2.1
theorem IC.acts (h : IC M σ) : ActsC M σ := h.2.2.2.2.2.1
theorem IC.img (h : IC M σ) : ImgC M σ := h.2.2.2.2.2.2.1
theorem IC.tr (h : IC M σ) : TrC M σ := h.2.2.2.2.2.2.2.1
theorem IC.line (h : IC M σ) : LineC M := h.2.2.2.2.2.2.2.2
theorem RowsC.keep (h : RowsC M σ) (e : ∀ c, 18 ≤ c → c < 34 → M'.1 c = M.1 c) : RowsC M' σ := by
  intro r hr
  obtain ⟨h1, h2, h3⟩ := h r hr
  rw [e (18 + 2 * r) (by omega) (by omega)]
  refine ⟨h1, h2, fun j hj => ?_⟩
  rw [e (19 + 2 * r) (by omega) (by omega)]
  exact h3 j hj
theorem TapeC.keep (h : TapeC M σ) (e : ∀ c, 2 ≤ c → c < 4 → M'.1 c = M.1 c) : TapeC M' σ := by
  unfold TapeC
  rw [e 2 (by omega) (by omega), e 3 (by omega) (by omega)]; exact h
theorem TrC.keep (h : TrC M σ) (e : ∀ c, 6 ≤ c → c < 8 → M'.1 c = M.1 c) : TrC M' σ := by
  unfold TrC
  rw [e 6 (by omega) (by omega), e 7 (by omega) (by omega)]; exact h
theorem ActsC.keep (h : ActsC M σ) (e8 : M'.1 0 8 = M.1 0 8) (e9 : M'.1 0 9 = M.1 0 9) (e : ∀ c, 81 ≤ c → c < 273 → M'.1 c = M.1 c) : ActsC M' σ := by
  obtain ⟨o, h1, h2, h3, h4⟩ := h
  refine ⟨o, h1, e8.trans h2, e9.trans h3, fun i hi => ?_⟩
  have hm : (o + i) % 24 < 24 := Nat.mod_lt _ (by decide)
  exact (h4 i hi).same (fun k hk => e _ (by omega) (by omega))
theorem ImgC.keep (h : ImgC M σ) (e10 : M'.1 0 10 = M.1 0 10) (e : ∀ c, 273 ≤ c → c < 289 → M'.1 c = M.1 c) : ImgC M' σ := by
  obtain ⟨k, h1, h2, h3⟩ := h
  refine ⟨k, h1, e10.trans h2, fun i hi => ⟨(h3 i hi).1, fun w hw => ?_⟩⟩
  exact ((h3 i hi).2 w hw).same (fun k hk => e _ (by omega) (by omega))
theorem LineC.keep (h : LineC M) (e2 : M'.1 14 2 = M.1 14 2) (e5 : M'.1 14 5 = M.1 14 5) (e6 : M'.1 14 6 = M.1 14 6) (e16 : M'.1 16 = M.1 16) (e : ∀ c, 73 ≤ c → c < 81 → M'.1 c = M.1 c) : LineC M' := by
  rcases h with h | ⟨w, n, m, b, a1, a2, a3, a4, a5, a6, a7, a8, a9, a10, a11⟩
  · exact Or.inl (e2.trans h)
  · refine Or.inr ⟨w, n, m, b, a1.same (fun k hk => e _ (by omega) (by omega)), a2, a3, e2.trans a4, a5, a6, a7, a8, e5.trans a9, e6.trans a10, fun i hi => by rw [e16]; exact a11 i hi⟩
/-- the state stays when none of its cells has changed -/
theorem IC.keep (h : IC M σ) (e : ∀ c, ¬ (c = 15 ∨ c = 17 ∨ (34 ≤ c ∧ c < 49) ∨ (57 ≤ c ∧ c < 73)) → M'.1 c = M.1 c) : IC M' σ := by
  obtain ⟨h1, h2, h3, h4, h5, h6, h7, h8, h9⟩ := h
  have e0 := e 0 (by omega)
  have e14 := e 14 (by omega)
  exact ⟨h1.keep (fun c a b => e c (by omega)), by rw [e0]; exact h2, h3.keep (fun c a b => e c (by omega)), by rw [e0]; exact h4, h5.same (fun k hk => e _ (by omega)), h6.keep (by rw [e0]) (by rw [e0]) (fun c a b => e c (by omega)), h7.keep (by rw [e0]) (fun c a b => e c (by omega)), h8.keep (fun c a b => e c (by omega)), h9.keep (by rw [e14]) (by rw [e14]) (by rw [e14]) (e 16 (by omega)) (fun c a b => e c (by omega))⟩
theorem IC.fr65 (h : IC M σ) (hF : Fr 65 M M') : IC M' σ ∧ FrM M M' := ⟨h.keep (fun c hc => hF.2 c (by omega)), fun c a b => hF.2 c (by omega)⟩
theorem FrM.rf : FrM M M := fun _ _ _ => rfl
theorem FrM.tr {M1 : Mem} (h : FrM M M1) (h2 : FrM M1 M') : FrM M M' := fun c a b => (h2 c a b).trans (h c a b)
theorem FrM.up (h : FrM M M') {d k : Nat} {x : Int32} (hd : d < 34 ∨ 49 ≤ d) : FrM M (up1 M' d k x) := fun c a b => by rw [up1_ne _ _ _ (by omega)]; exact h c a b
/-- the finding is set -/
theorem IC.setSt (h : IC M σ) (x : Int32) : IC (up1 M 0 12 x) (σ.uSt x) := by
  obtain ⟨h1, h2, h3, h4, h5, h6, h7, h8, h9⟩ := h
  have e : ∀ c, c ≠ 0 → (up1 M 0 12 x).1 c = M.1 c := fun c hc => up1_ne M _ _ hc
  have e0 : ∀ k, k ≠ 12 → (up1 M 0 12 x).1 0 k = M.1 0 k := fun k hk => by rw [up1_at, if_neg (by omega)]
  refine ⟨RowsC.keep (σ := σ) h1 (fun c a b => e c (by omega)), by rw [up1_at, if_pos ⟨rfl, rfl⟩]; rfl, TapeC.keep (σ := σ) h3 (fun c a b => e c (by omega)), (e0 11 (by decide)).trans h4, h5.same (fun k hk => e _ (by omega)), ActsC.keep (σ := σ) h6 (e0 8 (by decide)) (e0 9 (by decide)) (fun c a b => e c (by omega)), ImgC.keep (σ := σ) h7 (e0 10 (by decide)) (fun c a b => e c (by omega)), TrC.keep (σ := σ) h8 (fun c a b => e c (by omega)), h9.keep (by rw [e 14 (by omega)]) (by rw [e 14 (by omega)]) (by rw [e 14 (by omega)]) (e 16 (by omega)) (fun c a b => e c (by omega))⟩
/-- what is told changes nothing of the state -/
theorem IC.told (h : IC M σ) (r : Nat) (i n g : Int32) : IC (toldM M r i n g) σ ∧ FrM M (toldM M r i n g) := by
  obtain ⟨h1, h2, h3, h4, h5, h6, h7, h8, h9⟩ := h
  have e : ∀ c, c ≠ 14 → (toldM M r i n g).1 c = M.1 c := fun c hc => by unfold toldM; rw [up1_ne _ _ _ hc, up1_ne _ _ _ hc, up1_ne _ _ _ hc]
  have e14 : ∀ k, k < 11 → (toldM M r i n g).1 14 k = M.1 14 k := fun k hk => by unfold toldM; rw [up1_at, if_neg (by omega), up1_at, if_neg (by omega), up1_at, if_neg (by omega)]
  have e0 := e 0 (by omega)
  exact ⟨⟨h1.keep (fun c a b => e c (by omega)), by rw [e0]; exact h2, h3.keep (fun c a b => e c (by omega)), by rw [e0]; exact h4, h5.same (fun k hk => e _ (by omega)), h6.keep (by rw [e0]) (by rw [e0]) (fun c a b => e c (by omega)), h7.keep (by rw [e0]) (fun c a b => e c (by omega)), h8.keep (fun c a b => e c (by omega)), h9.keep (e14 2 (by decide)) (e14 5 (by decide)) (e14 6 (by decide)) (e 16 (by omega)) (fun c a b => e c (by omega))⟩, fun c a b => e c (by omega)⟩
end
theorem sw_ne {x : Int32} {n i : Nat} (h : x.toInt < 0 ∨ (n : Int) < x.toInt) (hi : i ≤ n) (hn : n < 100) : ¬ x = nI i := by
  intro e
  rw [e, nI_toInt (by omega)] at h
  omega
theorem sw_all (x : Int32) {n : Nat} (hn : n < 100) : (∃ i, i ≤ n ∧ x = nI i) ∨ (x.toInt < 0 ∨ (n : Int) < x.toInt) := by
  by_cases h : inR x (n + 1) = true
  · obtain ⟨i, h1, h2⟩ := inR_nI h (by omega)
    exact Or.inl ⟨i, by omega, h2⟩
  · simp [inR] at h
    omega
theorem sw2 (x : Int32) : x = nI 0 ∨ x = nI 1 ∨ x = nI 2 ∨ (x.toInt < 0 ∨ 2 < x.toInt) := by
  rcases sw_all x (n := 2) (by decide) with ⟨i, h1, h2⟩ | h
  · have : i = 0 ∨ i = 1 ∨ i = 2 := by omega
    rcases this with rfl | rfl | rfl <;> simp [h2]
  · exact Or.inr (Or.inr (Or.inr h))
theorem sw4 (x : Int32) : x = nI 0 ∨ x = nI 1 ∨ x = nI 2 ∨ x = nI 3 ∨ x = nI 4 ∨ (x.toInt < 0 ∨ 4 < x.toInt) := by
  rcases sw_all x (n := 4) (by decide) with ⟨i, h1, h2⟩ | h
  · have : i = 0 ∨ i = 1 ∨ i = 2 ∨ i = 3 ∨ i = 4 := by omega
    rcases this with rfl | rfl | rfl | rfl | rfl <;> simp [h2]
  · exact Or.inr (Or.inr (Or.inr (Or.inr (Or.inr h))))
theorem sw6 (x : Int32) : x = nI 0 ∨ x = nI 1 ∨ x = nI 2 ∨ x = nI 3 ∨ x = nI 4 ∨ x = nI 5 ∨ x = nI 6 ∨ (x.toInt < 0 ∨ 6 < x.toInt) := by
  rcases sw_all x (n := 6) (by decide) with ⟨i, h1, h2⟩ | h
  · have : i = 0 ∨ i = 1 ∨ i = 2 ∨ i = 3 ∨ i = 4 ∨ i = 5 ∨ i = 6 := by omega
    rcases this with rfl | rfl | rfl | rfl | rfl | rfl | rfl <;> simp [h2]
  · exact Or.inr (Or.inr (Or.inr (Or.inr (Or.inr (Or.inr (Or.inr h))))))
theorem sw7 (x : Int32) : x = nI 0 ∨ x = nI 1 ∨ x = nI 2 ∨ x = nI 3 ∨ x = nI 4 ∨ x = nI 5 ∨ x = nI 6 ∨ x = nI 7 ∨ (x.toInt < 0 ∨ 7 < x.toInt) := by
  rcases sw_all x (n := 7) (by decide) with ⟨i, h1, h2⟩ | h
  · have : i = 0 ∨ i = 1 ∨ i = 2 ∨ i = 3 ∨ i = 4 ∨ i = 5 ∨ i = 6 ∨ i = 7 := by omega
    rcases this with rfl | rfl | rfl | rfl | rfl | rfl | rfl | rfl <;> simp [h2]
  · exact Or.inr (Or.inr (Or.inr (Or.inr (Or.inr (Or.inr (Or.inr (Or.inr h)))))))
