/-! THE WORLD THAT IS MADE: which cell is made when; what it holds at the start -/
def pm (c : Nat) : Nat := if c < 14 then c else if c = 14 then 30 else if c < 18 then c + 16 else if c < 34 then c + 32 else if c < 49 then c + 240 else if c < 65 then c - 35 else if c < 81 then c - 31 else c - 15
def mp (j : Nat) : Nat := if j < 14 then j else if j < 30 then j + 35 else if j = 30 then 14 else if j < 34 then j - 16 else if j < 50 then j + 31 else if j < 66 then j - 32 else if j < 274 then j + 15 else j - 240
theorem mp_pm {c : Nat} (h : c < NC) : mp (pm c) = c ∧ pm c < NC := (by decide +kernel : ∀ c, c < 289 → mp (pm c) = c ∧ pm c < 289) c h
theorem pm_inj {c d : Nat} (hc : c < NC) (hd : d < NC) (h : pm c = pm d) : c = d := by
  rw [← (mp_pm hc).1, ← (mp_pm hd).1, h]
abbrev mkO (D : va_G) (A : Nat → ClassId) (b : Nat) : Om := (D, A, fun c => b + pm c)
theorem mkO_adj (D : va_G) (A : Nat → ClassId) (b : Nat) : adj (mkO D A b) := fun c d hc hd h => pm_inj hc hd (by have h : b + pm c = b + pm d := h; omega)
def M0 : Mem := (fun c k => if (18 ≤ c ∧ c < 34 ∧ c % 2 = 0 ∧ k = 2) ∨ (c = 36 ∧ k < 8) then -1 else 0, fun i => if i = 1 then 1 else 0, none)
theorem M0_0 {c : Nat} (h : c % 2 = 1 ∨ c < 18 ∨ 34 ≤ c) (h2 : c ≠ 36) (k : Nat) : M0.1 c k = 0 := by
  unfold M0
  exact if_neg (by omega)
section
variable (D : va_G) (A : Nat → ClassId) (b : Nat)
def FF (j : Nat) : va_E := cel (mkO D A b) M0 (mp j)
end
/-- an int[] of zeros -/
def ZA (Ω : Om) (e : va_E) (z : Nat) : Prop := ∃ f : Nat → Int32, e = .inl (Ω.2.1 0, z, .inl f) ∧ ∀ j, f j = 0
def wE (E : Nat → va_E) (i : Nat) (e : va_E) : Nat → va_E := fun j => if j = i then e else E j
theorem wE_eq {E : Nat → va_E} {i : Nat} {e : va_E} : wE E i e i = e := if_pos rfl
theorem wE_ne {E : Nat → va_E} {i j : Nat} {e : va_E} (h : j ≠ i) : wE E i e j = E j := if_neg h
theorem wE_2 {E : Nat → va_E} {i j : Nat} {e e2 : va_E} (h : j ≠ i) : wE E i e j = wE E i e2 j := by rw [wE_ne h, wE_ne h]
/-- a lake as it is made at place n, its kinds at kq -/
def LkAt (Ω : Om) (b kq : Nat) (E : Nat → va_E) (n : Nat) : Prop := E n = .inr (7, [.ref kq, .ref (b + (n + 1)), .ref (b + (n + 2)), .ref (b + (n + 3)), .ref (b + (n + 4)), .ref (b + (n + 5)), .ref (b + (n + 6)), .ref (b + (n + 7)), .int 0, .int 0, .int 0, .int 0, .int 0, .int 0]) ∧ ZA Ω (E (n + 1)) 10 ∧ ZA Ω (E (n + 2)) 10 ∧ ZA Ω (E (n + 3)) 6 ∧ ZA Ω (E (n + 4)) 6 ∧ ZA Ω (E (n + 5)) 6 ∧ ZA Ω (E (n + 6)) 6 ∧ ZA Ω (E (n + 7)) 6
abbrev lk0 : va_E := .inr (7, [.null, .null, .null, .null, .null, .null, .null, .null, .int 0, .int 0, .int 0, .int 0, .int 0, .int 0])
theorem LkAt.congr {Ω : Om} {b kq : Nat} {E E' : Nat → va_E} {n : Nat} (h : LkAt Ω b kq E n) (e : ∀ k, k < 8 → E' (n + k) = E (n + k)) : LkAt Ω b kq E' n := by
  have e0 := e 0 (by decide)
  rw [Nat.add_zero] at e0
  unfold LkAt
  rw [e0, e 1 (by decide), e 2 (by decide), e 3 (by decide), e 4 (by decide), e 5 (by decide), e 6 (by decide), e 7 (by decide)]
  exact h
section
variable {D : va_G} {A : Nat → ClassId} {b : Nat}
theorem cel_ZA {c z : Nat} (h : kd c = 12) (hl : ln c = z) (hc : c % 2 = 1 ∨ c < 18 ∨ 34 ≤ c) (h2 : c ≠ 36) : ZA (mkO D A b) (cel (mkO D A b) M0 c) z := ⟨M0.1 c, by rw [cel_12 h, hl], M0_0 hc h2⟩
theorem FF_ZA {j z : Nat} (h : kd (mp j) = 12) (hl : ln (mp j) = z) (hc : mp j % 2 = 1 ∨ mp j < 18 ∨ 34 ≤ mp j) (h2 : mp j ≠ 36) : ZA (mkO D A b) (FF D A b j) z := cel_ZA h hl hc h2
/-- a lake of the last world -/
theorem FF_lk {n c : Nat} (hc : Lk c) (hm : ∀ k, k < 8 → mp (n + k) = c + k ∧ pm (c + k) = n + k) : LkAt (mkO D A b) b (b + 8) (FF D A b) n := by
  have hc0 := hc
  obtain ⟨g1, g2, g3⟩ := hc0
  have m0 := (hm 0 (by decide)).1
  rw [Nat.add_zero, Nat.add_zero] at m0
  have za : ∀ k z, 1 ≤ k → k < 8 → ((1 ≤ k ∧ k ≤ 2 ∧ z = 10) ∨ (3 ≤ k ∧ k ≤ 7 ∧ z = 6)) → ZA (mkO D A b) (FF D A b (n + k)) z := by
    intro k z h1 h2 h3
    obtain ⟨a1, a2, a3, a4⟩ := ArL hc h3
    exact FF_ZA (by rw [(hm k h2).1]; exact a2) (by rw [(hm k h2).1]; exact a3) (by rw [(hm k h2).1]; omega) (by rw [(hm k h2).1]; omega)
  refine ⟨?_, za 1 10 (by decide) (by decide) (by decide), za 2 10 (by decide) (by decide) (by decide), za 3 6 (by decide) (by decide) (by decide), za 4 6 (by decide) (by decide) (by decide), za 5 6 (by decide) (by decide) (by decide), za 6 6 (by decide) (by decide) (by decide), za 7 6 (by decide) (by decide) (by decide)⟩
  unfold FF
  rw [m0, cel_ob hc.kdb (by decide)]
  have z : ∀ k, M0.1 c k = 0 := M0_0 (by omega) (by omega)
  show (Sum.inr (7, [va_rf ((rf c 0).map (mkO D A b).2.2), va_rf ((rf c 1).map (mkO D A b).2.2), va_rf ((rf c 2).map (mkO D A b).2.2), va_rf ((rf c 3).map (mkO D A b).2.2), va_rf ((rf c 4).map (mkO D A b).2.2), va_rf ((rf c 5).map (mkO D A b).2.2), va_rf ((rf c 6).map (mkO D A b).2.2), va_rf ((rf c 7).map (mkO D A b).2.2), .int (M0.1 c 8), .int (M0.1 c 9), .int (M0.1 c 10), .int (M0.1 c 11), .int (M0.1 c 12), .int (M0.1 c 13)]) : va_E) = _
  rw [z, z, z, z, z, z, hc.rf0, hc.rfb (k := 1) (by decide), hc.rfb (k := 2) (by decide), hc.rfb (k := 3) (by decide), hc.rfb (k := 4) (by decide), hc.rfb (k := 5) (by decide), hc.rfb (k := 6) (by decide), hc.rfb (k := 7) (by decide)]
  show (Sum.inr (7, [.ref (b + pm 8), .ref (b + pm (c + 1)), .ref (b + pm (c + 2)), .ref (b + pm (c + 3)), .ref (b + pm (c + 4)), .ref (b + pm (c + 5)), .ref (b + pm (c + 6)), .ref (b + pm (c + 7)), .int 0, .int 0, .int 0, .int 0, .int 0, .int 0]) : va_E) = _
  rw [(hm 1 (by decide)).2, (hm 2 (by decide)).2, (hm 3 (by decide)).2, (hm 4 (by decide)).2, (hm 5 (by decide)).2, (hm 6 (by decide)).2, (hm 7 (by decide)).2]
  rfl
theorem FF_lk14 : LkAt (mkO D A b) b (b + 8) (FF D A b) 14 := FF_lk (c := 49) ⟨by decide, by decide, by decide⟩ (by decide)
theorem FF_lk22 : LkAt (mkO D A b) b (b + 8) (FF D A b) 22 := FF_lk (c := 57) ⟨by decide, by decide, by decide⟩ (by decide)
theorem FF_lk34 : LkAt (mkO D A b) b (b + 8) (FF D A b) 34 := FF_lk (c := 65) ⟨by decide, by decide, by decide⟩ (by decide)
theorem FF_lk42 : LkAt (mkO D A b) b (b + 8) (FF D A b) 42 := FF_lk (c := 73) ⟨by decide, by decide, by decide⟩ (by decide)
theorem FF_lkA {i : Nat} (hi : i < 26) : LkAt (mkO D A b) b (b + 8) (FF D A b) (66 + 8 * i) := FF_lk (c := 81 + 8 * i) ⟨by omega, by omega, by omega⟩ (fun k hk => by
  unfold mp pm
  rw [if_neg (by omega), if_neg (by omega), if_neg (by omega), if_neg (by omega), if_neg (by omega), if_neg (by omega), if_pos (by omega), if_neg (by omega), if_neg (by omega), if_neg (by omega), if_neg (by omega), if_neg (by omega), if_neg (by omega), if_neg (by omega)]
  omega)
theorem FF_row {i : Nat} (hi : i < 8) : FF D A b (50 + 2 * i) = .inr (8, [.ref (b + (50 + 2 * i + 1)), .int 0, .int (-1)]) ∧ ZA (mkO D A b) (FF D A b (50 + 2 * i + 1)) 40 := by
  have h : i = 0 ∨ i = 1 ∨ i = 2 ∨ i = 3 ∨ i = 4 ∨ i = 5 ∨ i = 6 ∨ i = 7 := by omega
  rcases h with rfl | rfl | rfl | rfl | rfl | rfl | rfl | rfl <;> exact ⟨rfl, FF_ZA rfl rfl (by decide) (by decide)⟩
end
/-- the first k of a row of references -/
def pf (b s d k : Nat) : Nat → Option Nat := fun j => if j < k then some (b + (s + d * j)) else none
theorem pf_up {b s d k : Nat} : va_up (pf b s d k) k (some (b + (s + d * k))) = pf b s d (k + 1) := by
  funext j
  unfold va_up pf
  by_cases h : j = k
  · rw [if_pos h, if_pos (by omega), h]
  · rw [if_neg h]
    by_cases h2 : j < k
    · rw [if_pos h2, if_pos (by omega)]
    · rw [if_neg h2, if_neg (by omega)]
theorem pf_0 {b s d : Nat} : pf b s d 0 = fun _ => none := by
  funext j
  exact if_neg (by omega)
/-- the first k of the kinds -/
def kf (b k : Nat) : Nat → Option Nat := fun j => if 1 ≤ j ∧ j < k then some (b + (8 + j)) else none
theorem kf_up {b k : Nat} (hk : 1 ≤ k) : va_up (kf b k) k (some (b + (8 + k))) = kf b (k + 1) := by
  funext j
  unfold va_up kf
  by_cases h : j = k
  · rw [if_pos h, if_pos (by omega), h]
  · rw [if_neg h]
    by_cases h2 : 1 ≤ j ∧ j < k
    · rw [if_pos h2, if_pos (by omega)]
    · rw [if_neg h2, if_neg (by omega)]
theorem kf_0 {b : Nat} : kf b 0 = fun _ => none := by
  funext j
  exact if_neg (by omega)
theorem kf_1 {b : Nat} : va_up (kf b 0) 0 none = kf b 1 := by
  funext j
  unfold va_up kf
  by_cases h : j = 0
  · rw [if_pos h, if_neg (by omega)]
  · rw [if_neg h, if_neg (by omega), if_neg (by omega)]
abbrev aR (Ω : Om) (t z : Nat) (f : Nat → Option Nat) : va_E := .inl (Ω.2.1 t, z, .inr (.inr (.inr (.inr f))))
section
variable {D : va_G} {A : Nat → ClassId} {b : Nat}
theorem FF_1 : FF D A b 1 = aR (mkO D A b) 4 8 (pf b 50 2 8) := by
  show cel (mkO D A b) M0 1 = _
  rw [cel_16 rfl]
  show aR (mkO D A b) 4 8 (fun i => (rf 1 i).map (mkO D A b).2.2) = _
  congr 7
  funext j
  unfold pf rf
  rw [if_pos (by decide), if_neg (by decide), if_pos rfl]
  by_cases h : j < 8
  · rw [if_pos h, if_pos h]
    show some (b + pm (18 + 2 * j)) = _
    unfold pm
    rw [if_neg (by omega), if_neg (by omega), if_neg (by omega), if_pos (by omega)]
    congr 2
    omega
  · rw [if_neg h, if_neg h]; rfl
theorem FF_4 : FF D A b 4 = aR (mkO D A b) 3 24 (pf b 66 8 24) := by
  show cel (mkO D A b) M0 4 = _
  rw [cel_15 rfl]
  show aR (mkO D A b) 3 24 (fun i => (rf 4 i).map (mkO D A b).2.2) = _
  congr 7
  funext j
  unfold pf rf
  rw [if_pos (by decide), if_neg (by decide), if_neg (by decide), if_neg (by decide), if_pos rfl]
  by_cases h : j < 24
  · rw [if_pos h, if_pos h]
    show some (b + pm (81 + 8 * j)) = _
    unfold pm
    rw [if_neg (by omega), if_neg (by omega), if_neg (by omega), if_neg (by omega), if_neg (by omega), if_neg (by omega), if_neg (by omega)]
    congr 2
    omega
  · rw [if_neg h, if_neg h]; rfl
theorem FF_5 : FF D A b 5 = aR (mkO D A b) 3 2 (pf b 258 8 2) := by
  show cel (mkO D A b) M0 5 = _
  rw [cel_15 rfl]
  show aR (mkO D A b) 3 2 (fun i => (rf 5 i).map (mkO D A b).2.2) = _
  congr 7
  funext j
  unfold pf rf
  rw [if_pos (by decide), if_neg (by decide), if_neg (by decide), if_neg (by decide), if_neg (by decide), if_pos rfl]
  by_cases h : j < 2
  · rw [if_pos h, if_pos h]
    show some (b + pm (273 + 8 * j)) = _
    unfold pm
    rw [if_neg (by omega), if_neg (by omega), if_neg (by omega), if_neg (by omega), if_neg (by omega), if_neg (by omega), if_neg (by omega)]
    congr 2
    omega
  · rw [if_neg h, if_neg h]; rfl
theorem FF_8 : FF D A b 8 = aR (mkO D A b) 2 6 (kf b 6) := by
  show cel (mkO D A b) M0 8 = _
  rw [cel_14 rfl]
  show aR (mkO D A b) 2 6 (fun i => (rf 8 i).map (mkO D A b).2.2) = _
  congr 7
  funext j
  unfold kf rf
  rw [if_pos (by decide), if_neg (by decide), if_neg (by decide), if_neg (by decide), if_neg (by decide), if_neg (by decide), if_neg (by decide), if_pos rfl]
  by_cases h0 : j = 0
  · rw [if_pos h0, if_neg (by omega)]; rfl
  · rw [if_neg h0]
    by_cases h : j < 6
    · rw [if_pos h, if_pos (by omega)]
      show some (b + pm (8 + j)) = _
      unfold pm
      rw [if_pos (by omega)]
    · rw [if_neg h, if_neg (by omega)]; rfl
end
