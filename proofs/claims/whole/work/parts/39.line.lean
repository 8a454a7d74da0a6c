/-! FORETOLD: the line (laid by gen_line.py) -/
theorem gD_set (o : List Nat) (i j x : Nat) (hi : i < o.length) : gD (o.set i x) j = if j = i then x else gD o j := by
  unfold gD
  rw [List.getD_eq_getElem?_getD, List.getD_eq_getElem?_getD]
  by_cases e : j = i
  · subst e
    rw [List.getElem?_set_self hi, if_pos rfl]
    rfl
  · rw [List.getElem?_set_ne (Ne.symm e), if_neg e]
theorem swL_len (o : List Nat) (i j : Nat) : (swL o i j).length = o.length := by unfold swL; simp
theorem swL_gD (o : List Nat) {i j : Nat} (k : Nat) (hi : i < o.length) (hj : j < o.length) : gD (swL o i j) k = if k = j then gD o i else if k = i then gD o j else gD o k := by
  unfold swL
  rw [gD_set _ _ _ _ (by simp; exact hj), gD_set _ _ _ _ hi]
theorem rvN_len : ∀ (f : Nat) (o : List Nat) (a b : Nat), (rvN f o a b).length = o.length
  | 0, _, _, _ => rfl
  | f + 1, o, a, b => by
    unfold rvN
    split
    · rw [rvN_len f, swL_len]
    · rfl
/-- every place of an order holds a number below N -/
def Bl (N : Nat) (o : List Nat) : Prop := ∀ i, i < o.length → gD o i < N
theorem Bl.sw {N : Nat} {o : List Nat} (h : Bl N o) {i j : Nat} (hi : i < o.length) (hj : j < o.length) : Bl N (swL o i j) := by
  intro k hk
  rw [swL_len] at hk
  rw [swL_gD o k hi hj]
  split
  · exact h _ hi
  · split
    · exact h _ hj
    · exact h _ hk
theorem Bl.rv {N : Nat} : ∀ (f : Nat) {o : List Nat} (a b : Nat), Bl N o → b < o.length → Bl N (rvN f o a b)
  | 0, _, _, _, h, _ => h
  | f + 1, o, a, b, h, hb => by
    unfold rvN
    split
    · exact Bl.rv f _ _ (h.sw (by omega) hb) (by rw [swL_len]; omega)
    · exact h
theorem fI_le (o : List Nat) : ∀ k, fI o k ≤ k
  | 0 => Nat.le_refl _
  | k + 1 => by
    unfold fI
    split
    · have := fI_le o k; omega
    · omega
theorem fJ_le (o : List Nat) (i : Nat) : ∀ k, fJ o i k ≤ k
  | 0 => Nat.le_refl _
  | k + 1 => by
    unfold fJ
    split
    · have := fJ_le o i k; omega
    · omega
theorem nxL_ok {N : Nat} {o o2 : List Nat} (h : Bl N o) (e : nxL o = some o2) : o2.length = o.length ∧ Bl N o2 := by
  unfold nxL at e
  split at e
  · cases e
  · rename_i hz
    have h1 := fI_le o (o.length - 1)
    have h2 := fJ_le o (fI o (o.length - 1) - 1) (o.length - 1)
    cases e
    refine ⟨by rw [rvN_len, swL_len], Bl.rv _ _ _ (h.sw (by omega) (by omega)) (by rw [swL_len]; omega)⟩
theorem o0_Od {v : Nat → Nat} (hw : Wv v) : Od v (o0 v) := by
  refine ⟨?_, fun i hi => ?_⟩
  · have := List.length_filter_le (bo v) (List.range (v 2))
    rw [List.length_range] at this
    have := hw.nums
    unfold o0
    omega
  · have hm : gD (o0 v) i ∈ o0 v := by
      unfold gD
      rw [List.getD_eq_getElem?_getD, List.getElem?_eq_getElem hi]
      exact List.getElem_mem hi
    unfold o0 at hm
    exact List.mem_range.mp (List.mem_filter.mp hm).1
theorem Od.nx {v : Nat → Nat} {o o2 : List Nat} (h : Od v o) (e : nxL o = some o2) : Od v o2 ∧ o2.length = o.length := by
  obtain ⟨a, b⟩ := nxL_ok (N := v 2) h.2 e
  exact ⟨⟨by rw [a]; exact h.1, b⟩, a⟩
theorem lnS_sm {v w : Nat → Nat} (h : Sm v w) (hI : Iv v) (h3 : v 3 ≤ 4000) {n : Nat} (hn : n ≤ 60) : ∀ (f : Nat) (o : List Nat) (acc : Option (Nat × List Nat)), Od v o → lnS v n f o acc = lnS w n f o acc
  | 0, _, _, _ => rfl
  | f + 1, o, acc, ho => by
    have e := h.AO hI h3 hn ho
    have eu : lnU v n acc o = lnU w n acc o := by unfold lnU; rw [e]
    unfold lnS
    rw [eu]
    cases hx : nxL o with
    | none => rfl
    | some o2 => exact lnS_sm h hI h3 hn f o2 _ (ho.nx hx).1
theorem lineR_sm {v w : Nat → Nat} (h : Sm v w) (hI : Iv v) (h3 : v 3 ≤ 4000) {n : Nat} (hn : n ≤ 60) : lineR v n = lineR w n := by
  unfold lineR
  rw [← h.o0]
  exact lnS_sm h hI h3 hn _ _ _ (o0_Od hI.1)
/-! how many may be hoped for -/
theorem cntN_ext {f g : Nat → Bool} {m : Nat} : ∀ (n : Nat), m ≤ n → (∀ i, i < m → f i = g i) → (∀ i, m ≤ i → i < n → f i = false) → cntN f n = cntN g m
  | 0, h, h1, h2 => by obtain rfl : m = 0 := by omega
                       rfl
  | n + 1, h, h1, h2 => by
    by_cases e : m = n + 1
    · subst e
      show (if f n = true then _ else _) = (if g n = true then _ else _)
      rw [h1 n (by omega), cntN_ext (m := n) n (Nat.le_refl _) (fun i hi => h1 i (by omega)) (fun i a b => by omega)]
    · show (if f n = true then _ else _) = _
      rw [if_neg (by rw [h2 n (by omega) (by omega)]; decide)]
      exact cntN_ext n (by omega) h1 (fun i a b => h2 i a (by omega))
theorem pop_who {v : Nat → Nat} (hn : v 2 ≤ 6) (q : Nat) : pop (whoA v q) = cntN (fun g => decide (v (33 + g) = q)) (v 2) := by
  unfold pop
  refine cntN_ext 32 (by omega) (fun i hi => ?_) (fun i a b => ?_)
  · rw [whoA_bit]; simp [hi]
  · rw [whoA_bit]; simp; omega
theorem cntN_or {f g h : Nat → Bool} : ∀ (n : Nat), (∀ i, i < n → f i = true → g i = true ∨ h i = true) → cntN f n ≤ cntN g n + cntN h n
  | 0, _ => Nat.le_refl _
  | n + 1, hh => by
    have i := cntN_or n (fun i hi => hh i (by omega))
    have z := hh n (by omega)
    simp only [cntN]
    by_cases e1 : f n = true
    · rcases z e1 with e2 | e2
      · rw [if_pos e1, if_pos e2]; split <;> omega
      · rw [if_pos e1, if_pos e2]; split <;> omega
    · rw [if_neg e1]; split <;> split <;> omega
theorem abv_at {v : Nat → Nat} (hw : Wv v) {g : Nat} (hg : g < v 2) : abv v g = decide (v (33 + g) = v 0 + 1) := by
  have := hw.goer hg
  unfold abv
  exact decide_eq_decide.mpr (by omega)
theorem pop_abv {v : Nat → Nat} (hw : Wv v) : pop (whoA v (v 0 + 1)) = cntN (abv v) (v 2) := by
  rw [pop_who hw.nums.2.2.1]
  exact cntN_ext _ (Nat.le_refl _) (fun i hi => (abv_at hw hi).symm) (fun i a b => by omega)
theorem AO_le {v : Nat → Nat} (hI : Iv v) (h3 : v 3 ≤ 4000) {n : Nat} (hn : n ≤ 60) {o : List Nat} (ho : Od v o) : AO v n o ≤ pop (whoA v (v 0 + 1)) + cntN (mayR v) (v 2) := by
  obtain ⟨i1, i2⟩ := liN_Iv hI h3 ho _ (Nat.le_refl _)
  have hh := hrs_ne i1.1 n (by rw [i2 3 (by omega)]; omega)
  unfold AO
  have e0 : hrs (liN v o o.length) n 0 = v 0 := by rw [hh.2.1 0 (by omega) (by omega), i2 0 (by omega)]
  have e2 : hrs (liN v o o.length) n 2 = v 2 := by rw [hh.2.1 2 (by omega) (by omega), i2 2 (by omega)]
  rw [← e0, pop_abv hh.1, e2, e0, pop_abv hI.1]
  refine cntN_or _ (fun g hg ha => ?_)
  have hn2 := hI.1.nums
  by_cases hb : abv (liN v o o.length) g = true
  · left
    unfold abv at hb ⊢
    rw [i2 0 (by omega), i2 (33 + g) (by omega)] at hb
    exact hb
  · right
    by_cases hm : mayR (liN v o o.length) g = true
    · unfold mayR hld at hm ⊢
      rw [gap_same (v := v) (w := liN v o o.length) (i2 0 (by omega)) (fun r hr => i2 _ (by omega)), i2 0 (by omega), i2 4 (by omega), i2 (33 + g) (by omega), i2 (15 + g) (by omega)] at hm
      exact hm
    · have := never i1 (g := g) (by rw [i2 2 (by omega)]; exact hg) (by simpa using hm) (by simpa using hb) (n := n) (by rw [i2 3 (by omega)]; omega)
      rw [this] at ha
      cases ha
theorem lnS_top {v : Nat → Nat} (hI : Iv v) (h3 : v 3 ≤ 4000) {n : Nat} (hn : n ≤ 60) {q : Nat × List Nat} (hq : pop (whoA v (v 0 + 1)) + cntN (mayR v) (v 2) ≤ q.1) : ∀ (f : Nat) (o : List Nat), Od v o → lnS v n f o (some q) = some q
  | 0, _, _ => rfl
  | f + 1, o, ho => by
    have h1 := AO_le hI h3 hn ho
    have eu : lnU v n (some q) o = some q := by unfold lnU; simp only; rw [if_neg (by omega)]
    unfold lnS
    rw [eu]
    cases hx : nxL o with
    | none => rfl
    | some o2 => exact lnS_top hI h3 hn hq f o2 (ho.nx hx).1
/-- no one may rise any more: who is above is above -/
theorem AO_stop {v : Nat → Nat} (hI : Iv v) {h n : Nat} (hh : h ≤ n) (h3 : v 3 + n ≤ 5000) (hz : cntN (mayR (hrs v h)) (v 2) = 0) : pop (whoA (hrs v n) (v 0 + 1)) = pop (whoA (hrs v h) (v 0 + 1)) := by
  have a1 := hrs_ne hI.1 n (by omega)
  have a2 := hrs_ne hI.1 h (by omega)
  have b1 : hrs v n 0 = v 0 := a1.2.1 0 (by omega) (by omega)
  have b2 : hrs v h 0 = v 0 := a2.2.1 0 (by omega) (by omega)
  have c1 : hrs v n 2 = v 2 := a1.2.1 2 (by omega) (by omega)
  have c2 : hrs v h 2 = v 2 := a2.2.1 2 (by omega) (by omega)
  have p1 := pop_abv a1.1
  have p2 := pop_abv a2.1
  rw [b1, c1] at p1
  rw [b2, c2] at p2
  rw [p1, p2]
  refine cntN_ext _ (Nat.le_refl _) (fun g hg => ?_) (fun i a b => by omega)
  have hm : mayR (hrs v h) g = false := by
    by_cases e : mayR (hrs v h) g = true
    · have := cntN_lt hg e
      omega
    · simpa using e
  have hI2 := hrs_Iv hI h (by omega)
  cases ha : abv (hrs v h) g with
  | true =>
    have := abv_hrs a2.1 (g := g) (by omega) ha (n - h) (by rw [a2.2.2]; omega)
    rw [← hrs_add, show h + (n - h) = n by omega] at this
    exact this
  | false =>
    have := never hI2 (g := g) (by omega) hm ha (n := n - h) (by rw [a2.2.2]; omega)
    rw [← hrs_add, show h + (n - h) = n by omega] at this
    exact this
def R_line (v : Nat → Nat) (n k : Int32) : Int32 := if v 0 = 0 then -1000002 else if inB n 1 60 = true ∧ -1 ≤ k.toInt then (match lineR v (tN n) with
  | none => 0
  | some q => if k = -1 then nI q.1 else if inR k q.2.length = true then nI (gD q.2 (tN k)) else -1000000) else -1000001
/-- the order in the class's cells -/
def OdR (M : Mem) (o : List Nat) : Prop := M.1 14 5 = nI o.length ∧ ∀ i, i < o.length → M.1 15 i = nI (gD o i)
def F15 (M M' : Mem) : Prop := M'.2 = M.2 ∧ ∀ c, c ≠ 15 → M'.1 c = M.1 c
theorem F15.rf {M : Mem} : F15 M M := ⟨rfl, fun _ _ => rfl⟩
theorem F15.tr {M M1 M2 : Mem} (h : F15 M M1) (h2 : F15 M1 M2) : F15 M M2 := ⟨h2.1.trans h.1, fun c a => (h2.2 c a).trans (h.2 c a)⟩
theorem fI_step (o : List Nat) (k : Nat) : fI o (k + 1) = if gD o (k + 1) < gD o k then fI o k else k + 1 := rfl
theorem fJ_step (o : List Nat) (i k : Nat) : fJ o i (k + 1) = if i < k + 1 ∧ gD o (k + 1) < gD o i then fJ o i k else k + 1 := rfl
theorem rvN_step (f : Nat) (o : List Nat) (a b : Nat) : rvN (f + 1) o a b = if a < b then rvN f (swL o a b) (a + 1) (b - 1) else o := rfl

set_option maxRecDepth 100000 in
set_option maxHeartbeats 4000000 in
theorem c_isSameAs {Ω : Om} {l : Launch} {M : Mem} {a b : Nat} (ha : Lk a) (hb : Lk b) {v w : Nat → Nat} (hRa : LkR M a w) (hRb : LkR M b v) (hwa : Wv w) (hwb : Wv v) : Ct Ω l yX8_isSameAs cX8_isSameAs 3 1 (some .boolean) [.ref (Ω.2.2 a), .ref (Ω.2.2 b)] M (fun ro M' => (∃ t : Bool, ro = some (.int (bI t)) ∧ (t = true → Sm w v)) ∧ M = M') := by
  have hL49 : Lk 49 := Lk49
  have hL57 : Lk 57 := Lk57
  have hna := hwa.nums
  have hnb := hwb.nums
  have hda := hwa.dn64
  have hdb := hwb.dn64
  refine ct_of (by decide) (Nat.le_of_ble_eq_true rfl) ?_
  intro p e R s m args below meth c
  refine x_aload_n dX8_isSameAs_0 rfl ?_
  refine g_X8_37 dX8_isSameAs_1 ?_
  rw [hRa.rungs]
  refine x_aload_n dX8_isSameAs_4 rfl ?_
  refine g_X8_37 dX8_isSameAs_5 ?_
  rw [hRb.rungs]
  refine y_icmp_ne 66 dX8_isSameAs_8 (by omega) (by omega) (fun h_8 => ?_) (fun h_8 => ?_)
  · refine y_iconst (a := 0) dX8_isSameAs_66 rfl ?_
    first | refine z_iret dX8_isSameAs_67 ?_ | refine z_iret0 dX8_isSameAs_67 ?_ | refine z_iret1 dX8_isSameAs_67 ?_
    exact ⟨⟨false, rfl, fun z => by cases z⟩, rfl⟩
  · refine x_aload_n dX8_isSameAs_11 rfl ?_
    refine g_X8_41 dX8_isSameAs_12 ?_
    rw [hRa.rope]
    refine x_aload_n dX8_isSameAs_15 rfl ?_
    refine g_X8_41 dX8_isSameAs_16 ?_
    rw [hRb.rope]
    refine y_icmp_ne 66 dX8_isSameAs_19 (by omega) (by omega) (fun h_19 => ?_) (fun h_19 => ?_)
    · refine y_iconst (a := 0) dX8_isSameAs_66 rfl ?_
      first | refine z_iret dX8_isSameAs_67 ?_ | refine z_iret0 dX8_isSameAs_67 ?_ | refine z_iret1 dX8_isSameAs_67 ?_
      exact ⟨⟨false, rfl, fun z => by cases z⟩, rfl⟩
    · refine x_aload_n dX8_isSameAs_22 rfl ?_
      refine g_X8_44 dX8_isSameAs_23 ?_
      rw [hRa.goers]
      refine x_aload_n dX8_isSameAs_26 rfl ?_
      refine g_X8_44 dX8_isSameAs_27 ?_
      rw [hRb.goers]
      refine y_icmp_ne 66 dX8_isSameAs_30 (by omega) (by omega) (fun h_30 => ?_) (fun h_30 => ?_)
      · refine y_iconst (a := 0) dX8_isSameAs_66 rfl ?_
        first | refine z_iret dX8_isSameAs_67 ?_ | refine z_iret0 dX8_isSameAs_67 ?_ | refine z_iret1 dX8_isSameAs_67 ?_
        exact ⟨⟨false, rfl, fun z => by cases z⟩, rfl⟩
      · refine x_aload_n dX8_isSameAs_33 rfl ?_
        refine g_X8_47 dX8_isSameAs_34 ?_
        rw [hRa.hour]
        refine x_aload_n dX8_isSameAs_37 rfl ?_
        refine g_X8_47 dX8_isSameAs_38 ?_
        rw [hRb.hour]
        refine y_icmp_ne 66 dX8_isSameAs_41 (by omega) (by omega) (fun h_41 => ?_) (fun h_41 => ?_)
        · refine y_iconst (a := 0) dX8_isSameAs_66 rfl ?_
          first | refine z_iret dX8_isSameAs_67 ?_ | refine z_iret0 dX8_isSameAs_67 ?_ | refine z_iret1 dX8_isSameAs_67 ?_
          exact ⟨⟨false, rfl, fun z => by cases z⟩, rfl⟩
        · refine x_aload_n dX8_isSameAs_44 rfl ?_
          refine g_X8_50 dX8_isSameAs_45 ?_
          rw [hRa.held]
          refine x_aload_n dX8_isSameAs_48 rfl ?_
          refine g_X8_50 dX8_isSameAs_49 ?_
          rw [hRb.held]
          refine y_icmp_ne 66 dX8_isSameAs_52 (by omega) (by omega) (fun h_52 => ?_) (fun h_52 => ?_)
          · refine y_iconst (a := 0) dX8_isSameAs_66 rfl ?_
            first | refine z_iret dX8_isSameAs_67 ?_ | refine z_iret0 dX8_isSameAs_67 ?_ | refine z_iret1 dX8_isSameAs_67 ?_
            exact ⟨⟨false, rfl, fun z => by cases z⟩, rfl⟩
          · refine x_aload_n dX8_isSameAs_55 rfl ?_
            refine g_X8_53 dX8_isSameAs_56 ?_
            rw [hRa.down]
            refine x_aload_n dX8_isSameAs_59 rfl ?_
            refine g_X8_53 dX8_isSameAs_60 ?_
            rw [hRb.down]
            refine y_icmp_eq 68 dX8_isSameAs_63 (by omega) (by omega) (fun h_63 => ?_) (fun h_63 => ?_)
            · have s0 : w 0 = v 0 := h_8
              have s1 : w 1 = v 1 := h_19
              have s2 : w 2 = v 2 := h_30
              have s3 : w 3 = v 3 := h_41
              have s4 : w 4 = v 4 := h_52
              have s5 : w 5 = v 5 := by have z := h_63; rw [s2] at z; exact xor_inj z
              refine y_iconst (a := 1) dX8_isSameAs_68 rfl ?_
              refine x_istore_n dX8_isSameAs_69 ?_
              have key1 : ∀ (k : Nat) (h : Nat), h + k = w 0 + 1 ∧ 1 ≤ h ∧ (∀ r, r + 1 < h → w (6 + r) = v (6 + r)) → X (mkG p l e R s m args below meth c Ω (fun ro M' => (∃ t : Bool, ro = some (.int (bI t)) ∧ (t = true → Sm w v)) ∧ M = M')) Ω RX8 cX8_isSameAs 3 1 (some .boolean) 70 [some (.ref (Ω.2.2 a)), some (.ref (Ω.2.2 b)), some (.int (nI h))] [] M := by
                intro k
                induction k with
                | zero =>
                  intro h hk
                  obtain ⟨hk, hh1, hal⟩ := hk
                  refine x_iload_n dX8_isSameAs_70 rfl ?_
                  refine x_aload_n dX8_isSameAs_71 rfl ?_
                  refine g_X8_37 dX8_isSameAs_72 ?_
                  rw [hRa.rungs]
                  refine y_icmp_gt 101 dX8_isSameAs_75 (by omega) (by omega) (fun h_75 => ?_) (fun h_75 => ?_)
                  · refine y_iconst (a := 0) dX8_isSameAs_101 rfl ?_
                    refine x_istore_n dX8_isSameAs_102 ?_
                    obtain rfl : h = w 0 + 1 := by omega
                    have hst : ∀ r, r < w 0 → w (6 + r) = v (6 + r) := fun r hr => hal r (by omega)
                    have key2 : ∀ (k : Nat) (h : Nat), h + k = w 2 ∧ (∀ g, g < h → w (15 + g) = v (15 + g) ∧ w (21 + g) = v (21 + g) ∧ w (27 + g) = v (27 + g) ∧ w (33 + g) = v (33 + g)) → X (mkG p l e R s m args below meth c Ω (fun ro M' => (∃ t : Bool, ro = some (.int (bI t)) ∧ (t = true → Sm w v)) ∧ M = M')) Ω RX8 cX8_isSameAs 3 1 (some .boolean) 103 [some (.ref (Ω.2.2 a)), some (.ref (Ω.2.2 b)), some (.int (nI h))] [] M := by
                      intro k
                      induction k with
                      | zero =>
                        intro h hk
                        obtain ⟨hk, hal⟩ := hk
                        refine x_iload_n dX8_isSameAs_103 rfl ?_
                        refine x_aload_n dX8_isSameAs_104 rfl ?_
                        refine g_X8_44 dX8_isSameAs_105 ?_
                        rw [hRa.goers]
                        refine y_icmp_ge 179 dX8_isSameAs_108 (by omega) (by omega) (fun h_108 => ?_) (fun h_108 => ?_)
                        · refine y_iconst (a := 1) dX8_isSameAs_179 rfl ?_
                          first | refine z_iret dX8_isSameAs_180 ?_ | refine z_iret0 dX8_isSameAs_180 ?_ | refine z_iret1 dX8_isSameAs_180 ?_
                          first
                            | (obtain rfl : h = w 2 := by omega
                               exact ⟨⟨true, rfl, fun _ => ⟨s0, s1, s2, s3, s4, s5, hst, hal⟩⟩, rfl⟩)
                            | exact ⟨⟨false, rfl, fun z => by cases z⟩, rfl⟩
                        · exfalso; omega
                      | succ k ih =>
                        intro h hk
                        obtain ⟨hk, hal⟩ := hk
                        refine x_iload_n dX8_isSameAs_103 rfl ?_
                        refine x_aload_n dX8_isSameAs_104 rfl ?_
                        refine g_X8_44 dX8_isSameAs_105 ?_
                        rw [hRa.goers]
                        refine y_icmp_ge 179 dX8_isSameAs_108 (by omega) (by omega) (fun h_108 => ?_) (fun h_108 => ?_)
                        · refine y_iconst (a := 1) dX8_isSameAs_179 rfl ?_
                          first | refine z_iret dX8_isSameAs_180 ?_ | refine z_iret0 dX8_isSameAs_180 ?_ | refine z_iret1 dX8_isSameAs_180 ?_
                          first
                            | (obtain rfl : h = w 2 := by omega
                               exact ⟨⟨true, rfl, fun _ => ⟨s0, s1, s2, s3, s4, s5, hst, hal⟩⟩, rfl⟩)
                            | exact ⟨⟨false, rfl, fun z => by cases z⟩, rfl⟩
                        · have hga := hwa.goer (g := h) (by omega)
                          have hgb := hwb.goer (g := h) (by omega)
                          refine x_aload_n dX8_isSameAs_111 rfl ?_
                          refine g_X8_18 dX8_isSameAs_112 ?_
                          refine x_iload_n dX8_isSameAs_115 rfl ?_
                          refine x_ial dX8_isSameAs_116 (ArL (by assumption) (Or.inr ⟨by decide, by decide, rfl⟩)) (by omega) ?_
                          rw [hRa.kind (by omega)]
                          refine x_aload_n dX8_isSameAs_117 rfl ?_
                          refine g_X8_18 dX8_isSameAs_118 ?_
                          refine x_iload_n dX8_isSameAs_121 rfl ?_
                          refine x_ial dX8_isSameAs_122 (ArL (by assumption) (Or.inr ⟨by decide, by decide, rfl⟩)) (by omega) ?_
                          rw [hRb.kind (by omega)]
                          refine y_icmp_ne 171 dX8_isSameAs_123 (by omega) (by omega) (fun h_123 => ?_) (fun h_123 => ?_)
                          · refine y_iconst (a := 0) dX8_isSameAs_171 rfl ?_
                            first | refine z_iret dX8_isSameAs_172 ?_ | refine z_iret0 dX8_isSameAs_172 ?_ | refine z_iret1 dX8_isSameAs_172 ?_
                            first
                              | (obtain rfl : h = w 2 := by omega
                                 exact ⟨⟨true, rfl, fun _ => ⟨s0, s1, s2, s3, s4, s5, hst, hal⟩⟩, rfl⟩)
                              | exact ⟨⟨false, rfl, fun z => by cases z⟩, rfl⟩
                          · refine x_aload_n dX8_isSameAs_126 rfl ?_
                            refine g_X8_21 dX8_isSameAs_127 ?_
                            refine x_iload_n dX8_isSameAs_130 rfl ?_
                            refine x_ial dX8_isSameAs_131 (ArL (by assumption) (Or.inr ⟨by decide, by decide, rfl⟩)) (by omega) ?_
                            rw [hRa.weight (by omega)]
                            refine x_aload_n dX8_isSameAs_132 rfl ?_
                            refine g_X8_21 dX8_isSameAs_133 ?_
                            refine x_iload_n dX8_isSameAs_136 rfl ?_
                            refine x_ial dX8_isSameAs_137 (ArL (by assumption) (Or.inr ⟨by decide, by decide, rfl⟩)) (by omega) ?_
                            rw [hRb.weight (by omega)]
                            refine y_icmp_ne 171 dX8_isSameAs_138 (by omega) (by omega) (fun h_138 => ?_) (fun h_138 => ?_)
                            · refine y_iconst (a := 0) dX8_isSameAs_171 rfl ?_
                              first | refine z_iret dX8_isSameAs_172 ?_ | refine z_iret0 dX8_isSameAs_172 ?_ | refine z_iret1 dX8_isSameAs_172 ?_
                              first
                                | (obtain rfl : h = w 2 := by omega
                                   exact ⟨⟨true, rfl, fun _ => ⟨s0, s1, s2, s3, s4, s5, hst, hal⟩⟩, rfl⟩)
                                | exact ⟨⟨false, rfl, fun z => by cases z⟩, rfl⟩
                            · refine x_aload_n dX8_isSameAs_141 rfl ?_
                              refine g_X8_24 dX8_isSameAs_142 ?_
                              refine x_iload_n dX8_isSameAs_145 rfl ?_
                              refine x_ial dX8_isSameAs_146 (ArL (by assumption) (Or.inr ⟨by decide, by decide, rfl⟩)) (by omega) ?_
                              rw [hRa.start (by omega)]
                              refine x_aload_n dX8_isSameAs_147 rfl ?_
                              refine g_X8_24 dX8_isSameAs_148 ?_
                              refine x_iload_n dX8_isSameAs_151 rfl ?_
                              refine x_ial dX8_isSameAs_152 (ArL (by assumption) (Or.inr ⟨by decide, by decide, rfl⟩)) (by omega) ?_
                              rw [hRb.start (by omega)]
                              refine y_icmp_ne 171 dX8_isSameAs_153 (by omega) (by omega) (fun h_153 => ?_) (fun h_153 => ?_)
                              · refine y_iconst (a := 0) dX8_isSameAs_171 rfl ?_
                                first | refine z_iret dX8_isSameAs_172 ?_ | refine z_iret0 dX8_isSameAs_172 ?_ | refine z_iret1 dX8_isSameAs_172 ?_
                                first
                                  | (obtain rfl : h = w 2 := by omega
                                     exact ⟨⟨true, rfl, fun _ => ⟨s0, s1, s2, s3, s4, s5, hst, hal⟩⟩, rfl⟩)
                                  | exact ⟨⟨false, rfl, fun z => by cases z⟩, rfl⟩
                              · refine x_aload_n dX8_isSameAs_156 rfl ?_
                                refine g_X8_27 dX8_isSameAs_157 ?_
                                refine x_iload_n dX8_isSameAs_160 rfl ?_
                                refine x_ial dX8_isSameAs_161 (ArL (by assumption) (Or.inr ⟨by decide, by decide, rfl⟩)) (by omega) ?_
                                rw [hRa.place (by omega)]
                                refine x_aload_n dX8_isSameAs_162 rfl ?_
                                refine g_X8_27 dX8_isSameAs_163 ?_
                                refine x_iload_n dX8_isSameAs_166 rfl ?_
                                refine x_ial dX8_isSameAs_167 (ArL (by assumption) (Or.inr ⟨by decide, by decide, rfl⟩)) (by omega) ?_
                                rw [hRb.place (by omega)]
                                refine y_icmp_eq 173 dX8_isSameAs_168 (by omega) (by omega) (fun h_168 => ?_) (fun h_168 => ?_)
                                · refine y_iinc dX8_isSameAs_173 rfl ?_
                                  refine x_goto 103 dX8_isSameAs_176 ?_
                                  exact ih (h + 1) ⟨by omega, fun g hg => by by_cases e1 : g = h; (subst e1; exact ⟨h_123, h_138, h_153, h_168⟩); exact hal g (by omega)⟩
                                · refine y_iconst (a := 0) dX8_isSameAs_171 rfl ?_
                                  first | refine z_iret dX8_isSameAs_172 ?_ | refine z_iret0 dX8_isSameAs_172 ?_ | refine z_iret1 dX8_isSameAs_172 ?_
                                  first
                                    | (obtain rfl : h = w 2 := by omega
                                       exact ⟨⟨true, rfl, fun _ => ⟨s0, s1, s2, s3, s4, s5, hst, hal⟩⟩, rfl⟩)
                                    | exact ⟨⟨false, rfl, fun z => by cases z⟩, rfl⟩
                    exact key2 _ 0 ⟨Nat.zero_add _, fun g hg => absurd hg (Nat.not_lt_zero _)⟩
                  · exfalso; omega
                | succ k ih =>
                  intro h hk
                  obtain ⟨hk, hh1, hal⟩ := hk
                  refine x_iload_n dX8_isSameAs_70 rfl ?_
                  refine x_aload_n dX8_isSameAs_71 rfl ?_
                  refine g_X8_37 dX8_isSameAs_72 ?_
                  rw [hRa.rungs]
                  refine y_icmp_gt 101 dX8_isSameAs_75 (by omega) (by omega) (fun h_75 => ?_) (fun h_75 => ?_)
                  · refine y_iconst (a := 0) dX8_isSameAs_101 rfl ?_
                    refine x_istore_n dX8_isSameAs_102 ?_
                    obtain rfl : h = w 0 + 1 := by omega
                    have hst : ∀ r, r < w 0 → w (6 + r) = v (6 + r) := fun r hr => hal r (by omega)
                    have key2 : ∀ (k : Nat) (h : Nat), h + k = w 2 ∧ (∀ g, g < h → w (15 + g) = v (15 + g) ∧ w (21 + g) = v (21 + g) ∧ w (27 + g) = v (27 + g) ∧ w (33 + g) = v (33 + g)) → X (mkG p l e R s m args below meth c Ω (fun ro M' => (∃ t : Bool, ro = some (.int (bI t)) ∧ (t = true → Sm w v)) ∧ M = M')) Ω RX8 cX8_isSameAs 3 1 (some .boolean) 103 [some (.ref (Ω.2.2 a)), some (.ref (Ω.2.2 b)), some (.int (nI h))] [] M := by
                      intro k
                      induction k with
                      | zero =>
                        intro h hk
                        obtain ⟨hk, hal⟩ := hk
                        refine x_iload_n dX8_isSameAs_103 rfl ?_
                        refine x_aload_n dX8_isSameAs_104 rfl ?_
                        refine g_X8_44 dX8_isSameAs_105 ?_
                        rw [hRa.goers]
                        refine y_icmp_ge 179 dX8_isSameAs_108 (by omega) (by omega) (fun h_108 => ?_) (fun h_108 => ?_)
                        · refine y_iconst (a := 1) dX8_isSameAs_179 rfl ?_
                          first | refine z_iret dX8_isSameAs_180 ?_ | refine z_iret0 dX8_isSameAs_180 ?_ | refine z_iret1 dX8_isSameAs_180 ?_
                          first
                            | (obtain rfl : h = w 2 := by omega
                               exact ⟨⟨true, rfl, fun _ => ⟨s0, s1, s2, s3, s4, s5, hst, hal⟩⟩, rfl⟩)
                            | exact ⟨⟨false, rfl, fun z => by cases z⟩, rfl⟩
                        · exfalso; omega
                      | succ k ih =>
                        intro h hk
                        obtain ⟨hk, hal⟩ := hk
                        refine x_iload_n dX8_isSameAs_103 rfl ?_
                        refine x_aload_n dX8_isSameAs_104 rfl ?_
                        refine g_X8_44 dX8_isSameAs_105 ?_
                        rw [hRa.goers]
                        refine y_icmp_ge 179 dX8_isSameAs_108 (by omega) (by omega) (fun h_108 => ?_) (fun h_108 => ?_)
                        · refine y_iconst (a := 1) dX8_isSameAs_179 rfl ?_
                          first | refine z_iret dX8_isSameAs_180 ?_ | refine z_iret0 dX8_isSameAs_180 ?_ | refine z_iret1 dX8_isSameAs_180 ?_
                          first
                            | (obtain rfl : h = w 2 := by omega
                               exact ⟨⟨true, rfl, fun _ => ⟨s0, s1, s2, s3, s4, s5, hst, hal⟩⟩, rfl⟩)
                            | exact ⟨⟨false, rfl, fun z => by cases z⟩, rfl⟩
                        · have hga := hwa.goer (g := h) (by omega)
                          have hgb := hwb.goer (g := h) (by omega)
                          refine x_aload_n dX8_isSameAs_111 rfl ?_
                          refine g_X8_18 dX8_isSameAs_112 ?_
                          refine x_iload_n dX8_isSameAs_115 rfl ?_
                          refine x_ial dX8_isSameAs_116 (ArL (by assumption) (Or.inr ⟨by decide, by decide, rfl⟩)) (by omega) ?_
                          rw [hRa.kind (by omega)]
                          refine x_aload_n dX8_isSameAs_117 rfl ?_
                          refine g_X8_18 dX8_isSameAs_118 ?_
                          refine x_iload_n dX8_isSameAs_121 rfl ?_
                          refine x_ial dX8_isSameAs_122 (ArL (by assumption) (Or.inr ⟨by decide, by decide, rfl⟩)) (by omega) ?_
                          rw [hRb.kind (by omega)]
                          refine y_icmp_ne 171 dX8_isSameAs_123 (by omega) (by omega) (fun h_123 => ?_) (fun h_123 => ?_)
                          · refine y_iconst (a := 0) dX8_isSameAs_171 rfl ?_
                            first | refine z_iret dX8_isSameAs_172 ?_ | refine z_iret0 dX8_isSameAs_172 ?_ | refine z_iret1 dX8_isSameAs_172 ?_
                            first
                              | (obtain rfl : h = w 2 := by omega
                                 exact ⟨⟨true, rfl, fun _ => ⟨s0, s1, s2, s3, s4, s5, hst, hal⟩⟩, rfl⟩)
                              | exact ⟨⟨false, rfl, fun z => by cases z⟩, rfl⟩
                          · refine x_aload_n dX8_isSameAs_126 rfl ?_
                            refine g_X8_21 dX8_isSameAs_127 ?_
                            refine x_iload_n dX8_isSameAs_130 rfl ?_
                            refine x_ial dX8_isSameAs_131 (ArL (by assumption) (Or.inr ⟨by decide, by decide, rfl⟩)) (by omega) ?_
                            rw [hRa.weight (by omega)]
                            refine x_aload_n dX8_isSameAs_132 rfl ?_
                            refine g_X8_21 dX8_isSameAs_133 ?_
                            refine x_iload_n dX8_isSameAs_136 rfl ?_
                            refine x_ial dX8_isSameAs_137 (ArL (by assumption) (Or.inr ⟨by decide, by decide, rfl⟩)) (by omega) ?_
                            rw [hRb.weight (by omega)]
                            refine y_icmp_ne 171 dX8_isSameAs_138 (by omega) (by omega) (fun h_138 => ?_) (fun h_138 => ?_)
                            · refine y_iconst (a := 0) dX8_isSameAs_171 rfl ?_
                              first | refine z_iret dX8_isSameAs_172 ?_ | refine z_iret0 dX8_isSameAs_172 ?_ | refine z_iret1 dX8_isSameAs_172 ?_
                              first
                                | (obtain rfl : h = w 2 := by omega
                                   exact ⟨⟨true, rfl, fun _ => ⟨s0, s1, s2, s3, s4, s5, hst, hal⟩⟩, rfl⟩)
                                | exact ⟨⟨false, rfl, fun z => by cases z⟩, rfl⟩
                            · refine x_aload_n dX8_isSameAs_141 rfl ?_
                              refine g_X8_24 dX8_isSameAs_142 ?_
                              refine x_iload_n dX8_isSameAs_145 rfl ?_
                              refine x_ial dX8_isSameAs_146 (ArL (by assumption) (Or.inr ⟨by decide, by decide, rfl⟩)) (by omega) ?_
                              rw [hRa.start (by omega)]
                              refine x_aload_n dX8_isSameAs_147 rfl ?_
                              refine g_X8_24 dX8_isSameAs_148 ?_
                              refine x_iload_n dX8_isSameAs_151 rfl ?_
                              refine x_ial dX8_isSameAs_152 (ArL (by assumption) (Or.inr ⟨by decide, by decide, rfl⟩)) (by omega) ?_
                              rw [hRb.start (by omega)]
                              refine y_icmp_ne 171 dX8_isSameAs_153 (by omega) (by omega) (fun h_153 => ?_) (fun h_153 => ?_)
                              · refine y_iconst (a := 0) dX8_isSameAs_171 rfl ?_
                                first | refine z_iret dX8_isSameAs_172 ?_ | refine z_iret0 dX8_isSameAs_172 ?_ | refine z_iret1 dX8_isSameAs_172 ?_
                                first
                                  | (obtain rfl : h = w 2 := by omega
                                     exact ⟨⟨true, rfl, fun _ => ⟨s0, s1, s2, s3, s4, s5, hst, hal⟩⟩, rfl⟩)
                                  | exact ⟨⟨false, rfl, fun z => by cases z⟩, rfl⟩
                              · refine x_aload_n dX8_isSameAs_156 rfl ?_
                                refine g_X8_27 dX8_isSameAs_157 ?_
                                refine x_iload_n dX8_isSameAs_160 rfl ?_
                                refine x_ial dX8_isSameAs_161 (ArL (by assumption) (Or.inr ⟨by decide, by decide, rfl⟩)) (by omega) ?_
                                rw [hRa.place (by omega)]
                                refine x_aload_n dX8_isSameAs_162 rfl ?_
                                refine g_X8_27 dX8_isSameAs_163 ?_
                                refine x_iload_n dX8_isSameAs_166 rfl ?_
                                refine x_ial dX8_isSameAs_167 (ArL (by assumption) (Or.inr ⟨by decide, by decide, rfl⟩)) (by omega) ?_
                                rw [hRb.place (by omega)]
                                refine y_icmp_eq 173 dX8_isSameAs_168 (by omega) (by omega) (fun h_168 => ?_) (fun h_168 => ?_)
                                · refine y_iinc dX8_isSameAs_173 rfl ?_
                                  refine x_goto 103 dX8_isSameAs_176 ?_
                                  exact ih (h + 1) ⟨by omega, fun g hg => by by_cases e1 : g = h; (subst e1; exact ⟨h_123, h_138, h_153, h_168⟩); exact hal g (by omega)⟩
                                · refine y_iconst (a := 0) dX8_isSameAs_171 rfl ?_
                                  first | refine z_iret dX8_isSameAs_172 ?_ | refine z_iret0 dX8_isSameAs_172 ?_ | refine z_iret1 dX8_isSameAs_172 ?_
                                  first
                                    | (obtain rfl : h = w 2 := by omega
                                       exact ⟨⟨true, rfl, fun _ => ⟨s0, s1, s2, s3, s4, s5, hst, hal⟩⟩, rfl⟩)
                                    | exact ⟨⟨false, rfl, fun z => by cases z⟩, rfl⟩
                    exact key2 _ 0 ⟨Nat.zero_add _, fun g hg => absurd hg (Nat.not_lt_zero _)⟩
                  · have hsa := hwa.str (p := h) (by omega)
                    have hsb := hwb.str (p := h) (by omega)
                    refine x_aload_n dX8_isSameAs_78 rfl ?_
                    refine g_X8_15 dX8_isSameAs_79 ?_
                    refine x_iload_n dX8_isSameAs_82 rfl ?_
                    refine x_ial dX8_isSameAs_83 (ArL (by assumption) (Or.inl ⟨by decide, by decide, rfl⟩)) (by omega) ?_
                    rw [hRa.strength (by omega)]
                    refine x_aload_n dX8_isSameAs_84 rfl ?_
                    refine g_X8_15 dX8_isSameAs_85 ?_
                    refine x_iload_n dX8_isSameAs_88 rfl ?_
                    refine x_ial dX8_isSameAs_89 (ArL (by assumption) (Or.inl ⟨by decide, by decide, rfl⟩)) (by omega) ?_
                    rw [hRb.strength (by omega)]
                    refine y_icmp_eq 95 dX8_isSameAs_90 (by omega) (by omega) (fun h_90 => ?_) (fun h_90 => ?_)
                    · refine y_iinc dX8_isSameAs_95 rfl ?_
                      refine x_goto 70 dX8_isSameAs_98 ?_
                      exact ih (h + 1) ⟨by omega, by omega, fun r hr => by by_cases e1 : r + 1 = h; (rw [show 6 + r = 5 + h by omega]; exact h_90); exact hal r (by omega)⟩
                    · refine y_iconst (a := 0) dX8_isSameAs_93 rfl ?_
                      first | refine z_iret dX8_isSameAs_94 ?_ | refine z_iret0 dX8_isSameAs_94 ?_ | refine z_iret1 dX8_isSameAs_94 ?_
                      exact ⟨⟨false, rfl, fun z => by cases z⟩, rfl⟩
              exact key1 (w 0) 1 ⟨by omega, Nat.le_refl _, fun r hr => by omega⟩
            · refine y_iconst (a := 0) dX8_isSameAs_66 rfl ?_
              first | refine z_iret dX8_isSameAs_67 ?_ | refine z_iret0 dX8_isSameAs_67 ?_ | refine z_iret1 dX8_isSameAs_67 ?_
              exact ⟨⟨false, rfl, fun z => by cases z⟩, rfl⟩
set_option maxRecDepth 100000 in
set_option maxHeartbeats 4000000 in
theorem c_swapInOrder {Ω : Om} {l : Launch} {M : Mem} {o : List Nat} (hO : OdR M o) (h6 : o.length ≤ 6) {i j : Nat} (hi : i < o.length) (hj : j < o.length) : Ct Ω l yX5_swapInOrder cX5_swapInOrder 4 1 none [.ref (Ω.2.2 14), .int (nI i), .int (nI j)] M (fun ro M' => ro = none ∧ OdR M' (swL o i j) ∧ F15 M M') := by
  have hL49 : Lk 49 := Lk49
  have hL57 : Lk 57 := Lk57
  refine ct_of (by decide) (Nat.le_of_ble_eq_true rfl) ?_
  intro p e R s m args below meth c
  refine x_aload_n dX5_swapInOrder_0 rfl ?_
  refine g_X5_9 dX5_swapInOrder_1 ?_
  refine x_iload_n dX5_swapInOrder_4 rfl ?_
  refine x_ial dX5_swapInOrder_5 (⟨by decide, rfl, rfl, by decide⟩ : Ar 15 6) (by omega) ?_
  rw [hO.2 _ (by omega)]
  refine x_istore_n dX5_swapInOrder_6 ?_
  refine x_aload_n dX5_swapInOrder_7 rfl ?_
  refine g_X5_9 dX5_swapInOrder_8 ?_
  refine x_iload_n dX5_swapInOrder_11 rfl ?_
  refine x_aload_n dX5_swapInOrder_12 rfl ?_
  refine g_X5_9 dX5_swapInOrder_13 ?_
  refine x_iload_n dX5_swapInOrder_16 rfl ?_
  refine x_ial dX5_swapInOrder_17 (⟨by decide, rfl, rfl, by decide⟩ : Ar 15 6) (by omega) ?_
  rw [hO.2 _ (by omega)]
  refine x_ias dX5_swapInOrder_18 (⟨by decide, rfl, rfl, by decide⟩ : Ar 15 6) (by omega) ?_
  refine x_aload_n dX5_swapInOrder_19 rfl ?_
  refine g_X5_9 dX5_swapInOrder_20 ?_
  refine x_iload_n dX5_swapInOrder_23 rfl ?_
  refine x_iload_n dX5_swapInOrder_24 rfl ?_
  refine x_ias dX5_swapInOrder_25 (⟨by decide, rfl, rfl, by decide⟩ : Ar 15 6) (by omega) ?_
  refine x_vret dX5_swapInOrder_26 ?_
  refine ⟨rfl, ⟨?_, fun k hk => ?_⟩, rfl, fun c hc => by rw [up1_ne _ _ _ hc, up1_ne _ _ _ hc]⟩
  · rw [swL_len, up1_ne _ _ _ (by omega), up1_ne _ _ _ (by omega)]; exact hO.1
  · rw [swL_len] at hk
    rw [swL_gD o k hi hj, up1_at, up1_at]
    by_cases e1 : k = j
    · rw [if_pos ⟨rfl, e1⟩, if_pos e1]
    · rw [if_neg (by omega), if_neg e1]
      by_cases e2 : k = i
      · rw [if_pos ⟨rfl, e2⟩, if_pos e2]
      · rw [if_neg (by omega), if_neg e2]; exact hO.2 k hk
set_option maxRecDepth 100000 in
set_option maxHeartbeats 4000000 in
theorem c_turnToNextOrder {Ω : Om} {l : Launch} {M : Mem} {o : List Nat} (hO : OdR M o) (h6 : o.length ≤ 6) (hB : Bl 6 o) : Ct Ω l yX5_turnToNextOrder cX5_turnToNextOrder 5 2 (some .boolean) [.ref (Ω.2.2 14)] M (fun ro M' => (match nxL o with
  | none => ro = some (.int (bI false)) ∧ M = M'
  | some o2 => ro = some (.int (bI true)) ∧ OdR M' o2 ∧ F15 M M')) := by
  have hL49 : Lk 49 := Lk49
  have hL57 : Lk 57 := Lk57
  refine ct_of (by decide) (Nat.le_of_ble_eq_true rfl) ?_
  intro p e R s m args below meth c
  have key3 : ∀ (k : Nat) (i j : Nat) (q : List Nat) (a b : Nat) (M1 : Mem), a ≤ 6 ∧ b ≤ a + 2 * k ∧ b < q.length ∧ q.length = o.length ∧ OdR M1 q ∧ F15 M M1 ∧ nxL o = some (rvN k q a b) → X (mkG p l e R s m args below meth c Ω (fun ro M' => (match nxL o with
  | none => ro = some (.int (bI false)) ∧ M = M'
  | some o2 => ro = some (.int (bI true)) ∧ OdR M' o2 ∧ F15 M M'))) Ω RX5 cX5_turnToNextOrder 5 2 (some .boolean) 91 [some (.ref (Ω.2.2 14)), some (.int (nI i)), some (.int (nI j)), some (.int (nI a)), some (.int (nI b))] [] M1 := by
    intro k
    induction k with
    | zero =>
      intro i j q a b M1 hk
      obtain ⟨ha6, hk, hbq, hql, hO1, hF1, hnx⟩ := hk
      refine x_iload_n dX5_turnToNextOrder_91 rfl ?_
      refine x_iload dX5_turnToNextOrder_92 rfl ?_
      refine y_icmp_ge 113 dX5_turnToNextOrder_94 (by omega) (by omega) (fun h_94 => ?_) (fun h_94 => ?_)
      · refine y_iconst (a := 1) dX5_turnToNextOrder_113 rfl ?_
        first | refine z_iret dX5_turnToNextOrder_114 ?_ | refine z_iret0 dX5_turnToNextOrder_114 ?_ | refine z_iret1 dX5_turnToNextOrder_114 ?_
        first
          | (have hr : rvN 0 q a b = q := rfl
             rw [hr] at hnx)
          | (rw [rvN_step, if_neg (by omega)] at hnx)
        rw [hnx]
        exact ⟨rfl, hO1, hF1⟩
      · exfalso; omega
    | succ k ih =>
      intro i j q a b M1 hk
      obtain ⟨ha6, hk, hbq, hql, hO1, hF1, hnx⟩ := hk
      refine x_iload_n dX5_turnToNextOrder_91 rfl ?_
      refine x_iload dX5_turnToNextOrder_92 rfl ?_
      refine y_icmp_ge 113 dX5_turnToNextOrder_94 (by omega) (by omega) (fun h_94 => ?_) (fun h_94 => ?_)
      · refine y_iconst (a := 1) dX5_turnToNextOrder_113 rfl ?_
        first | refine z_iret dX5_turnToNextOrder_114 ?_ | refine z_iret0 dX5_turnToNextOrder_114 ?_ | refine z_iret1 dX5_turnToNextOrder_114 ?_
        first
          | (have hr : rvN 0 q a b = q := rfl
             rw [hr] at hnx)
          | (rw [rvN_step, if_neg (by omega)] at hnx)
        rw [hnx]
        exact ⟨rfl, hO1, hF1⟩
      · refine x_aload_n dX5_turnToNextOrder_97 rfl ?_
        refine x_iload_n dX5_turnToNextOrder_98 rfl ?_
        refine x_iload dX5_turnToNextOrder_99 rfl ?_
        refine q_X5_131 (c_swapInOrder hO1 (by omega) (by omega) hbq) dX5_turnToNextOrder_101 rfl ?_
        rintro _ M3 ⟨rfl, hO3, hF3⟩
        refine y_iinc dX5_turnToNextOrder_104 rfl ?_
        obtain ⟨b, rfl⟩ : ∃ b2, b = b2 + 1 := ⟨b - 1, by omega⟩
        refine y_idec dX5_turnToNextOrder_107 rfl ?_
        refine x_goto 91 dX5_turnToNextOrder_110 ?_
        rw [rvN_step, if_pos (by omega)] at hnx
        exact ih i j _ _ _ _ ⟨by omega, by omega, by rw [swL_len]; omega, by rw [swL_len]; exact hql, hO3, hF1.tr hF3, hnx⟩
  have key2 : ∀ (k i : Nat), i < o.length → fI o (o.length - 1) = i + 1 → k < o.length → fJ o i (o.length - 1) = fJ o i k → i ≤ k → X (mkG p l e R s m args below meth c Ω (fun ro M' => (match nxL o with
  | none => ro = some (.int (bI false)) ∧ M = M'
  | some o2 => ro = some (.int (bI true)) ∧ OdR M' o2 ∧ F15 M M'))) Ω RX5 cX5_turnToNextOrder 5 2 (some .boolean) 47 [some (.ref (Ω.2.2 14)), some (.int (nI i)), some (.int (nI k)), none, none] [] M := by
    intro k
    induction k with
    | zero =>
      intro i hil hfi hkl hfj0 hik
      have hfj : fJ o i (o.length - 1) = 0 := hfj0
      refine x_iload_n dX5_turnToNextOrder_47 rfl ?_
      refine x_iload_n dX5_turnToNextOrder_48 rfl ?_
      refine y_icmp_le 73 dX5_turnToNextOrder_49 (by omega) (by omega) (fun h_49 => ?_) (fun h_49 => ?_)
      · refine x_aload_n dX5_turnToNextOrder_73 rfl ?_
        refine x_iload_n dX5_turnToNextOrder_74 rfl ?_
        refine x_iload_n dX5_turnToNextOrder_75 rfl ?_
        refine q_X5_131 (c_swapInOrder hO h6 hil hkl) dX5_turnToNextOrder_76 rfl ?_
        rintro _ M2 ⟨rfl, hO2, hF2⟩
        refine x_iload_n dX5_turnToNextOrder_79 rfl ?_
        refine y_iconst (a := 1) dX5_turnToNextOrder_80 rfl ?_
        refine y_iadd dX5_turnToNextOrder_81 ?_
        refine x_istore_n dX5_turnToNextOrder_82 ?_
        refine x_aload_n dX5_turnToNextOrder_83 rfl ?_
        refine g_X5_96 dX5_turnToNextOrder_84 ?_
        rw [hO2.1, swL_len]
        refine y_iconst (a := 1) dX5_turnToNextOrder_87 rfl ?_
        refine y_isub dX5_turnToNextOrder_88 (by omega) ?_
        refine x_istore dX5_turnToNextOrder_89 ?_
        exact key3 6 _ _ _ _ _ _ ⟨by omega, by omega, by rw [swL_len]; omega, by rw [swL_len], hO2, hF2, by unfold nxL; rw [if_neg (by omega), hfi, Nat.add_sub_cancel, hfj]⟩
      · exfalso; omega
    | succ k ih =>
      intro i hil hfi hkl hfj0 hik
      have b1 := hB i hil
      have b2 := hB (k + 1) hkl
      refine x_iload_n dX5_turnToNextOrder_47 rfl ?_
      refine x_iload_n dX5_turnToNextOrder_48 rfl ?_
      refine y_icmp_le 73 dX5_turnToNextOrder_49 (by omega) (by omega) (fun h_49 => ?_) (fun h_49 => ?_)
      · have hfj : fJ o i (o.length - 1) = k + 1 := by rw [hfj0, fJ_step, if_neg (by omega)]
        refine x_aload_n dX5_turnToNextOrder_73 rfl ?_
        refine x_iload_n dX5_turnToNextOrder_74 rfl ?_
        refine x_iload_n dX5_turnToNextOrder_75 rfl ?_
        refine q_X5_131 (c_swapInOrder hO h6 hil hkl) dX5_turnToNextOrder_76 rfl ?_
        rintro _ M2 ⟨rfl, hO2, hF2⟩
        refine x_iload_n dX5_turnToNextOrder_79 rfl ?_
        refine y_iconst (a := 1) dX5_turnToNextOrder_80 rfl ?_
        refine y_iadd dX5_turnToNextOrder_81 ?_
        refine x_istore_n dX5_turnToNextOrder_82 ?_
        refine x_aload_n dX5_turnToNextOrder_83 rfl ?_
        refine g_X5_96 dX5_turnToNextOrder_84 ?_
        rw [hO2.1, swL_len]
        refine y_iconst (a := 1) dX5_turnToNextOrder_87 rfl ?_
        refine y_isub dX5_turnToNextOrder_88 (by omega) ?_
        refine x_istore dX5_turnToNextOrder_89 ?_
        exact key3 6 _ _ _ _ _ _ ⟨by omega, by omega, by rw [swL_len]; omega, by rw [swL_len], hO2, hF2, by unfold nxL; rw [if_neg (by omega), hfi, Nat.add_sub_cancel, hfj]⟩
      · refine x_aload_n dX5_turnToNextOrder_52 rfl ?_
        refine g_X5_9 dX5_turnToNextOrder_53 ?_
        refine x_iload_n dX5_turnToNextOrder_56 rfl ?_
        refine x_ial dX5_turnToNextOrder_57 (⟨by decide, rfl, rfl, by decide⟩ : Ar 15 6) (by omega) ?_
        rw [hO.2 _ (by omega)]
        refine x_aload_n dX5_turnToNextOrder_58 rfl ?_
        refine g_X5_9 dX5_turnToNextOrder_59 ?_
        refine x_iload_n dX5_turnToNextOrder_62 rfl ?_
        refine x_ial dX5_turnToNextOrder_63 (⟨by decide, rfl, rfl, by decide⟩ : Ar 15 6) (by omega) ?_
        rw [hO.2 _ (by omega)]
        refine y_icmp_ge 73 dX5_turnToNextOrder_64 (by omega) (by omega) (fun h_64 => ?_) (fun h_64 => ?_)
        · have hfj : fJ o i (o.length - 1) = k + 1 := by rw [hfj0, fJ_step, if_neg (by omega)]
          refine x_aload_n dX5_turnToNextOrder_73 rfl ?_
          refine x_iload_n dX5_turnToNextOrder_74 rfl ?_
          refine x_iload_n dX5_turnToNextOrder_75 rfl ?_
          refine q_X5_131 (c_swapInOrder hO h6 hil hkl) dX5_turnToNextOrder_76 rfl ?_
          rintro _ M2 ⟨rfl, hO2, hF2⟩
          refine x_iload_n dX5_turnToNextOrder_79 rfl ?_
          refine y_iconst (a := 1) dX5_turnToNextOrder_80 rfl ?_
          refine y_iadd dX5_turnToNextOrder_81 ?_
          refine x_istore_n dX5_turnToNextOrder_82 ?_
          refine x_aload_n dX5_turnToNextOrder_83 rfl ?_
          refine g_X5_96 dX5_turnToNextOrder_84 ?_
          rw [hO2.1, swL_len]
          refine y_iconst (a := 1) dX5_turnToNextOrder_87 rfl ?_
          refine y_isub dX5_turnToNextOrder_88 (by omega) ?_
          refine x_istore dX5_turnToNextOrder_89 ?_
          exact key3 6 _ _ _ _ _ _ ⟨by omega, by omega, by rw [swL_len]; omega, by rw [swL_len], hO2, hF2, by unfold nxL; rw [if_neg (by omega), hfi, Nat.add_sub_cancel, hfj]⟩
        · refine y_idec dX5_turnToNextOrder_67 rfl ?_
          refine x_goto 47 dX5_turnToNextOrder_70 ?_
          exact ih i hil hfi (by omega) (by rw [hfj0, fJ_step, if_pos ⟨by omega, by omega⟩]) (by omega)
  have keyN : ∀ (x : Int32), x.toInt < 0 → fI o (o.length - 1) = 0 → X (mkG p l e R s m args below meth c Ω (fun ro M' => (match nxL o with
  | none => ro = some (.int (bI false)) ∧ M = M'
  | some o2 => ro = some (.int (bI true)) ∧ OdR M' o2 ∧ F15 M M'))) Ω RX5 cX5_turnToNextOrder 5 2 (some .boolean) 7 [some (.ref (Ω.2.2 14)), some (.int (x)), none, none, none] [] M := by
    intro x hx hf0
    refine x_iload_n dX5_turnToNextOrder_7 rfl ?_
    refine x_if_lt 34 dX5_turnToNextOrder_8 (fun h_8 => ?_) (fun h_8 => ?_)
    · refine x_iload_n dX5_turnToNextOrder_34 rfl ?_
      refine x_if_ge 40 dX5_turnToNextOrder_35 (fun h_35 => ?_) (fun h_35 => ?_)
      · exfalso; omega
      · refine y_iconst (a := 0) dX5_turnToNextOrder_38 rfl ?_
        first | refine z_iret dX5_turnToNextOrder_39 ?_ | refine z_iret0 dX5_turnToNextOrder_39 ?_ | refine z_iret1 dX5_turnToNextOrder_39 ?_
        unfold nxL
        rw [if_pos (by omega)]
        exact ⟨rfl, rfl⟩
    · exfalso; omega
  have key1 : ∀ (k : Nat), k + 1 < o.length → fI o (o.length - 1) = fI o (k + 1) → X (mkG p l e R s m args below meth c Ω (fun ro M' => (match nxL o with
  | none => ro = some (.int (bI false)) ∧ M = M'
  | some o2 => ro = some (.int (bI true)) ∧ OdR M' o2 ∧ F15 M M'))) Ω RX5 cX5_turnToNextOrder 5 2 (some .boolean) 7 [some (.ref (Ω.2.2 14)), some (.int (nI k)), none, none, none] [] M := by
    intro k
    induction k with
    | zero =>
      intro hkl hf0
      refine x_iload_n dX5_turnToNextOrder_7 rfl ?_
      refine y_if_lt 34 dX5_turnToNextOrder_8 (by omega) ?_
      have b1 := hB 0 (by omega)
      have b2 := hB (0 + 1) (by omega)
      refine x_aload_n dX5_turnToNextOrder_11 rfl ?_
      refine g_X5_9 dX5_turnToNextOrder_12 ?_
      refine x_iload_n dX5_turnToNextOrder_15 rfl ?_
      refine x_ial dX5_turnToNextOrder_16 (⟨by decide, rfl, rfl, by decide⟩ : Ar 15 6) (by omega) ?_
      rw [hO.2 _ (by omega)]
      refine x_aload_n dX5_turnToNextOrder_17 rfl ?_
      refine g_X5_9 dX5_turnToNextOrder_18 ?_
      refine x_iload_n dX5_turnToNextOrder_21 rfl ?_
      refine y_iconst (a := 1) dX5_turnToNextOrder_22 rfl ?_
      refine y_iadd dX5_turnToNextOrder_23 ?_
      refine x_ial dX5_turnToNextOrder_24 (⟨by decide, rfl, rfl, by decide⟩ : Ar 15 6) (by omega) ?_
      rw [hO.2 _ (by omega)]
      refine y_icmp_le 34 dX5_turnToNextOrder_25 (by omega) (by omega) (fun h_25 => ?_) (fun h_25 => ?_)
      · refine x_iload_n dX5_turnToNextOrder_34 rfl ?_
        refine y_if_ge 40 dX5_turnToNextOrder_35 (by omega) ?_
        refine x_aload_n dX5_turnToNextOrder_40 rfl ?_
        refine g_X5_96 dX5_turnToNextOrder_41 ?_
        rw [hO.1]
        refine y_iconst (a := 1) dX5_turnToNextOrder_44 rfl ?_
        refine y_isub dX5_turnToNextOrder_45 (by omega) ?_
        refine x_istore_n dX5_turnToNextOrder_46 ?_
        exact key2 (o.length - 1) 0 (by omega) (by rw [hf0, fI_step, if_neg (by omega)]) (by omega) rfl (by omega)
      · refine x_iinc dX5_turnToNextOrder_28 rfl (v := -1) (by decide) ?_
        refine x_goto 7 dX5_turnToNextOrder_31 ?_
        exact keyN (-1) (by decide) (by rw [hf0, fI_step, if_pos (by omega)]; rfl)
    | succ k ih =>
      intro hkl hf0
      refine x_iload_n dX5_turnToNextOrder_7 rfl ?_
      refine y_if_lt 34 dX5_turnToNextOrder_8 (by omega) ?_
      have b1 := hB (k + 1) (by omega)
      have b2 := hB (k + 1 + 1) (by omega)
      refine x_aload_n dX5_turnToNextOrder_11 rfl ?_
      refine g_X5_9 dX5_turnToNextOrder_12 ?_
      refine x_iload_n dX5_turnToNextOrder_15 rfl ?_
      refine x_ial dX5_turnToNextOrder_16 (⟨by decide, rfl, rfl, by decide⟩ : Ar 15 6) (by omega) ?_
      rw [hO.2 _ (by omega)]
      refine x_aload_n dX5_turnToNextOrder_17 rfl ?_
      refine g_X5_9 dX5_turnToNextOrder_18 ?_
      refine x_iload_n dX5_turnToNextOrder_21 rfl ?_
      refine y_iconst (a := 1) dX5_turnToNextOrder_22 rfl ?_
      refine y_iadd dX5_turnToNextOrder_23 ?_
      refine x_ial dX5_turnToNextOrder_24 (⟨by decide, rfl, rfl, by decide⟩ : Ar 15 6) (by omega) ?_
      rw [hO.2 _ (by omega)]
      refine y_icmp_le 34 dX5_turnToNextOrder_25 (by omega) (by omega) (fun h_25 => ?_) (fun h_25 => ?_)
      · refine x_iload_n dX5_turnToNextOrder_34 rfl ?_
        refine y_if_ge 40 dX5_turnToNextOrder_35 (by omega) ?_
        refine x_aload_n dX5_turnToNextOrder_40 rfl ?_
        refine g_X5_96 dX5_turnToNextOrder_41 ?_
        rw [hO.1]
        refine y_iconst (a := 1) dX5_turnToNextOrder_44 rfl ?_
        refine y_isub dX5_turnToNextOrder_45 (by omega) ?_
        refine x_istore_n dX5_turnToNextOrder_46 ?_
        exact key2 (o.length - 1) (k + 1) (by omega) (by rw [hf0, fI_step, if_neg (by omega)]) (by omega) rfl (by omega)
      · refine y_idec dX5_turnToNextOrder_28 rfl ?_
        refine x_goto 7 dX5_turnToNextOrder_31 ?_
        exact ih (by omega) (by rw [hf0, fI_step, if_pos (by omega)])
  refine x_aload_n dX5_turnToNextOrder_0 rfl ?_
  refine g_X5_96 dX5_turnToNextOrder_1 ?_
  rw [hO.1]
  refine y_iconst (a := 2) dX5_turnToNextOrder_4 rfl ?_
  refine x_isub dX5_turnToNextOrder_5 ?_
  refine x_istore_n dX5_turnToNextOrder_6 ?_
  rcases (show o.length = 0 ∨ o.length = 1 ∨ 2 ≤ o.length by omega) with hz | hz | hz
  · rw [hz]
    exact keyN _ (by decide) (by rw [hz]; rfl)
  · rw [hz]
    exact keyN _ (by decide) (by rw [hz]; rfl)
  · rw [pk_sub (show 2 ≤ o.length from hz)]
    exact key1 (o.length - 2) (by omega) (by rw [show o.length - 2 + 1 = o.length - 1 by omega])
