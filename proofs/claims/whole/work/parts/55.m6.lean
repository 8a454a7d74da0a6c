/-! THE REFERENCE: holds, heavy, the line (laid by gen_m6.py) -/
theorem bst_skipF {f : Nat → Bool} {z : Nat} (h : f z = false) : bst f (z + 1) = bst f z := by
  simp only [bst]
  rcases bst f z with _ | b
  · simp [h]
  · simp [h]
theorem bst_skipP {f : Nat → Bool} {z b : Nat} (ho : bst f z = some b) (h : pop b ≤ pop z) : bst f (z + 1) = bst f z := by
  simp only [bst]
  rw [ho]
  simp only []
  rw [if_neg (fun q => by omega)]
theorem bst_take {f : Nat → Bool} {z : Nat} (h : ∀ b, bst f z = some b → pop z < pop b) : bst f (z + 1) = if f z = true then some z else bst f z := by
  simp only [bst]
  rcases ho : bst f z with _ | b
  · rfl
  · have := h b ho
    simp only []
    by_cases c : f z = true
    · rw [if_pos ⟨c, this⟩, if_pos c]
    · rw [if_neg (fun q => c q.1), if_neg c]
theorem gst_le {f : Nat → Bool} : ∀ {n b : Nat}, gst f n = some b → b ≤ n
  | 0, b, h => by cases h
  | n + 1, b, h => by
    simp only [gst] at h
    split at h
    · cases h; exact Nat.le_refl _
    · have := gst_le h; omega
theorem agV_sv {v : Nat → Nat} (h6 : v 2 < 6) (w t : Nat) {j : Nat} (_hj : j < 45) : agV v 1 w t j = sv (sv (sv (sv (sv (sv (sv v (15 + v 2) 1) (21 + v 2) w) (27 + v 2) t) (33 + v 2) 0) (39 + v 2) 0) 5 (v 5 ||| 2 ^ v 2)) 2 (v 2 + 1) j := by
  by_cases a2 : j = 2
  · subst a2; rw [sv_eq]; simp [agV]
  rw [sv_ne _ _ a2]
  by_cases a5 : j = 5
  · subst a5; rw [sv_eq]; simp [agV]
  rw [sv_ne _ _ a5]
  obtain ⟨n1, n2, n3, n4, n5⟩ := agV_n (k := 1) (x := w) (t := t) h6
  by_cases a : j = 39 + v 2
  · subst a; rw [sv_eq]; exact n5
  rw [sv_ne _ _ a]
  by_cases b : j = 33 + v 2
  · subst b; rw [sv_eq]; exact n4
  rw [sv_ne _ _ b]
  by_cases c : j = 27 + v 2
  · subst c; rw [sv_eq]; exact n3
  rw [sv_ne _ _ c]
  by_cases d : j = 21 + v 2
  · subst d; rw [sv_eq]; exact n2
  rw [sv_ne _ _ d]
  by_cases e : j = 15 + v 2
  · subst e; rw [sv_eq]; exact n1
  rw [sv_ne _ _ e]
  exact agV_ne a2 a5 e d c b a
def RwR (M : Mem) (o : List Nat) : Prop := ∀ i, i < o.length → M.1 44 i = nI (gD o i)
theorem RwR.at {M : Mem} {o : List Nat} (h : RwR M o) {i : Nat} (hi : i < o.length) : M.1 44 i = nI (gD o i) := h i hi
theorem RwR.keep {M M' : Mem} {o : List Nat} (h : RwR M o) (e : M'.1 44 = M.1 44) : RwR M' o := fun i hi => by rw [e]; exact h i hi
def eN : Nat → List Nat → Bool
  | 0, _ => false
  | f + 1, o => match nxL o with
    | none => true
    | some o2 => eN f o2
theorem eN_all : ∀ m, m < 64 → eN 720 ((List.range 6).filter (fun g => m.testBit g)) = true := by decide +kernel
theorem eN_o0 {v : Nat → Nat} (h : v 2 ≤ 6) : eN 720 (o0 v) = true := by
  have hb : ∀ g, (orN (fun g => if bo v g = true then 2 ^ g else 0) (v 2)).testBit g = decide (g < v 2 ∧ bo v g = true) := fun g => orN_bit g (v 2)
  have hm : orN (fun g => if bo v g = true then 2 ^ g else 0) (v 2) < 64 := orN_lt (e := 6) (fun k hk => by have := bit_lt (g := k) (n := 6) (by omega); split <;> omega)
  have := eN_all _ hm
  have e : o0 v = (List.range 6).filter (fun g => (orN (fun g => if bo v g = true then 2 ^ g else 0) (v 2)).testBit g) := by
    unfold o0
    obtain ⟨b, hb6⟩ : ∃ b, 6 = v 2 + b := ⟨6 - v 2, by omega⟩
    rw [show List.range 6 = List.range (v 2 + b) by rw [← hb6], List.range_add, List.filter_append]
    have h2 : List.filter (fun g => (orN (fun g => if bo v g = true then 2 ^ g else 0) (v 2)).testBit g) (List.map (fun x => v 2 + x) (List.range b)) = [] := by
      rw [List.filter_eq_nil_iff]
      intro a ha
      rw [List.mem_map] at ha
      obtain ⟨x, _, rfl⟩ := ha
      rw [hb]
      have : ¬ v 2 + x < v 2 := by omega
      simp [this]
    rw [h2, List.append_nil]
    refine List.filter_congr (fun x hx => ?_)
    rw [List.mem_range] at hx
    rw [hb]
    cases bo v x <;> simp [hx]
  rw [e]; exact this
theorem eN_none {f : Nat} {o o2 : List Nat} (h : nxL o = some o2) (he : eN (f + 1) o = true) : eN f o2 = true := by
  unfold eN at he; rw [h] at he; exact he
def mo (acc : Option (Nat × List Nat)) : Int32 := match acc with
  | none => -1
  | some q => nI q.1
def BsM (M : Mem) (len : Nat) (acc : Option (Nat × List Nat)) : Prop := ∀ q, acc = some q → q.1 ≤ 6 ∧ q.2.length = len ∧ ∀ i, i < len → M.1 45 i = nI (gD q.2 i)
theorem lnU_gt {v : Nat → Nat} {n : Nat} {acc : Option (Nat × List Nat)} {o : List Nat} (hq : ∀ q, acc = some q → q.1 ≤ 6) (ha : AO v n o ≤ 6) (h : (mo acc).toInt < (nI (AO v n o)).toInt) : lnU v n acc o = some (AO v n o, o) := by
  rcases acc with _ | q
  · rfl
  · have := hq q rfl
    simp only [mo] at h
    rw [nI_toInt (by omega), nI_toInt (by omega)] at h
    simp only [lnU]
    rw [if_pos (by omega)]
theorem lnU_le {v : Nat → Nat} {n : Nat} {acc : Option (Nat × List Nat)} {o : List Nat} (hq : ∀ q, acc = some q → q.1 ≤ 6) (ha : AO v n o ≤ 6) (h : (nI (AO v n o)).toInt ≤ (mo acc).toInt) : lnU v n acc o = acc := by
  rw [nI_toInt (by omega)] at h
  rcases acc with _ | q
  · exact absurd h (by show ¬ ((AO v n o : Nat) : Int) ≤ (-1 : Int32).toInt; rw [show (-1 : Int32).toInt = -1 by decide]; omega)
  · have := hq q rfl
    simp only [mo] at h
    rw [nI_toInt (by omega)] at h
    simp only [lnU]
    rw [if_neg (by omega)]
theorem lnU_some (v : Nat → Nat) (n : Nat) (acc : Option (Nat × List Nat)) (o : List Nat) : ∃ q, lnU v n acc o = some q := by
  unfold lnU
  split
  · exact ⟨_, rfl⟩
  · split
    · exact ⟨_, rfl⟩
    · exact ⟨_, rfl⟩

theorem AsR.up38 {M : Mem} {v : Nat → Nat} (h : AsR M v) {k : Nat} {x : Int32} : AsR (up1 M 38 k x) v := h.keep FS.rf.up
set_option maxRecDepth 100000 in
set_option maxHeartbeats 4000000 in
theorem m_holds {Ω : Om} {l : Launch} {M : Mem} {σ : Sg} (hM : IM M σ) (hW : SgW σ) {x n w : Int32} : Ct Ω l yX12_holds cX12_holds 7 11 (some .int) [.ref (Ω.2.2 34), .int x, .int n, .int w] M (fun ro M' => ro = some (.int (R_holds σ.v x n w)) ∧ IM M' σ ∧ FrC M M') := by
  have hS := hM.ms
  have hLv : Lv σ.v := hW.2.2.1
  have hw := hLv.wv
  have hn := hw.nums
  have hth := hM.there
  refine ct_of (by decide) (Nat.le_of_ble_eq_true rfl) ?_
  intro p e R s m args below meth c
  have key : ∀ (g n : Nat), g < σ.v 2 → 1 ≤ n → n ≤ 30 → inB (nI n) 1 30 = true → inB w 0 1 = true → ∀ (k z : Nat) (M1 : Mem), z + k = 2 ^ σ.v 2 ∧ MsR M1 σ.v ∧ AsR M1 σ.v ∧ FQ M M1 → X (mkG p l e R s m args below meth c Ω (fun ro M' => ro = some (.int (R_holds σ.v (nI g) (nI n) w)) ∧ IM M' σ ∧ FrC M M')) Ω RX12 cX12_holds 7 11 (some .int) 53 [some (.ref (Ω.2.2 34)), some (.int (nI g)), some (.int (nI n)), some (.int w), some (.int (nI (σ.v 4 ||| 2 ^ g))), some (.int (nO (bst (hdF σ.v g n) z))), some (.int (nI z))] [] M1 := by
    intro g n hg n1 n2 hin hin2 k
    obtain ⟨hI, h999⟩ := hLv.goer hg
    have tg := tN_nI (g := g) (by omega)
    have tn := tN_nI (g := n) (by omega)
    have hw01 : w = nI 0 ∨ w = nI 1 := by
      obtain ⟨z, _, _, rfl⟩ := inB_nI hin2 (by decide)
      rcases (show z = 0 ∨ z = 1 by omega) with rfl | rfl
      · exact Or.inl rfl
      · exact Or.inr rfl
    have hpw : 2 ^ σ.v 2 ≤ 64 := Nat.pow_le_pow_right (by decide) hn.2.2.1 (n := 2)
    have hbr : σ.v 4 ||| 2 ^ g < 64 := Nat.or_lt_two_pow (n := 6) hn.2.2.2.2 (bit_lt (by omega))
    induction k with
    | zero =>
      intro z M1 hk
      obtain ⟨hk, hS1, hA1, hF1⟩ := hk
      have hbo : ∀ b, bst (hdF σ.v g n) z = some b → b < 64 := fun b hb => by have := bst_lt hb; omega
      have hno := nO_neg (o := bst (hdF σ.v g n) z) (fun b hb => by have := hbo b hb; omega)
      have hza : z &&& (σ.v 4 ||| 2 ^ g) ≤ z := Nat.and_le_left
      refine x_iload dX12_holds_53 rfl ?_
      refine y_iconst (a := 1) dX12_holds_55 rfl ?_
      refine x_aload_n dX12_holds_56 rfl ?_
      refine g_X12_19 dX12_holds_57 ?_
      refine y_iconst (a := 2) dX12_holds_60 rfl ?_
      refine x_ial dX12_holds_61 (⟨by decide, rfl, rfl, by decide⟩ : Ar 38 45) (by omega) ?_
      rw [hS1.at (by omega)]
      refine y_ishl dX12_holds_62 (by omega) ?_
      try rw [Nat.one_mul]
      refine y_icmp_ge 127 dX12_holds_63 (by omega) (by omega) (fun h_63 => ?_) (fun h_63 => ?_)
      · refine x_iload dX12_holds_127 rfl ?_
        refine x_if_lt 137 dX12_holds_129 (fun h_129 => ?_) (fun h_129 => ?_)
        · refine x_iload dX12_holds_137 rfl ?_
          refine x_goto 147 dX12_holds_139 ?_
          refine x_iret dX12_holds_147 ?_
          obtain rfl : z = 2 ^ σ.v 2 := by omega
          refine ⟨congrArg (fun z => some (Value.int z)) ?_, hM.q hF1 hS1⟩
          unfold R_holds
          rw [if_pos ⟨inR_of hg (by omega), hin, hin2⟩, tg, tn]
          rcases ho : bst (hdF σ.v g n) (2 ^ σ.v 2) with _ | b
          · first
              | rfl
              | (rw [ho] at h_129; exact absurd h_129 (by decide))
          · try (rw [ho9] at ho; cases ho)
            rcases hw01 with rfl | rfl
            · first
                | (exact absurd h_134 (by decide +kernel))
                | (rw [ho] at h_129; exact absurd h_129 (by have := hbo b ho; simp only [nO]; rw [nI_toInt (by omega)]; omega))
                | (simp only [cOS, nO]; rw [if_pos rfl])
                | (simp only [cOS, nO]; rfl)
            · first
                | (exact absurd rfl h_134)
                | (rw [ho] at h_129; exact absurd h_129 (by have := hbo b ho; simp only [nO]; rw [nI_toInt (by omega)]; omega))
                | (simp only [cOS, nO]; rw [if_neg (by decide +kernel)])
        · refine x_iload_n dX12_holds_132 rfl ?_
          refine y_iconst (a := 1) dX12_holds_133 rfl ?_
          refine x_icmp_ne 142 dX12_holds_134 (fun h_134 => ?_) (fun h_134 => ?_)
          · obtain ⟨b9, ho9⟩ : ∃ b, bst (hdF σ.v g n) z = some b := Option.ne_none_iff_exists'.mp (fun q => by have := hno.mpr q; omega)
            have hb5 := hbo b9 ho9
            rw [ho9]
            refine x_iload dX12_holds_142 rfl ?_
            refine q_X12_237 (m_ones (by omega)) dX12_holds_144 rfl ?_
            rintro _ _ ⟨rfl, rfl⟩
            refine x_iret dX12_holds_147 ?_
            obtain rfl : z = 2 ^ σ.v 2 := by omega
            refine ⟨congrArg (fun z => some (Value.int z)) ?_, hM.q hF1 hS1⟩
            unfold R_holds
            rw [if_pos ⟨inR_of hg (by omega), hin, hin2⟩, tg, tn]
            rcases ho : bst (hdF σ.v g n) (2 ^ σ.v 2) with _ | b
            · first
                | rfl
                | (rw [ho] at h_129; exact absurd h_129 (by decide))
            · try (rw [ho9] at ho; cases ho)
              rcases hw01 with rfl | rfl
              · first
                  | (exact absurd h_134 (by decide +kernel))
                  | (rw [ho] at h_129; exact absurd h_129 (by have := hbo b ho; simp only [nO]; rw [nI_toInt (by omega)]; omega))
                  | (simp only [cOS, nO]; rw [if_pos rfl])
                  | (simp only [cOS, nO]; rfl)
              · first
                  | (exact absurd rfl h_134)
                  | (rw [ho] at h_129; exact absurd h_129 (by have := hbo b ho; simp only [nO]; rw [nI_toInt (by omega)]; omega))
                  | (simp only [cOS, nO]; rw [if_neg (by decide +kernel)])
          · refine x_iload dX12_holds_137 rfl ?_
            refine x_goto 147 dX12_holds_139 ?_
            refine x_iret dX12_holds_147 ?_
            obtain rfl : z = 2 ^ σ.v 2 := by omega
            refine ⟨congrArg (fun z => some (Value.int z)) ?_, hM.q hF1 hS1⟩
            unfold R_holds
            rw [if_pos ⟨inR_of hg (by omega), hin, hin2⟩, tg, tn]
            rcases ho : bst (hdF σ.v g n) (2 ^ σ.v 2) with _ | b
            · first
                | rfl
                | (rw [ho] at h_129; exact absurd h_129 (by decide))
            · try (rw [ho9] at ho; cases ho)
              rcases hw01 with rfl | rfl
              · first
                  | (exact absurd h_134 (by decide +kernel))
                  | (rw [ho] at h_129; exact absurd h_129 (by have := hbo b ho; simp only [nO]; rw [nI_toInt (by omega)]; omega))
                  | (simp only [cOS, nO]; rw [if_pos rfl])
                  | (simp only [cOS, nO]; rfl)
              · first
                  | (exact absurd rfl h_134)
                  | (rw [ho] at h_129; exact absurd h_129 (by have := hbo b ho; simp only [nO]; rw [nI_toInt (by omega)]; omega))
                  | (simp only [cOS, nO]; rw [if_neg (by decide +kernel)])
      · exfalso; omega
    | succ k ih =>
      intro z M1 hk
      obtain ⟨hk, hS1, hA1, hF1⟩ := hk
      have hbo : ∀ b, bst (hdF σ.v g n) z = some b → b < 64 := fun b hb => by have := bst_lt hb; omega
      have hno := nO_neg (o := bst (hdF σ.v g n) z) (fun b hb => by have := hbo b hb; omega)
      have hza : z &&& (σ.v 4 ||| 2 ^ g) ≤ z := Nat.and_le_left
      refine x_iload dX12_holds_53 rfl ?_
      refine y_iconst (a := 1) dX12_holds_55 rfl ?_
      refine x_aload_n dX12_holds_56 rfl ?_
      refine g_X12_19 dX12_holds_57 ?_
      refine y_iconst (a := 2) dX12_holds_60 rfl ?_
      refine x_ial dX12_holds_61 (⟨by decide, rfl, rfl, by decide⟩ : Ar 38 45) (by omega) ?_
      rw [hS1.at (by omega)]
      refine y_ishl dX12_holds_62 (by omega) ?_
      try rw [Nat.one_mul]
      refine y_icmp_ge 127 dX12_holds_63 (by omega) (by omega) (fun h_63 => ?_) (fun h_63 => ?_)
      · refine x_iload dX12_holds_127 rfl ?_
        refine x_if_lt 137 dX12_holds_129 (fun h_129 => ?_) (fun h_129 => ?_)
        · refine x_iload dX12_holds_137 rfl ?_
          refine x_goto 147 dX12_holds_139 ?_
          refine x_iret dX12_holds_147 ?_
          obtain rfl : z = 2 ^ σ.v 2 := by omega
          refine ⟨congrArg (fun z => some (Value.int z)) ?_, hM.q hF1 hS1⟩
          unfold R_holds
          rw [if_pos ⟨inR_of hg (by omega), hin, hin2⟩, tg, tn]
          rcases ho : bst (hdF σ.v g n) (2 ^ σ.v 2) with _ | b
          · first
              | rfl
              | (rw [ho] at h_129; exact absurd h_129 (by decide))
          · try (rw [ho9] at ho; cases ho)
            rcases hw01 with rfl | rfl
            · first
                | (exact absurd h_134 (by decide +kernel))
                | (rw [ho] at h_129; exact absurd h_129 (by have := hbo b ho; simp only [nO]; rw [nI_toInt (by omega)]; omega))
                | (simp only [cOS, nO]; rw [if_pos rfl])
                | (simp only [cOS, nO]; rfl)
            · first
                | (exact absurd rfl h_134)
                | (rw [ho] at h_129; exact absurd h_129 (by have := hbo b ho; simp only [nO]; rw [nI_toInt (by omega)]; omega))
                | (simp only [cOS, nO]; rw [if_neg (by decide +kernel)])
        · refine x_iload_n dX12_holds_132 rfl ?_
          refine y_iconst (a := 1) dX12_holds_133 rfl ?_
          refine x_icmp_ne 142 dX12_holds_134 (fun h_134 => ?_) (fun h_134 => ?_)
          · obtain ⟨b9, ho9⟩ : ∃ b, bst (hdF σ.v g n) z = some b := Option.ne_none_iff_exists'.mp (fun q => by have := hno.mpr q; omega)
            have hb5 := hbo b9 ho9
            rw [ho9]
            refine x_iload dX12_holds_142 rfl ?_
            refine q_X12_237 (m_ones (by omega)) dX12_holds_144 rfl ?_
            rintro _ _ ⟨rfl, rfl⟩
            refine x_iret dX12_holds_147 ?_
            obtain rfl : z = 2 ^ σ.v 2 := by omega
            refine ⟨congrArg (fun z => some (Value.int z)) ?_, hM.q hF1 hS1⟩
            unfold R_holds
            rw [if_pos ⟨inR_of hg (by omega), hin, hin2⟩, tg, tn]
            rcases ho : bst (hdF σ.v g n) (2 ^ σ.v 2) with _ | b
            · first
                | rfl
                | (rw [ho] at h_129; exact absurd h_129 (by decide))
            · try (rw [ho9] at ho; cases ho)
              rcases hw01 with rfl | rfl
              · first
                  | (exact absurd h_134 (by decide +kernel))
                  | (rw [ho] at h_129; exact absurd h_129 (by have := hbo b ho; simp only [nO]; rw [nI_toInt (by omega)]; omega))
                  | (simp only [cOS, nO]; rw [if_pos rfl])
                  | (simp only [cOS, nO]; rfl)
              · first
                  | (exact absurd rfl h_134)
                  | (rw [ho] at h_129; exact absurd h_129 (by have := hbo b ho; simp only [nO]; rw [nI_toInt (by omega)]; omega))
                  | (simp only [cOS, nO]; rw [if_neg (by decide +kernel)])
          · refine x_iload dX12_holds_137 rfl ?_
            refine x_goto 147 dX12_holds_139 ?_
            refine x_iret dX12_holds_147 ?_
            obtain rfl : z = 2 ^ σ.v 2 := by omega
            refine ⟨congrArg (fun z => some (Value.int z)) ?_, hM.q hF1 hS1⟩
            unfold R_holds
            rw [if_pos ⟨inR_of hg (by omega), hin, hin2⟩, tg, tn]
            rcases ho : bst (hdF σ.v g n) (2 ^ σ.v 2) with _ | b
            · first
                | rfl
                | (rw [ho] at h_129; exact absurd h_129 (by decide))
            · try (rw [ho9] at ho; cases ho)
              rcases hw01 with rfl | rfl
              · first
                  | (exact absurd h_134 (by decide +kernel))
                  | (rw [ho] at h_129; exact absurd h_129 (by have := hbo b ho; simp only [nO]; rw [nI_toInt (by omega)]; omega))
                  | (simp only [cOS, nO]; rw [if_pos rfl])
                  | (simp only [cOS, nO]; rfl)
              · first
                  | (exact absurd rfl h_134)
                  | (rw [ho] at h_129; exact absurd h_129 (by have := hbo b ho; simp only [nO]; rw [nI_toInt (by omega)]; omega))
                  | (simp only [cOS, nO]; rw [if_neg (by decide +kernel)])
      · refine x_iload dX12_holds_66 rfl ?_
        refine x_iload dX12_holds_68 rfl ?_
        refine y_iand dX12_holds_70 ?_
        refine y_if_ne 121 dX12_holds_71 (by omega) (fun h_71 => ?_) (fun h_71 => ?_)
        · refine y_iinc dX12_holds_121 rfl ?_
          refine x_goto 53 dX12_holds_124 ?_
          first
            | (have hff : hdF σ.v g n z = false := by simp [hdF, h_71]
               have hh := ih (z + 1) _ ⟨by omega, hS1, hA1, hF1⟩
               rw [bst_skipF (f := (hdF σ.v g n)) hff] at hh
               exact hh)
            | (have hh := ih (z + 1) _ ⟨by omega, hS1, hA1, hF1⟩
               rw [bst_skipP ho h_89, ho] at hh
               exact hh)
            | (have hlt : ∀ b, bst (hdF σ.v g n) z = some b → pop z < pop b := by
                 intro b hb
                 first
                   | (have := hno.mp h_76; rw [this] at hb; cases hb)
                   | (rw [ho] at hb; cases hb; exact h_89)
               have hff : hdF σ.v g n z = abv (hrs (sv σ.v 4 (σ.v 4 ||| z)) n) g := by simp [hdF, h_71]
               have hh := ih (z + 1) _ ⟨by omega, hS3, hA1.up38.keep hF3, (hF1.s FS.rf.up).s hF3⟩
               rw [bst_take hlt, hff] at hh
               first
                 | (rw [if_pos h_109] at hh; exact hh)
                 | (rw [if_neg (fun q => Bool.false_ne_true (h_109.symm.trans q))] at hh; exact hh)
                 | (rw [if_neg (fun q => Bool.false_ne_true (h_109.symm.trans q)), ho] at hh; exact hh))
        · refine x_iload dX12_holds_74 rfl ?_
          refine x_if_lt 92 dX12_holds_76 (fun h_76 => ?_) (fun h_76 => ?_)
          · refine x_aload_n dX12_holds_92 rfl ?_
            refine g_X12_19 dX12_holds_93 ?_
            refine y_iconst (a := 4) dX12_holds_96 rfl ?_
            refine x_dup2 dX12_holds_97 rfl rfl ?_
            refine x_ial dX12_holds_98 (⟨by decide, rfl, rfl, by decide⟩ : Ar 38 45) (by omega) ?_
            rw [hS1.at (by omega)]
            refine x_iload dX12_holds_99 rfl ?_
            refine y_ior dX12_holds_101 ?_
            refine x_ias dX12_holds_102 (⟨by decide, rfl, rfl, by decide⟩ : Ar 38 45) (by omega) ?_
            have hS2 := hS1.set 4 (σ.v 4 ||| z)
            have hI2 := hI.setHd (y := σ.v 4 ||| z) (Nat.or_lt_two_pow (n := 6) hn.2.2.2.2 (by omega))
            refine x_aload_n dX12_holds_103 rfl ?_
            refine x_iload_n dX12_holds_104 rfl ?_
            refine x_iload_n dX12_holds_105 rfl ?_
            refine q_X12_240 (m_isAboveBy hS2 hI2 hA1.up38 (by rw [sv_ne _ _ (by omega)]; exact hg) (by omega) (by rw [sv_ne _ _ (by omega)]; omega)) dX12_holds_106 rfl ?_
            rintro _ M3 ⟨rfl, hS3, hF3⟩
            refine z_if_eq 117 dX12_holds_109 (fun h_109 => ?_) (fun h_109 => ?_)
            · refine x_iload dX12_holds_117 rfl ?_
              refine x_istore dX12_holds_119 ?_
              refine y_iinc dX12_holds_121 rfl ?_
              refine x_goto 53 dX12_holds_124 ?_
              first
                | (have hff : hdF σ.v g n z = false := by simp [hdF, h_71]
                   have hh := ih (z + 1) _ ⟨by omega, hS1, hA1, hF1⟩
                   rw [bst_skipF (f := (hdF σ.v g n)) hff] at hh
                   exact hh)
                | (have hh := ih (z + 1) _ ⟨by omega, hS1, hA1, hF1⟩
                   rw [bst_skipP ho h_89, ho] at hh
                   exact hh)
                | (have hlt : ∀ b, bst (hdF σ.v g n) z = some b → pop z < pop b := by
                     intro b hb
                     first
                       | (have := hno.mp h_76; rw [this] at hb; cases hb)
                       | (rw [ho] at hb; cases hb; exact h_89)
                   have hff : hdF σ.v g n z = abv (hrs (sv σ.v 4 (σ.v 4 ||| z)) n) g := by simp [hdF, h_71]
                   have hh := ih (z + 1) _ ⟨by omega, hS3, hA1.up38.keep hF3, (hF1.s FS.rf.up).s hF3⟩
                   rw [bst_take hlt, hff] at hh
                   first
                     | (rw [if_pos h_109] at hh; exact hh)
                     | (rw [if_neg (fun q => Bool.false_ne_true (h_109.symm.trans q))] at hh; exact hh)
                     | (rw [if_neg (fun q => Bool.false_ne_true (h_109.symm.trans q)), ho] at hh; exact hh))
            · refine x_iload dX12_holds_112 rfl ?_
              refine x_goto 119 dX12_holds_114 ?_
              refine x_istore dX12_holds_119 ?_
              refine y_iinc dX12_holds_121 rfl ?_
              refine x_goto 53 dX12_holds_124 ?_
              first
                | (have hff : hdF σ.v g n z = false := by simp [hdF, h_71]
                   have hh := ih (z + 1) _ ⟨by omega, hS1, hA1, hF1⟩
                   rw [bst_skipF (f := (hdF σ.v g n)) hff] at hh
                   exact hh)
                | (have hh := ih (z + 1) _ ⟨by omega, hS1, hA1, hF1⟩
                   rw [bst_skipP ho h_89, ho] at hh
                   exact hh)
                | (have hlt : ∀ b, bst (hdF σ.v g n) z = some b → pop z < pop b := by
                     intro b hb
                     first
                       | (have := hno.mp h_76; rw [this] at hb; cases hb)
                       | (rw [ho] at hb; cases hb; exact h_89)
                   have hff : hdF σ.v g n z = abv (hrs (sv σ.v 4 (σ.v 4 ||| z)) n) g := by simp [hdF, h_71]
                   have hh := ih (z + 1) _ ⟨by omega, hS3, hA1.up38.keep hF3, (hF1.s FS.rf.up).s hF3⟩
                   rw [bst_take hlt, hff] at hh
                   first
                     | (rw [if_pos h_109] at hh; exact hh)
                     | (rw [if_neg (fun q => Bool.false_ne_true (h_109.symm.trans q))] at hh; exact hh)
                     | (rw [if_neg (fun q => Bool.false_ne_true (h_109.symm.trans q)), ho] at hh; exact hh))
          · obtain ⟨b, ho⟩ : ∃ b, bst (hdF σ.v g n) z = some b := Option.ne_none_iff_exists'.mp (fun q => by have := hno.mpr q; omega)
            have hb5 := hbo b ho
            have hp9 := pop_le9 b (by omega)
            have hpz := pop_le9 z (by omega)
            rw [ho]
            refine x_iload dX12_holds_79 rfl ?_
            refine q_X12_237 (m_ones (by omega)) dX12_holds_81 rfl ?_
            rintro _ _ ⟨rfl, rfl⟩
            refine x_iload dX12_holds_84 rfl ?_
            refine q_X12_237 (m_ones (by omega)) dX12_holds_86 rfl ?_
            rintro _ _ ⟨rfl, rfl⟩
            refine y_icmp_ge 121 dX12_holds_89 (by omega) (by omega) (fun h_89 => ?_) (fun h_89 => ?_)
            · refine y_iinc dX12_holds_121 rfl ?_
              refine x_goto 53 dX12_holds_124 ?_
              first
                | (have hff : hdF σ.v g n z = false := by simp [hdF, h_71]
                   have hh := ih (z + 1) _ ⟨by omega, hS1, hA1, hF1⟩
                   rw [bst_skipF (f := (hdF σ.v g n)) hff] at hh
                   exact hh)
                | (have hh := ih (z + 1) _ ⟨by omega, hS1, hA1, hF1⟩
                   rw [bst_skipP ho h_89, ho] at hh
                   exact hh)
                | (have hlt : ∀ b, bst (hdF σ.v g n) z = some b → pop z < pop b := by
                     intro b hb
                     first
                       | (have := hno.mp h_76; rw [this] at hb; cases hb)
                       | (rw [ho] at hb; cases hb; exact h_89)
                   have hff : hdF σ.v g n z = abv (hrs (sv σ.v 4 (σ.v 4 ||| z)) n) g := by simp [hdF, h_71]
                   have hh := ih (z + 1) _ ⟨by omega, hS3, hA1.up38.keep hF3, (hF1.s FS.rf.up).s hF3⟩
                   rw [bst_take hlt, hff] at hh
                   first
                     | (rw [if_pos h_109] at hh; exact hh)
                     | (rw [if_neg (fun q => Bool.false_ne_true (h_109.symm.trans q))] at hh; exact hh)
                     | (rw [if_neg (fun q => Bool.false_ne_true (h_109.symm.trans q)), ho] at hh; exact hh))
            · refine x_aload_n dX12_holds_92 rfl ?_
              refine g_X12_19 dX12_holds_93 ?_
              refine y_iconst (a := 4) dX12_holds_96 rfl ?_
              refine x_dup2 dX12_holds_97 rfl rfl ?_
              refine x_ial dX12_holds_98 (⟨by decide, rfl, rfl, by decide⟩ : Ar 38 45) (by omega) ?_
              rw [hS1.at (by omega)]
              refine x_iload dX12_holds_99 rfl ?_
              refine y_ior dX12_holds_101 ?_
              refine x_ias dX12_holds_102 (⟨by decide, rfl, rfl, by decide⟩ : Ar 38 45) (by omega) ?_
              have hS2 := hS1.set 4 (σ.v 4 ||| z)
              have hI2 := hI.setHd (y := σ.v 4 ||| z) (Nat.or_lt_two_pow (n := 6) hn.2.2.2.2 (by omega))
              refine x_aload_n dX12_holds_103 rfl ?_
              refine x_iload_n dX12_holds_104 rfl ?_
              refine x_iload_n dX12_holds_105 rfl ?_
              refine q_X12_240 (m_isAboveBy hS2 hI2 hA1.up38 (by rw [sv_ne _ _ (by omega)]; exact hg) (by omega) (by rw [sv_ne _ _ (by omega)]; omega)) dX12_holds_106 rfl ?_
              rintro _ M3 ⟨rfl, hS3, hF3⟩
              refine z_if_eq 117 dX12_holds_109 (fun h_109 => ?_) (fun h_109 => ?_)
              · refine x_iload dX12_holds_117 rfl ?_
                refine x_istore dX12_holds_119 ?_
                refine y_iinc dX12_holds_121 rfl ?_
                refine x_goto 53 dX12_holds_124 ?_
                first
                  | (have hff : hdF σ.v g n z = false := by simp [hdF, h_71]
                     have hh := ih (z + 1) _ ⟨by omega, hS1, hA1, hF1⟩
                     rw [bst_skipF (f := (hdF σ.v g n)) hff] at hh
                     exact hh)
                  | (have hh := ih (z + 1) _ ⟨by omega, hS1, hA1, hF1⟩
                     rw [bst_skipP ho h_89, ho] at hh
                     exact hh)
                  | (have hlt : ∀ b, bst (hdF σ.v g n) z = some b → pop z < pop b := by
                       intro b hb
                       first
                         | (have := hno.mp h_76; rw [this] at hb; cases hb)
                         | (rw [ho] at hb; cases hb; exact h_89)
                     have hff : hdF σ.v g n z = abv (hrs (sv σ.v 4 (σ.v 4 ||| z)) n) g := by simp [hdF, h_71]
                     have hh := ih (z + 1) _ ⟨by omega, hS3, hA1.up38.keep hF3, (hF1.s FS.rf.up).s hF3⟩
                     rw [bst_take hlt, hff] at hh
                     first
                       | (rw [if_pos h_109] at hh; exact hh)
                       | (rw [if_neg (fun q => Bool.false_ne_true (h_109.symm.trans q))] at hh; exact hh)
                       | (rw [if_neg (fun q => Bool.false_ne_true (h_109.symm.trans q)), ho] at hh; exact hh))
              · refine x_iload dX12_holds_112 rfl ?_
                refine x_goto 119 dX12_holds_114 ?_
                refine x_istore dX12_holds_119 ?_
                refine y_iinc dX12_holds_121 rfl ?_
                refine x_goto 53 dX12_holds_124 ?_
                first
                  | (have hff : hdF σ.v g n z = false := by simp [hdF, h_71]
                     have hh := ih (z + 1) _ ⟨by omega, hS1, hA1, hF1⟩
                     rw [bst_skipF (f := (hdF σ.v g n)) hff] at hh
                     exact hh)
                  | (have hh := ih (z + 1) _ ⟨by omega, hS1, hA1, hF1⟩
                     rw [bst_skipP ho h_89, ho] at hh
                     exact hh)
                  | (have hlt : ∀ b, bst (hdF σ.v g n) z = some b → pop z < pop b := by
                       intro b hb
                       first
                         | (have := hno.mp h_76; rw [this] at hb; cases hb)
                         | (rw [ho] at hb; cases hb; exact h_89)
                     have hff : hdF σ.v g n z = abv (hrs (sv σ.v 4 (σ.v 4 ||| z)) n) g := by simp [hdF, h_71]
                     have hh := ih (z + 1) _ ⟨by omega, hS3, hA1.up38.keep hF3, (hF1.s FS.rf.up).s hF3⟩
                     rw [bst_take hlt, hff] at hh
                     first
                       | (rw [if_pos h_109] at hh; exact hh)
                       | (rw [if_neg (fun q => Bool.false_ne_true (h_109.symm.trans q))] at hh; exact hh)
                       | (rw [if_neg (fun q => Bool.false_ne_true (h_109.symm.trans q)), ho] at hh; exact hh))
  refine x_aload_n dX12_holds_0 rfl ?_
  refine x_iload_n dX12_holds_1 rfl ?_
  refine q_X12_209 (m_isGoer hS (by omega)) dX12_holds_2 rfl ?_
  rintro _ _ ⟨rfl, rfl⟩
  refine z_if_eq 27 dX12_holds_5 (fun h_5 => ?_) (fun h_5 => ?_)
  · refine x_ldc dX12_holds_27 k_X12_70 ?_
    refine x_iret dX12_holds_29 ?_
    refine ⟨congrArg (fun z => some (Value.int z)) ?_, hM, FrC.rf⟩
    simp [R_holds, *]
  · obtain ⟨g, hg, rfl⟩ := inR_nI h_5 (by omega)
    obtain ⟨hI, h999⟩ := hLv.goer hg
    have tg := tN_nI (g := g) (by omega)
    have hgo := hw.goer hg
    refine x_iload_n dX12_holds_8 rfl ?_
    refine x_i2l dX12_holds_9 ?_
    refine x_lconst (v := lN 1) dX12_holds_10 rfl ?_
    refine x_ldc2 (v := lN 30) dX12_holds_11 k_X12_212 ?_
    refine q_X12_60 (m_inB (by decide) (by decide)) dX12_holds_14 rfl ?_
    rintro _ _ ⟨rfl, rfl⟩
    refine z_if_eq 27 dX12_holds_17 (fun h_17 => ?_) (fun h_17 => ?_)
    · refine x_ldc dX12_holds_27 k_X12_70 ?_
      refine x_iret dX12_holds_29 ?_
      refine ⟨congrArg (fun z => some (Value.int z)) ?_, hM, FrC.rf⟩
      simp [R_holds, *]
    · obtain ⟨n, n1, n2, rfl⟩ := inB_nI h_17 (by decide)
      refine x_iload_n dX12_holds_20 rfl ?_
      refine q_X12_231 (m_isWhat) dX12_holds_21 rfl ?_
      rintro _ _ ⟨rfl, rfl⟩
      refine z_if_ne 30 dX12_holds_24 (fun h_24 => ?_) (fun h_24 => ?_)
      · refine x_aload_n dX12_holds_30 rfl ?_
        refine q_X12_228 (m_putAside hS) dX12_holds_31 rfl ?_
        rintro _ M0 ⟨rfl, hA0, hF0⟩
        have hS0 := hS.fc hF0 (by decide)
        refine x_aload_n dX12_holds_34 rfl ?_
        refine g_X12_34 dX12_holds_35 ?_
        refine y_iconst (a := 4) dX12_holds_38 rfl ?_
        refine x_ial dX12_holds_39 (⟨by decide, rfl, rfl, by decide⟩ : Ar 43 45) (by omega) ?_
        rw [hA0.at (by omega)]
        refine y_iconst (a := 1) dX12_holds_40 rfl ?_
        refine x_iload_n dX12_holds_41 rfl ?_
        refine y_ishl dX12_holds_42 (by omega) ?_
        try rw [Nat.one_mul]
        refine y_ior dX12_holds_43 ?_
        refine x_istore dX12_holds_44 ?_
        refine x_ldc dX12_holds_46 k_X12_167 ?_
        refine x_istore dX12_holds_48 ?_
        refine y_iconst (a := 0) dX12_holds_50 rfl ?_
        refine x_istore dX12_holds_51 ?_
        exact key g n hg n1 n2 h_17 h_24 _ 0 _ ⟨Nat.zero_add _, hS0, hA0, FQ.rf.c hF0 (by omega)⟩
      · refine x_ldc dX12_holds_27 k_X12_70 ?_
        refine x_iret dX12_holds_29 ?_
        refine ⟨congrArg (fun z => some (Value.int z)) ?_, hM, FrC.rf⟩
        simp [R_holds, *]
set_option maxRecDepth 100000 in
set_option maxHeartbeats 4000000 in
theorem m_heavy {Ω : Om} {l : Launch} {M : Mem} {σ : Sg} (hM : IM M σ) (hW : SgW σ) {n : Int32} : Ct Ω l yX12_heavy cX12_heavy 5 11 (some .int) [.ref (Ω.2.2 34), .int n] M (fun ro M' => ro = some (.int (R_heavy σ.v n)) ∧ IM M' σ ∧ FrC M M') := by
  have hS := hM.ms
  have hLv : Lv σ.v := hW.2.2.1
  have hw := hLv.wv
  have hn := hw.nums
  have hth := hM.there
  refine ct_of (by decide) (Nat.le_of_ble_eq_true rfl) ?_
  intro p e R s m args below meth c
  have key : ∀ (n : Nat), 1 ≤ n → n ≤ 60 → inB (nI n) 1 60 = true → Iv σ.v → σ.v 3 ≤ 999 → σ.v 2 < 6 → ∀ (k : Nat) (o : Option Nat) (M1 : Mem), k ≤ 30 ∧ (∀ b, o = some b → gst (fun w => abv (hrs (agV σ.v 1 w (σ.v 3)) n) (σ.v 2)) 30 = some b) ∧ (o = none → gst (fun w => abv (hrs (agV σ.v 1 w (σ.v 3)) n) (σ.v 2)) 30 = gst (fun w => abv (hrs (agV σ.v 1 w (σ.v 3)) n) (σ.v 2)) k) ∧ MsR M1 σ.v ∧ AsR M1 σ.v ∧ FQ M M1 → X (mkG p l e R s m args below meth c Ω (fun ro M' => ro = some (.int (R_heavy σ.v (nI n))) ∧ IM M' σ ∧ FrC M M')) Ω RX12 cX12_heavy 5 11 (some .int) 52 [some (.ref (Ω.2.2 34)), some (.int (nI n)), some (.int (nI (σ.v 2))), some (.int (nO o)), some (.int (nI k))] [] M1 := by
    intro n n1 n2 hin hI h999 h6 k
    have tn := tN_nI (g := n) (by omega)
    have h00 : ¬ σ.v 0 = 0 := by have := hI.2.1; omega
    have fin : ∀ (o : Option Nat), gst (fun w => abv (hrs (agV σ.v 1 w (σ.v 3)) n) (σ.v 2)) 30 = o → R_heavy σ.v (nI n) = nO o := by
      intro o ho
      unfold R_heavy gwV
      rw [if_neg h00, if_pos hin, if_pos h6, tn, ho]
    induction k with
    | zero =>
      intro o M1 hk
      obtain ⟨hk, ho1, ho2, hS1, hA1, hF1⟩ := hk
      have hno := nO_neg (o := o) (fun b hb => by have := gst_le (ho1 b hb); omega)
      refine x_iload dX12_heavy_52 rfl ?_
      refine y_if_le 160 dX12_heavy_54 (by omega) (fun h_54 => ?_) (fun h_54 => ?_)
      · refine x_iload_n dX12_heavy_160 rfl ?_
        refine x_iret dX12_heavy_161 ?_
        first
          | (exfalso; omega)
          | (refine ⟨congrArg (fun z => some (Value.int z)) ?_, hM.q hF1 hS1⟩
             rw [fin o]
             rcases o with _ | b
             · first
                 | (rw [ho2 rfl]; rfl)
                 | (exact absurd h_58 (by decide))
             · exact ho1 b rfl)
      · exfalso; omega
    | succ k ih =>
      intro o M1 hk
      obtain ⟨hk, ho1, ho2, hS1, hA1, hF1⟩ := hk
      have hno := nO_neg (o := o) (fun b hb => by have := gst_le (ho1 b hb); omega)
      refine x_iload dX12_heavy_52 rfl ?_
      refine y_if_le 160 dX12_heavy_54 (by omega) (fun h_54 => ?_) (fun h_54 => ?_)
      · refine x_iload_n dX12_heavy_160 rfl ?_
        refine x_iret dX12_heavy_161 ?_
        first
          | (exfalso; omega)
          | (refine ⟨congrArg (fun z => some (Value.int z)) ?_, hM.q hF1 hS1⟩
             rw [fin o]
             rcases o with _ | b
             · first
                 | (rw [ho2 rfl]; rfl)
                 | (exact absurd h_58 (by decide))
             · exact ho1 b rfl)
      · refine x_iload_n dX12_heavy_57 rfl ?_
        refine x_if_ge 160 dX12_heavy_58 (fun h_58 => ?_) (fun h_58 => ?_)
        · refine x_iload_n dX12_heavy_160 rfl ?_
          refine x_iret dX12_heavy_161 ?_
          first
            | (exfalso; omega)
            | (refine ⟨congrArg (fun z => some (Value.int z)) ?_, hM.q hF1 hS1⟩
               rw [fin o]
               rcases o with _ | b
               · first
                   | (rw [ho2 rfl]; rfl)
                   | (exact absurd h_58 (by decide))
               · exact ho1 b rfl)
        · have hon : o = none := hno.mp (by omega)
          refine x_aload_n dX12_heavy_61 rfl ?_
          refine g_X12_19 dX12_heavy_62 ?_
          refine x_bipush (v := nI 15) dX12_heavy_65 rfl ?_
          refine x_iload_n dX12_heavy_67 rfl ?_
          refine y_iadd dX12_heavy_68 ?_
          refine y_iconst (a := 1) dX12_heavy_69 rfl ?_
          refine x_ias dX12_heavy_70 (⟨by decide, rfl, rfl, by decide⟩ : Ar 38 45) (by omega) ?_
          have hSa := hS1.set (15 + σ.v 2) 1
          refine x_aload_n dX12_heavy_71 rfl ?_
          refine g_X12_19 dX12_heavy_72 ?_
          refine x_bipush (v := nI 21) dX12_heavy_75 rfl ?_
          refine x_iload_n dX12_heavy_77 rfl ?_
          refine y_iadd dX12_heavy_78 ?_
          refine x_iload dX12_heavy_79 rfl ?_
          refine x_ias dX12_heavy_81 (⟨by decide, rfl, rfl, by decide⟩ : Ar 38 45) (by omega) ?_
          have hSb := hSa.set (21 + σ.v 2) (k + 1)
          refine x_aload_n dX12_heavy_82 rfl ?_
          refine g_X12_19 dX12_heavy_83 ?_
          refine x_bipush (v := nI 27) dX12_heavy_86 rfl ?_
          refine x_iload_n dX12_heavy_88 rfl ?_
          refine y_iadd dX12_heavy_89 ?_
          refine x_aload_n dX12_heavy_90 rfl ?_
          refine g_X12_19 dX12_heavy_91 ?_
          refine y_iconst (a := 3) dX12_heavy_94 rfl ?_
          refine x_ial dX12_heavy_95 (⟨by decide, rfl, rfl, by decide⟩ : Ar 38 45) (by omega) ?_
          rw [hSb.at (by omega), sv_ne _ _ (by omega), sv_ne _ _ (by omega)]
          refine x_ias dX12_heavy_96 (⟨by decide, rfl, rfl, by decide⟩ : Ar 38 45) (by omega) ?_
          have hSc := hSb.set (27 + σ.v 2) (σ.v 3)
          refine x_aload_n dX12_heavy_97 rfl ?_
          refine g_X12_19 dX12_heavy_98 ?_
          refine x_bipush (v := nI 33) dX12_heavy_101 rfl ?_
          refine x_iload_n dX12_heavy_103 rfl ?_
          refine y_iadd dX12_heavy_104 ?_
          refine y_iconst (a := 0) dX12_heavy_105 rfl ?_
          refine x_ias dX12_heavy_106 (⟨by decide, rfl, rfl, by decide⟩ : Ar 38 45) (by omega) ?_
          have hSd := hSc.set (33 + σ.v 2) 0
          refine x_aload_n dX12_heavy_107 rfl ?_
          refine g_X12_19 dX12_heavy_108 ?_
          refine x_bipush (v := nI 39) dX12_heavy_111 rfl ?_
          refine x_iload_n dX12_heavy_113 rfl ?_
          refine y_iadd dX12_heavy_114 ?_
          refine y_iconst (a := 0) dX12_heavy_115 rfl ?_
          refine x_ias dX12_heavy_116 (⟨by decide, rfl, rfl, by decide⟩ : Ar 38 45) (by omega) ?_
          have hSe := hSd.set (39 + σ.v 2) 0
          refine x_aload_n dX12_heavy_117 rfl ?_
          refine g_X12_19 dX12_heavy_118 ?_
          refine y_iconst (a := 5) dX12_heavy_121 rfl ?_
          refine x_dup2 dX12_heavy_122 rfl rfl ?_
          refine x_ial dX12_heavy_123 (⟨by decide, rfl, rfl, by decide⟩ : Ar 38 45) (by omega) ?_
          rw [hSe.at (by omega), sv_ne _ _ (by omega), sv_ne _ _ (by omega), sv_ne _ _ (by omega), sv_ne _ _ (by omega), sv_ne _ _ (by omega)]
          refine y_iconst (a := 1) dX12_heavy_124 rfl ?_
          refine x_iload_n dX12_heavy_125 rfl ?_
          refine y_ishl dX12_heavy_126 (by omega) ?_
          try rw [Nat.one_mul]
          refine y_ior dX12_heavy_127 ?_
          refine x_ias dX12_heavy_128 (⟨by decide, rfl, rfl, by decide⟩ : Ar 38 45) (by omega) ?_
          have hSf := hSe.set 5 (σ.v 5 ||| 2 ^ σ.v 2)
          refine x_aload_n dX12_heavy_129 rfl ?_
          refine g_X12_19 dX12_heavy_130 ?_
          refine y_iconst (a := 2) dX12_heavy_133 rfl ?_
          refine x_iload_n dX12_heavy_134 rfl ?_
          refine y_iconst (a := 1) dX12_heavy_135 rfl ?_
          refine y_iadd dX12_heavy_136 ?_
          refine x_ias dX12_heavy_137 (⟨by decide, rfl, rfl, by decide⟩ : Ar 38 45) (by omega) ?_
          have hS8 := (hSf.set 2 (σ.v 2 + 1)).congr (fun j hj => agV_sv h6 (k + 1) (σ.v 3) hj)
          have hF7 := (((((((FS.rf (M := M1)).up (k := 15 + σ.v 2) (x := nI 1)).up (k := 21 + σ.v 2) (x := nI (k + 1))).up (k := 27 + σ.v 2) (x := nI (σ.v 3))).up (k := 33 + σ.v 2) (x := nI 0)).up (k := 39 + σ.v 2) (x := nI 0)).up (k := 5) (x := nI (σ.v 5 ||| 2 ^ σ.v 2))).up (k := 2) (x := nI (σ.v 2 + 1))
          have hA8 := hA1.keep hF7
          have hF8 := hF1.s hF7
          refine x_aload_n dX12_heavy_138 rfl ?_
          refine x_iload_n dX12_heavy_139 rfl ?_
          refine x_iload_n dX12_heavy_140 rfl ?_
          refine q_X12_240 (m_isAboveBy hS8 (agV_Iv hI h6 (by omega) (by omega) (by omega)) hA8 (by simp [agV]) (by omega) (by rw [agV_ne (by omega) (by omega) (by omega) (by omega) (by omega) (by omega) (by omega)]; omega)) dX12_heavy_141 rfl ?_
          rintro _ M3 ⟨rfl, hS3, hF3⟩
          refine z_if_eq 152 dX12_heavy_144 (fun h_144 => ?_) (fun h_144 => ?_)
          · refine x_iload_n dX12_heavy_152 rfl ?_
            refine x_istore_n dX12_heavy_153 ?_
            refine y_idec dX12_heavy_154 rfl ?_
            refine x_goto 52 dX12_heavy_157 ?_
            first
              | exact ih (some (k + 1)) _ ⟨by omega, fun b hb => (by cases hb; rw [ho2 hon]; simp only [gst]; rw [if_pos h_144]), fun z => by (cases z), hS3, hA8.keep hF3, hF8.s hF3⟩
              | (have hh := ih none _ ⟨by omega, fun b hb => (by cases hb), fun _ => (by rw [ho2 hon]; simp only [gst]; rw [if_neg (fun q => Bool.false_ne_true (h_144.symm.trans q))]), hS3, hA8.keep hF3, hF8.s hF3⟩
                 subst hon
                 exact hh)
          · refine x_iload dX12_heavy_147 rfl ?_
            refine x_goto 153 dX12_heavy_149 ?_
            refine x_istore_n dX12_heavy_153 ?_
            refine y_idec dX12_heavy_154 rfl ?_
            refine x_goto 52 dX12_heavy_157 ?_
            first
              | exact ih (some (k + 1)) _ ⟨by omega, fun b hb => (by cases hb; rw [ho2 hon]; simp only [gst]; rw [if_pos h_144]), fun z => by (cases z), hS3, hA8.keep hF3, hF8.s hF3⟩
              | (have hh := ih none _ ⟨by omega, fun b hb => (by cases hb), fun _ => (by rw [ho2 hon]; simp only [gst]; rw [if_neg (fun q => Bool.false_ne_true (h_144.symm.trans q))]), hS3, hA8.keep hF3, hF8.s hF3⟩
                 subst hon
                 exact hh)
  refine x_aload_n dX12_heavy_0 rfl ?_
  refine g_X12_147 dX12_heavy_1 ?_
  rw [hth]
  refine z_if_ne 10 dX12_heavy_4 (fun h_4 => ?_) (fun h_4 => ?_)
  · simp only [decide_eq_true_eq] at h_4
    obtain ⟨hI, h999⟩ : Iv σ.v ∧ σ.v 3 ≤ 999 := by
      rcases hLv with z | z
      · exact z
      · exact absurd (z 0 (by decide)) h_4
    refine x_iload_n dX12_heavy_10 rfl ?_
    refine x_i2l dX12_heavy_11 ?_
    refine x_lconst (v := lN 1) dX12_heavy_12 rfl ?_
    refine x_ldc2 (v := lN 60) dX12_heavy_13 k_X12_226 ?_
    refine q_X12_60 (m_inB (by decide) (by decide)) dX12_heavy_16 rfl ?_
    rintro _ _ ⟨rfl, rfl⟩
    refine z_if_ne 25 dX12_heavy_19 (fun h_19 => ?_) (fun h_19 => ?_)
    · obtain ⟨n, n1, n2, rfl⟩ := inB_nI h_19 (by decide)
      have tn := tN_nI (g := n) (by omega)
      refine x_aload_n dX12_heavy_25 rfl ?_
      refine g_X12_19 dX12_heavy_26 ?_
      refine y_iconst (a := 2) dX12_heavy_29 rfl ?_
      refine x_ial dX12_heavy_30 (⟨by decide, rfl, rfl, by decide⟩ : Ar 38 45) (by omega) ?_
      rw [hS.at (by omega)]
      refine x_istore_n dX12_heavy_31 ?_
      refine x_iload_n dX12_heavy_32 rfl ?_
      refine x_bipush (v := nI 6) dX12_heavy_33 rfl ?_
      refine y_icmp_ne 41 dX12_heavy_35 (by omega) (by omega) (fun h_35 => ?_) (fun h_35 => ?_)
      · refine x_aload_n dX12_heavy_41 rfl ?_
        refine q_X12_228 (m_putAside hS) dX12_heavy_42 rfl ?_
        rintro _ M0 ⟨rfl, hA0, hF0⟩
        have hS0 := hS.fc hF0 (by decide)
        refine x_ldc dX12_heavy_45 k_X12_167 ?_
        refine x_istore_n dX12_heavy_47 ?_
        refine x_bipush (v := nI 30) dX12_heavy_48 rfl ?_
        refine x_istore dX12_heavy_50 ?_
        exact key n n1 n2 h_19 hI h999 (by omega) 30 none _ ⟨by omega, fun b hb => (by cases hb), fun _ => rfl, hS0, hA0, FQ.rf.c hF0 (by omega)⟩
      · refine x_ldc dX12_heavy_38 k_X12_167 ?_
        refine x_iret dX12_heavy_40 ?_
        first
          | (refine ⟨congrArg (fun z => some (Value.int z)) ?_, hM, FrC.rf⟩
             simp [R_heavy, *]; done)
          | (refine ⟨congrArg (fun z => some (Value.int z)) ?_, hM, FrC.rf⟩
             simp only [decide_eq_false_iff_not] at h_4
             simp [R_heavy, Decidable.not_not.mp h_4]; done)
          | (refine ⟨congrArg (fun z => some (Value.int z)) ?_, hM, FrC.rf⟩
             unfold R_heavy gwV
             rw [if_neg h_4, if_pos h_19, if_neg (by omega)]; rfl)
    · refine x_ldc dX12_heavy_22 k_X12_70 ?_
      refine x_iret dX12_heavy_24 ?_
      first
        | (refine ⟨congrArg (fun z => some (Value.int z)) ?_, hM, FrC.rf⟩
           simp [R_heavy, *]; done)
        | (refine ⟨congrArg (fun z => some (Value.int z)) ?_, hM, FrC.rf⟩
           simp only [decide_eq_false_iff_not] at h_4
           simp [R_heavy, Decidable.not_not.mp h_4]; done)
        | (refine ⟨congrArg (fun z => some (Value.int z)) ?_, hM, FrC.rf⟩
           unfold R_heavy gwV
           rw [if_neg h_4, if_pos h_19, if_neg (by omega)]; rfl)
  · refine x_ldc dX12_heavy_7 k_X12_197 ?_
    refine x_iret dX12_heavy_9 ?_
    first
      | (refine ⟨congrArg (fun z => some (Value.int z)) ?_, hM, FrC.rf⟩
         simp [R_heavy, *]; done)
      | (refine ⟨congrArg (fun z => some (Value.int z)) ?_, hM, FrC.rf⟩
         simp only [decide_eq_false_iff_not] at h_4
         simp [R_heavy, Decidable.not_not.mp h_4]; done)
      | (refine ⟨congrArg (fun z => some (Value.int z)) ?_, hM, FrC.rf⟩
         unfold R_heavy gwV
         rw [if_neg h_4, if_pos h_19, if_neg (by omega)]; rfl)
set_option maxRecDepth 100000 in
set_option maxHeartbeats 4000000 in
theorem m_change {Ω : Om} {l : Launch} {M : Mem} {o : List Nat} (hO : RwR M o) (h6 : o.length ≤ 6) {i j : Nat} (hi : i < o.length) (hj : j < o.length) : Ct Ω l yX12_change cX12_change 4 1 none [.ref (Ω.2.2 34), .int (nI i), .int (nI j)] M (fun ro M' => ro = none ∧ RwR M' (swL o i j) ∧ FC 44 M M') := by
  refine ct_of (by decide) (Nat.le_of_ble_eq_true rfl) ?_
  intro p e R s m args below meth c
  refine x_aload_n dX12_change_0 rfl ?_
  refine g_X12_37 dX12_change_1 ?_
  refine x_iload_n dX12_change_4 rfl ?_
  refine x_ial dX12_change_5 (⟨by decide, rfl, rfl, by decide⟩ : Ar 44 6) (by omega) ?_
  rw [hO.at (by omega)]
  refine x_istore_n dX12_change_6 ?_
  refine x_aload_n dX12_change_7 rfl ?_
  refine g_X12_37 dX12_change_8 ?_
  refine x_iload_n dX12_change_11 rfl ?_
  refine x_aload_n dX12_change_12 rfl ?_
  refine g_X12_37 dX12_change_13 ?_
  refine x_iload_n dX12_change_16 rfl ?_
  refine x_ial dX12_change_17 (⟨by decide, rfl, rfl, by decide⟩ : Ar 44 6) (by omega) ?_
  rw [hO.at (by omega)]
  refine x_ias dX12_change_18 (⟨by decide, rfl, rfl, by decide⟩ : Ar 44 6) (by omega) ?_
  refine x_aload_n dX12_change_19 rfl ?_
  refine g_X12_37 dX12_change_20 ?_
  refine x_iload_n dX12_change_23 rfl ?_
  refine x_iload_n dX12_change_24 rfl ?_
  refine x_ias dX12_change_25 (⟨by decide, rfl, rfl, by decide⟩ : Ar 44 6) (by omega) ?_
  refine x_vret dX12_change_26 ?_
  refine ⟨rfl, fun k hk => ?_, FC.rf.up.up⟩
  rw [swL_len] at hk
  rw [swL_gD o k hi hj, up1_at, up1_at]
  by_cases e1 : k = j
  · rw [if_pos ⟨rfl, e1⟩, if_pos e1]
  · rw [if_neg (by omega), if_neg e1]
    by_cases e2 : k = i
    · rw [if_pos ⟨rfl, e2⟩, if_pos e2]
    · rw [if_neg (by omega), if_neg e2]; exact hO k hk
set_option maxRecDepth 100000 in
set_option maxHeartbeats 4000000 in
theorem m_isNext {Ω : Om} {l : Launch} {M : Mem} {o : List Nat} (hO : RwR M o) (h6 : o.length ≤ 6) (hB : Bl 6 o) : Ct Ω l yX12_isNext cX12_isNext 6 2 (some .boolean) [.ref (Ω.2.2 34), .int (nI o.length)] M (fun ro M' => (match nxL o with
  | none => ro = some (.int (bI false)) ∧ M = M'
  | some o2 => ro = some (.int (bI true)) ∧ RwR M' o2 ∧ FC 44 M M')) := by
  refine ct_of (by decide) (Nat.le_of_ble_eq_true rfl) ?_
  intro p e R s m args below meth c
  have key3 : ∀ (k : Nat) (i j : Nat) (q : List Nat) (a b : Nat) (M1 : Mem), a ≤ 6 ∧ b ≤ a + 2 * k ∧ b < q.length ∧ q.length = o.length ∧ RwR M1 q ∧ FC 44 M M1 ∧ nxL o = some (rvN k q a b) → X (mkG p l e R s m args below meth c Ω (fun ro M' => (match nxL o with
  | none => ro = some (.int (bI false)) ∧ M = M'
  | some o2 => ro = some (.int (bI true)) ∧ RwR M' o2 ∧ FC 44 M M'))) Ω RX12 cX12_isNext 6 2 (some .boolean) 78 [some (.ref (Ω.2.2 34)), some (.int (nI o.length)), some (.int (nI i)), some (.int (nI j)), some (.int (nI a)), some (.int (nI b))] [] M1 := by
    intro k
    induction k with
    | zero =>
      intro i j q a b M1 hk
      obtain ⟨ha6, hk, hbq, hql, hO1, hF1, hnx⟩ := hk
      refine x_iload dX12_isNext_78 rfl ?_
      refine x_iload dX12_isNext_80 rfl ?_
      refine y_icmp_ge 102 dX12_isNext_82 (by omega) (by omega) (fun h_82 => ?_) (fun h_82 => ?_)
      · refine y_iconst (a := 1) dX12_isNext_102 rfl ?_
        first | refine z_iret dX12_isNext_103 ?_ | refine z_iret0 dX12_isNext_103 ?_ | refine z_iret1 dX12_isNext_103 ?_
        first
          | (have hr : rvN 0 q a b = q := rfl
             rw [hr] at hnx)
          | (rw [rvN_step, if_neg (by omega)] at hnx)
        rw [hnx]
        exact ⟨rfl, hO1, hF1⟩
      · exfalso; omega
    | succ k ih =>
      intro i j q a b M1 hk
      obtain ⟨ha6, hk, hbq, hql, hO1, hF1, hnx⟩ := hk
      refine x_iload dX12_isNext_78 rfl ?_
      refine x_iload dX12_isNext_80 rfl ?_
      refine y_icmp_ge 102 dX12_isNext_82 (by omega) (by omega) (fun h_82 => ?_) (fun h_82 => ?_)
      · refine y_iconst (a := 1) dX12_isNext_102 rfl ?_
        first | refine z_iret dX12_isNext_103 ?_ | refine z_iret0 dX12_isNext_103 ?_ | refine z_iret1 dX12_isNext_103 ?_
        first
          | (have hr : rvN 0 q a b = q := rfl
             rw [hr] at hnx)
          | (rw [rvN_step, if_neg (by omega)] at hnx)
        rw [hnx]
        exact ⟨rfl, hO1, hF1⟩
      · refine x_aload_n dX12_isNext_85 rfl ?_
        refine x_iload dX12_isNext_86 rfl ?_
        refine x_iload dX12_isNext_88 rfl ?_
        refine q_X12_243 (m_change hO1 (by omega) (by omega) hbq) dX12_isNext_90 rfl ?_
        rintro _ M3 ⟨rfl, hO3, hF3⟩
        refine y_iinc dX12_isNext_93 rfl ?_
        obtain ⟨b, rfl⟩ : ∃ b2, b = b2 + 1 := ⟨b - 1, by omega⟩
        refine y_idec dX12_isNext_96 rfl ?_
        refine x_goto 78 dX12_isNext_99 ?_
        rw [rvN_step, if_pos (by omega)] at hnx
        exact ih i j _ _ _ _ ⟨by omega, by omega, by rw [swL_len]; omega, by rw [swL_len]; exact hql, hO3, hF1.tr hF3, hnx⟩
  have key2 : ∀ (k i : Nat), i < o.length → fI o (o.length - 1) = i + 1 → k < o.length → fJ o i (o.length - 1) = fJ o i k → i ≤ k → X (mkG p l e R s m args below meth c Ω (fun ro M' => (match nxL o with
  | none => ro = some (.int (bI false)) ∧ M = M'
  | some o2 => ro = some (.int (bI true)) ∧ RwR M' o2 ∧ FC 44 M M'))) Ω RX12 cX12_isNext 6 2 (some .boolean) 41 [some (.ref (Ω.2.2 34)), some (.int (nI o.length)), some (.int (nI i)), some (.int (nI k)), none, none] [] M := by
    intro k
    induction k with
    | zero =>
      intro i hil hfi hkl hfj0 hik
      have hfj : fJ o i (o.length - 1) = 0 := hfj0
      obtain rfl : i = 0 := by omega
      have b1 := hB 0 hil
      refine x_aload_n dX12_isNext_41 rfl ?_
      refine g_X12_37 dX12_isNext_42 ?_
      refine x_iload_n dX12_isNext_45 rfl ?_
      refine x_ial dX12_isNext_46 (⟨by decide, rfl, rfl, by decide⟩ : Ar 44 6) (by omega) ?_
      rw [hO.at (by omega)]
      refine x_aload_n dX12_isNext_47 rfl ?_
      refine g_X12_37 dX12_isNext_48 ?_
      refine x_iload_n dX12_isNext_51 rfl ?_
      refine x_ial dX12_isNext_52 (⟨by decide, rfl, rfl, by decide⟩ : Ar 44 6) (by omega) ?_
      rw [hO.at (by omega)]
      refine y_icmp_ge 62 dX12_isNext_53 (by omega) (by omega) (fun h_53 => ?_) (fun h_53 => ?_)
      · refine x_aload_n dX12_isNext_62 rfl ?_
        refine x_iload_n dX12_isNext_63 rfl ?_
        refine x_iload_n dX12_isNext_64 rfl ?_
        refine q_X12_243 (m_change hO h6 hil hkl) dX12_isNext_65 rfl ?_
        rintro _ M2 ⟨rfl, hO2, hF2⟩
        refine x_iload_n dX12_isNext_68 rfl ?_
        refine y_iconst (a := 1) dX12_isNext_69 rfl ?_
        refine y_iadd dX12_isNext_70 ?_
        refine x_istore dX12_isNext_71 ?_
        refine x_iload_n dX12_isNext_73 rfl ?_
        refine y_iconst (a := 1) dX12_isNext_74 rfl ?_
        refine y_isub dX12_isNext_75 (by omega) ?_
        refine x_istore dX12_isNext_76 ?_
        exact key3 6 _ _ _ _ _ _ ⟨by omega, by omega, by rw [swL_len]; omega, by rw [swL_len], hO2, hF2, by unfold nxL; rw [if_neg (by omega), hfi, Nat.add_sub_cancel, hfj]⟩
      · exfalso; omega
    | succ k ih =>
      intro i hil hfi hkl hfj0 hik
      have b1 := hB i hil
      have b2 := hB (k + 1) hkl
      refine x_aload_n dX12_isNext_41 rfl ?_
      refine g_X12_37 dX12_isNext_42 ?_
      refine x_iload_n dX12_isNext_45 rfl ?_
      refine x_ial dX12_isNext_46 (⟨by decide, rfl, rfl, by decide⟩ : Ar 44 6) (by omega) ?_
      rw [hO.at (by omega)]
      refine x_aload_n dX12_isNext_47 rfl ?_
      refine g_X12_37 dX12_isNext_48 ?_
      refine x_iload_n dX12_isNext_51 rfl ?_
      refine x_ial dX12_isNext_52 (⟨by decide, rfl, rfl, by decide⟩ : Ar 44 6) (by omega) ?_
      rw [hO.at (by omega)]
      refine y_icmp_ge 62 dX12_isNext_53 (by omega) (by omega) (fun h_53 => ?_) (fun h_53 => ?_)
      · have hfj : fJ o i (o.length - 1) = k + 1 := by rw [hfj0, fJ_step, if_neg (by omega)]
        refine x_aload_n dX12_isNext_62 rfl ?_
        refine x_iload_n dX12_isNext_63 rfl ?_
        refine x_iload_n dX12_isNext_64 rfl ?_
        refine q_X12_243 (m_change hO h6 hil hkl) dX12_isNext_65 rfl ?_
        rintro _ M2 ⟨rfl, hO2, hF2⟩
        refine x_iload_n dX12_isNext_68 rfl ?_
        refine y_iconst (a := 1) dX12_isNext_69 rfl ?_
        refine y_iadd dX12_isNext_70 ?_
        refine x_istore dX12_isNext_71 ?_
        refine x_iload_n dX12_isNext_73 rfl ?_
        refine y_iconst (a := 1) dX12_isNext_74 rfl ?_
        refine y_isub dX12_isNext_75 (by omega) ?_
        refine x_istore dX12_isNext_76 ?_
        exact key3 6 _ _ _ _ _ _ ⟨by omega, by omega, by rw [swL_len]; omega, by rw [swL_len], hO2, hF2, by unfold nxL; rw [if_neg (by omega), hfi, Nat.add_sub_cancel, hfj]⟩
      · refine y_idec dX12_isNext_56 rfl ?_
        refine x_goto 41 dX12_isNext_59 ?_
        rcases Nat.lt_or_ge i (k + 1) with hlt | hge
        · exact ih i hil hfi (by omega) (by rw [hfj0, fJ_step, if_pos ⟨by omega, by omega⟩]) (by omega)
        · obtain rfl : i = k + 1 := by omega
          exfalso; omega
  have keyN : ∀ (x : Int32), x.toInt < 0 → fI o (o.length - 1) = 0 → X (mkG p l e R s m args below meth c Ω (fun ro M' => (match nxL o with
  | none => ro = some (.int (bI false)) ∧ M = M'
  | some o2 => ro = some (.int (bI true)) ∧ RwR M' o2 ∧ FC 44 M M'))) Ω RX12 cX12_isNext 6 2 (some .boolean) 4 [some (.ref (Ω.2.2 34)), some (.int (nI o.length)), some (.int (x)), none, none, none] [] M := by
    intro x hx hf0
    refine x_iload_n dX12_isNext_4 rfl ?_
    refine x_if_lt 31 dX12_isNext_5 (fun h_5 => ?_) (fun h_5 => ?_)
    · refine x_iload_n dX12_isNext_31 rfl ?_
      refine x_if_ge 37 dX12_isNext_32 (fun h_32 => ?_) (fun h_32 => ?_)
      · exfalso; omega
      · refine y_iconst (a := 0) dX12_isNext_35 rfl ?_
        first | refine z_iret dX12_isNext_36 ?_ | refine z_iret0 dX12_isNext_36 ?_ | refine z_iret1 dX12_isNext_36 ?_
        unfold nxL
        rw [if_pos (by omega)]
        exact ⟨rfl, rfl⟩
    · exfalso; omega
  have key1 : ∀ (k : Nat), k + 1 < o.length → fI o (o.length - 1) = fI o (k + 1) → X (mkG p l e R s m args below meth c Ω (fun ro M' => (match nxL o with
  | none => ro = some (.int (bI false)) ∧ M = M'
  | some o2 => ro = some (.int (bI true)) ∧ RwR M' o2 ∧ FC 44 M M'))) Ω RX12 cX12_isNext 6 2 (some .boolean) 4 [some (.ref (Ω.2.2 34)), some (.int (nI o.length)), some (.int (nI k)), none, none, none] [] M := by
    intro k
    induction k with
    | zero =>
      intro hkl hf0
      refine x_iload_n dX12_isNext_4 rfl ?_
      refine y_if_lt 31 dX12_isNext_5 (by omega) ?_
      have b1 := hB 0 (by omega)
      have b2 := hB (0 + 1) (by omega)
      refine x_aload_n dX12_isNext_8 rfl ?_
      refine g_X12_37 dX12_isNext_9 ?_
      refine x_iload_n dX12_isNext_12 rfl ?_
      refine x_ial dX12_isNext_13 (⟨by decide, rfl, rfl, by decide⟩ : Ar 44 6) (by omega) ?_
      rw [hO.at (by omega)]
      refine x_aload_n dX12_isNext_14 rfl ?_
      refine g_X12_37 dX12_isNext_15 ?_
      refine x_iload_n dX12_isNext_18 rfl ?_
      refine y_iconst (a := 1) dX12_isNext_19 rfl ?_
      refine y_iadd dX12_isNext_20 ?_
      refine x_ial dX12_isNext_21 (⟨by decide, rfl, rfl, by decide⟩ : Ar 44 6) (by omega) ?_
      rw [hO.at (by omega)]
      refine y_icmp_le 31 dX12_isNext_22 (by omega) (by omega) (fun h_22 => ?_) (fun h_22 => ?_)
      · refine x_iload_n dX12_isNext_31 rfl ?_
        refine y_if_ge 37 dX12_isNext_32 (by omega) ?_
        refine x_iload_n dX12_isNext_37 rfl ?_
        refine y_iconst (a := 1) dX12_isNext_38 rfl ?_
        refine y_isub dX12_isNext_39 (by omega) ?_
        refine x_istore_n dX12_isNext_40 ?_
        exact key2 (o.length - 1) 0 (by omega) (by rw [hf0, fI_step, if_neg (by omega)]) (by omega) rfl (by omega)
      · refine x_iinc dX12_isNext_25 rfl (v := -1) (by decide) ?_
        refine x_goto 4 dX12_isNext_28 ?_
        exact keyN (-1) (by decide) (by rw [hf0, fI_step, if_pos (by omega)]; rfl)
    | succ k ih =>
      intro hkl hf0
      refine x_iload_n dX12_isNext_4 rfl ?_
      refine y_if_lt 31 dX12_isNext_5 (by omega) ?_
      have b1 := hB (k + 1) (by omega)
      have b2 := hB (k + 1 + 1) (by omega)
      refine x_aload_n dX12_isNext_8 rfl ?_
      refine g_X12_37 dX12_isNext_9 ?_
      refine x_iload_n dX12_isNext_12 rfl ?_
      refine x_ial dX12_isNext_13 (⟨by decide, rfl, rfl, by decide⟩ : Ar 44 6) (by omega) ?_
      rw [hO.at (by omega)]
      refine x_aload_n dX12_isNext_14 rfl ?_
      refine g_X12_37 dX12_isNext_15 ?_
      refine x_iload_n dX12_isNext_18 rfl ?_
      refine y_iconst (a := 1) dX12_isNext_19 rfl ?_
      refine y_iadd dX12_isNext_20 ?_
      refine x_ial dX12_isNext_21 (⟨by decide, rfl, rfl, by decide⟩ : Ar 44 6) (by omega) ?_
      rw [hO.at (by omega)]
      refine y_icmp_le 31 dX12_isNext_22 (by omega) (by omega) (fun h_22 => ?_) (fun h_22 => ?_)
      · refine x_iload_n dX12_isNext_31 rfl ?_
        refine y_if_ge 37 dX12_isNext_32 (by omega) ?_
        refine x_iload_n dX12_isNext_37 rfl ?_
        refine y_iconst (a := 1) dX12_isNext_38 rfl ?_
        refine y_isub dX12_isNext_39 (by omega) ?_
        refine x_istore_n dX12_isNext_40 ?_
        exact key2 (o.length - 1) (k + 1) (by omega) (by rw [hf0, fI_step, if_neg (by omega)]) (by omega) rfl (by omega)
      · refine y_idec dX12_isNext_25 rfl ?_
        refine x_goto 4 dX12_isNext_28 ?_
        exact ih (by omega) (by rw [hf0, fI_step, if_pos (by omega)])
  refine x_iload_n dX12_isNext_0 rfl ?_
  refine y_iconst (a := 2) dX12_isNext_1 rfl ?_
  refine x_isub dX12_isNext_2 ?_
  refine x_istore_n dX12_isNext_3 ?_
  rcases (show o.length = 0 ∨ o.length = 1 ∨ 2 ≤ o.length by omega) with hz | hz | hz
  · have hh := keyN (nI 0 - nI 2) (by decide) (by rw [hz]; rfl)
    rw [hz] at hh ⊢
    exact hh
  · have hh := keyN (nI 1 - nI 2) (by decide) (by rw [hz]; rfl)
    rw [hz] at hh ⊢
    exact hh
  · rw [pk_sub (show 2 ≤ o.length from hz)]
    exact key1 (o.length - 2) (by omega) (by rw [show o.length - 2 + 1 = o.length - 1 by omega])
