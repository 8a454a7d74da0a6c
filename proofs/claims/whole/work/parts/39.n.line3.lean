/-! FORETOLD: seekLine; line (laid by gen_line3.py) -/
theorem line_done {M M' : Mem} {v : Nat → Nat} {n : Nat} {q : Nat × List Nat} (hR : LkR M' 73 v) (hI : Iv v) (h9 : v 3 ≤ 999) (h2 : M'.1 14 2 = nI n) (hn : 1 ≤ n ∧ n ≤ 60) (hl : lineR v n = some q) (hB : BsR M' (o0 v).length (some q)) (h5 : M'.1 14 5 = nI (o0 v).length) (hF : F14 M M') : (∃ q : Nat × List Nat, lineR v n = some q ∧ q.2.length = (o0 v).length ∧ M'.1 14 5 = nI (o0 v).length ∧ BsR M' (o0 v).length (some q)) ∧ LineC M' ∧ F14 M M' := by
  obtain ⟨b1, b2, b3, b4⟩ := hB
  refine ⟨⟨q, hl, b3, h5, b1, b2, b3, b4⟩, Or.inr ⟨v, n, q.1, q.2, hR, hI, h9, h2, hn.1, hn.2, hl, b3, by rw [b3]; exact h5, b1, fun i hi => b4 i (by omega)⟩, hF⟩
theorem bs_upd {M N : Mem} {o : List Nat} (hO : OdR M o) (h6 : o.length ≤ 6) {a : Nat} (ha : a ≤ 6) (hN : N = upR (up1 M 14 6 (nI a)) 16 (fun j => if j < o.length then (up1 M 14 6 (nI a)).1 15 j else (up1 M 14 6 (nI a)).1 16 j)) : BsR N o.length (some (a, o)) ∧ OdR N o ∧ (∀ c, c ≠ 14 → c ≠ 16 → N.1 c = M.1 c) ∧ ∀ k, k ≠ 6 → N.1 14 k = M.1 14 k := by
  subst hN
  refine ⟨⟨?_, ha, rfl, fun i hi => ?_⟩, ⟨?_, fun i hi => ?_⟩, fun c c1 c2 => ?_, fun k hk => ?_⟩
  · rw [upR_ne _ _ (by omega), up1_at, if_pos ⟨rfl, rfl⟩]
  · rw [upR_row, if_pos hi, up1_ne _ _ _ (by omega)]; exact hO.2 i hi
  · rw [upR_ne _ _ (by omega), up1_at, if_neg (by omega)]; exact hO.1
  · rw [upR_ne _ _ (by omega), up1_ne _ _ _ (by omega)]; exact hO.2 i hi
  · rw [upR_ne _ _ c2, up1_ne _ _ _ c1]
  · rw [upR_ne _ _ (by omega), up1_at, if_neg (by omega)]
/-- all that the search keeps to -/
def SkR (M M1 : Mem) (v : Nat → Nat) (n : Nat) : Prop := LkR M1 73 v ∧ LkR M1 49 v ∧ M1.1 14 2 = nI n ∧ F14 M M1
theorem SkR.keep {M M1 M2 : Mem} {v : Nat → Nat} {n : Nat} (h : SkR M M1 v n) (e : ∀ c, ¬ (c = 14 ∨ c = 15 ∨ c = 16 ∨ (65 ≤ c ∧ c < 73)) → M2.1 c = M1.1 c) (e14 : ∀ k, k ≠ 5 → k ≠ 6 → M2.1 14 k = M1.1 14 k) : SkR M M2 v n :=
  ⟨h.1.same (fun k hk => e _ (by omega)), h.2.1.same (fun k hk => e _ (by omega)), (e14 2 (by decide) (by decide)).trans h.2.2.1, fun c hc => (e c (by omega)).trans (h.2.2.2.1 c hc), fun k k2 k5 k6 => (e14 k k5 k6).trans (h.2.2.2.2 k k2 k5 k6)⟩

theorem lnS_6 {v : Nat → Nat} (hI : Iv v) (h3 : v 3 ≤ 4000) {n : Nat} (hn : n ≤ 60) {m : Nat} {b : List Nat} : ∀ (f : Nat) (o : List Nat) (acc : Option (Nat × List Nat)), Od v o → (∀ q, acc = some q → q.1 ≤ 6) → lnS v n f o acc = some (m, b) → m ≤ 6
  | 0, _, acc, _, ha, h => ha _ h
  | f + 1, o, acc, ho, ha, h => by
    have h6 := AO_6 hI h3 hn ho
    have hu : ∀ q, lnU v n acc o = some q → q.1 ≤ 6 := by
      intro q hq
      unfold lnU at hq
      split at hq
      · cases hq; exact h6
      · split at hq
        · cases hq; exact h6
        · cases hq; exact ha _ rfl
    cases hx : nxL o with
    | none => rw [lnS_none hx] at h; exact hu _ h
    | some o2 => rw [lnS_some hx] at h; exact lnS_6 hI h3 hn f o2 _ (ho.nx hx).1 hu h
theorem lineR_6 {v : Nat → Nat} (hI : Iv v) (h3 : v 3 ≤ 4000) {n : Nat} (hn : n ≤ 60) {m : Nat} {b : List Nat} (h : lineR v n = some (m, b)) : m ≤ 6 := lnS_6 hI h3 hn 720 (o0 v) none (o0_Od hI.1) (fun q z => by cases z) h
set_option maxRecDepth 100000 in
set_option maxHeartbeats 4000000 in
theorem c_seekLine {Ω : Om} {l : Launch} {M : Mem} {v : Nat → Nat} (hR : LkR M 49 v) (hI : Iv v) (h999 : v 3 ≤ 999) {n : Nat} (hn1 : 1 ≤ n) (hn60 : n ≤ 60) (hLn : LineC M) : Ct Ω l yX5_seekLine cX5_seekLine 6 7 none [.ref (Ω.2.2 14), .ref (Ω.2.2 49), .int (nI n)] M (fun ro M' => ro = none ∧ (∃ q : Nat × List Nat, lineR v n = some q ∧ q.2.length = (o0 v).length ∧ M'.1 14 5 = nI (o0 v).length ∧ BsR M' (o0 v).length (some q)) ∧ LineC M' ∧ F14 M M') := by
  have hL49 : Lk 49 := Lk49
  have hL57 : Lk 57 := Lk57
  have hw := hI.1
  have hn := hw.nums
  have hL65 : Lk 65 := Lk65
  have hL73 : Lk 73 := Lk73
  have h3 : v 3 ≤ 4000 := by omega
  have h01 : 1 ≤ v 0 := by have := hI.2.1; omega
  have hcn := cntN_le (mayR v) (v 2)
  have hpw := pop_small _ (whoA_lt hw (v 0 + 1))
  refine ct_of (by decide) (Nat.le_of_ble_eq_true rfl) ?_
  intro p e R s m args below meth c
  have keyB : ∀ (k i : Nat) (o : List Nat) (acc : Option (Nat × List Nat)) (u : Option Value) (M1 : Mem), i + k = 720 ∧ Od v o ∧ o.length = (o0 v).length ∧ OdR M1 o ∧ BsR M1 o.length acc ∧ lnS v n k o acc = lineR v n ∧ (i = 0 ∨ acc ≠ none) ∧ SkR M M1 v n → X (mkG p l e R s m args below meth c Ω (fun ro M' => ro = none ∧ (∃ q : Nat × List Nat, lineR v n = some q ∧ q.2.length = (o0 v).length ∧ M'.1 14 5 = nI (o0 v).length ∧ BsR M' (o0 v).length (some q)) ∧ LineC M' ∧ F14 M M')) Ω RX5 cX5_seekLine 6 7 none 109 [some (.ref (Ω.2.2 14)), some (.ref (Ω.2.2 49)), some (.int (nI n)), some (.int (nI (pop (whoA v (v 0 + 1)) + cntN (mayR v) (v 2)))), some (.int (nI i)), u] [] M1 := by
    intro k
    induction k with
    | zero =>
      intro i o acc u M1 hh
      obtain ⟨hk, ho, hol, hO, hB, hl, hi0, hS⟩ := hh
      refine x_iload dX5_seekLine_109 rfl ?_
      refine x_sipush (v := nI 720) dX5_seekLine_111 rfl ?_
      refine y_icmp_ge 181 dX5_seekLine_114 (by omega) (by omega) (fun h_114 => ?_) (fun h_114 => ?_)
      · refine x_vret dX5_seekLine_181 ?_
        rcases acc with _ | q
        · rcases hi0 with z | z
          · omega
          · exact absurd rfl z
        · exact ⟨rfl, line_done hS.1 hI h999 hS.2.2.1 ⟨hn1, hn60⟩ (hl.symm) (by rw [← hol]; exact hB) (by rw [← hol]; exact hO.1) hS.2.2.2⟩
      · exfalso; omega
    | succ k ih =>
      intro i o acc u M1 hh
      obtain ⟨hk, ho, hol, hO, hB, hl, hi0, hS⟩ := hh
      refine x_iload dX5_seekLine_109 rfl ?_
      refine x_sipush (v := nI 720) dX5_seekLine_111 rfl ?_
      refine y_icmp_ge 181 dX5_seekLine_114 (by omega) (by omega) (fun h_114 => ?_) (fun h_114 => ?_)
      · refine x_vret dX5_seekLine_181 ?_
        exfalso; omega
      · rcases acc with _ | q
        · have h6 : M1.1 14 6 = -1 := hB
          refine x_aload_n dX5_seekLine_117 rfl ?_
          refine g_X5_111 dX5_seekLine_118 ?_
          rw [h6]
          refine x_iload_n dX5_seekLine_121 rfl ?_
          refine x_icmp_ge 181 dX5_seekLine_122 (fun h_122 => ?_) (fun h_122 => ?_)
          · refine x_vret dX5_seekLine_181 ?_
            exfalso
            have z1 : ((-1 : Int32)).toInt = -1 := rfl
            rw [nI_toInt (by omega)] at h_122
            omega
          · refine x_aload_n dX5_seekLine_125 rfl ?_
            refine x_aload_n dX5_seekLine_126 rfl ?_
            refine x_iload_n dX5_seekLine_127 rfl ?_
            refine q_X5_114 (c_aboveInOrder Lk49 (by decide) hS.2.1 hI h3 hn60 hO ho) dX5_seekLine_128 rfl ?_
            rintro _ M2 ⟨rfl, hF2⟩
            have hO2 : OdR M2 o := hO.keep (by rw [hF2.2 14 (by omega)]) (hF2.2 15 (by omega))
            have hS2 : SkR M M2 v n := hS.keep (fun c hc => hF2.2 c (by omega)) (fun k _ _ => by rw [hF2.2 14 (by omega)])
            have hA6 := AO_6 hI h3 hn60 ho
            refine x_istore dX5_seekLine_131 ?_
            refine x_iload dX5_seekLine_133 rfl ?_
            refine x_aload_n dX5_seekLine_135 rfl ?_
            refine g_X5_111 dX5_seekLine_136 ?_
            rw [(show M2.1 14 6 = -1 from by rw [hF2.2 14 (by omega)]; exact h6)]
            refine x_icmp_le 165 dX5_seekLine_139 (fun h_139 => absurd h_139 (by have z1 : ((-1 : Int32)).toInt = -1 := rfl; rw [nI_toInt (by omega)]; omega)) (fun h_139 => ?_)
            refine x_aload_n dX5_seekLine_142 rfl ?_
            refine x_iload dX5_seekLine_143 rfl ?_
            refine p_X5_111 dX5_seekLine_145 ?_
            refine x_aload_n dX5_seekLine_148 rfl ?_
            refine g_X5_9 dX5_seekLine_149 ?_
            refine y_iconst (a := 0) dX5_seekLine_152 rfl ?_
            refine x_aload_n dX5_seekLine_153 rfl ?_
            refine g_X5_15 dX5_seekLine_154 ?_
            refine y_iconst (a := 0) dX5_seekLine_157 rfl ?_
            refine x_aload_n dX5_seekLine_158 rfl ?_
            refine g_X5_96 dX5_seekLine_159 ?_
            rw [(show (up1 M2 14 6 (nI (AO v n o))).1 14 5 = nI o.length from by rw [up1_at, if_neg (by omega)]; exact hO2.1)]
            refine y_copyG _ dX5_seekLine_162 q_X5_118 (⟨by decide, rfl, rfl, by decide⟩ : Ar 15 6) (⟨by decide, rfl, rfl, by decide⟩ : Ar 16 6) ho.1 ho.1 rfl (fun M4 hM4 => ?_)
            obtain ⟨hB4, hO4, hc4, hk4⟩ := bs_upd hO2 ho.1 hA6 hM4
            have hS4 : SkR M M4 v n := hS2.keep (fun c hc => hc4 c (by omega) (by omega)) (fun k _ k6 => hk4 k k6)
            refine x_aload_n dX5_seekLine_165 rfl ?_
            rcases hx : nxL o with _ | o2
            · refine q_X5_124 (c_turnToNextOrder hO4 ho.1 (ho.bl hn.2.2.1)) dX5_seekLine_166 rfl ?_
              intro ro M5 hp
              rw [hx] at hp
              obtain ⟨rfl, rfl⟩ := hp
              refine z_if_ne 175 dX5_seekLine_169 (fun h_169 => ?_) (fun h_169 => ?_)
              · cases h_169
              · refine x_goto 181 dX5_seekLine_172 ?_
                refine x_vret dX5_seekLine_181 ?_
                exact ⟨rfl, line_done hS4.1 hI h999 hS4.2.2.1 ⟨hn1, hn60⟩ (hl.symm.trans ((lnS_none hx).trans (show lnU v n none o = some (AO v n o, o) from rfl))) (by rw [← hol]; exact hB4) (by rw [← hol]; exact hO4.1) hS4.2.2.2⟩
            · refine q_X5_124 (c_turnToNextOrder hO4 ho.1 (ho.bl hn.2.2.1)) dX5_seekLine_166 rfl ?_
              intro ro M5 hp
              rw [hx] at hp
              obtain ⟨rfl, hO5, hF5⟩ := hp
              have hS5 : SkR M M5 v n := hS4.keep (fun c hc => hF5.2 c (by omega)) (fun k _ _ => by rw [hF5.2 14 (by omega)])
              refine z_if_ne 175 dX5_seekLine_169 (fun h_169 => ?_) (fun h_169 => ?_)
              · refine y_iinc dX5_seekLine_175 rfl ?_
                refine x_goto 109 dX5_seekLine_178 ?_
                obtain ⟨ho5, hol5⟩ := ho.nx hx
                exact ih (i + 1) o2 _ _ _ ⟨by omega, ho5, hol5.trans hol, hO5, by rw [hol5, (show lnU v n none o = some (AO v n o, o) from rfl)]; exact (hB4).keep (by rw [hF5.2 14 (by omega)]) (hF5.2 16 (by omega)), (lnS_some hx).symm.trans hl, Or.inr (by rw [(show lnU v n none o = some (AO v n o, o) from rfl)]; exact fun z => by cases z), hS5⟩
              · cases h_169
        · have h6 : M1.1 14 6 = nI q.1 := hB.1
          have hq6 := hB.2.1
          refine x_aload_n dX5_seekLine_117 rfl ?_
          refine g_X5_111 dX5_seekLine_118 ?_
          rw [h6]
          refine x_iload_n dX5_seekLine_121 rfl ?_
          refine y_icmp_ge 181 dX5_seekLine_122 (by omega) (by omega) (fun h_122 => ?_) (fun h_122 => ?_)
          · refine x_vret dX5_seekLine_181 ?_
            exact ⟨rfl, line_done hS.1 hI h999 hS.2.2.1 ⟨hn1, hn60⟩ (hl.symm.trans (lnS_top hI h3 hn60 (by omega) _ _ ho)) (by rw [← hol]; exact hB) (by rw [← hol]; exact hO.1) hS.2.2.2⟩
          · refine x_aload_n dX5_seekLine_125 rfl ?_
            refine x_aload_n dX5_seekLine_126 rfl ?_
            refine x_iload_n dX5_seekLine_127 rfl ?_
            refine q_X5_114 (c_aboveInOrder Lk49 (by decide) hS.2.1 hI h3 hn60 hO ho) dX5_seekLine_128 rfl ?_
            rintro _ M2 ⟨rfl, hF2⟩
            have hO2 : OdR M2 o := hO.keep (by rw [hF2.2 14 (by omega)]) (hF2.2 15 (by omega))
            have hS2 : SkR M M2 v n := hS.keep (fun c hc => hF2.2 c (by omega)) (fun k _ _ => by rw [hF2.2 14 (by omega)])
            have hA6 := AO_6 hI h3 hn60 ho
            refine x_istore dX5_seekLine_131 ?_
            refine x_iload dX5_seekLine_133 rfl ?_
            refine x_aload_n dX5_seekLine_135 rfl ?_
            refine g_X5_111 dX5_seekLine_136 ?_
            rw [(show M2.1 14 6 = nI q.1 from by rw [hF2.2 14 (by omega)]; exact h6)]
            refine y_icmp_le 165 dX5_seekLine_139 (by omega) (by omega) (fun h_139 => ?_) (fun h_139 => ?_)
            · refine x_aload_n dX5_seekLine_165 rfl ?_
              rcases hx : nxL o with _ | o2
              · refine q_X5_124 (c_turnToNextOrder hO2 ho.1 (ho.bl hn.2.2.1)) dX5_seekLine_166 rfl ?_
                intro ro M5 hp
                rw [hx] at hp
                obtain ⟨rfl, rfl⟩ := hp
                refine z_if_ne 175 dX5_seekLine_169 (fun h_169 => ?_) (fun h_169 => ?_)
                · cases h_169
                · refine x_goto 181 dX5_seekLine_172 ?_
                  refine x_vret dX5_seekLine_181 ?_
                  exact ⟨rfl, line_done hS2.1 hI h999 hS2.2.2.1 ⟨hn1, hn60⟩ (hl.symm.trans ((lnS_none hx).trans (show lnU v n (some q) o = some q from if_neg (by omega)))) (by rw [← hol]; exact ((show BsR M1 o.length (some q) from hB).keep (by rw [hF2.2 14 (by omega)]) (hF2.2 16 (by omega)))) (by rw [← hol]; exact hO2.1) hS2.2.2.2⟩
              · refine q_X5_124 (c_turnToNextOrder hO2 ho.1 (ho.bl hn.2.2.1)) dX5_seekLine_166 rfl ?_
                intro ro M5 hp
                rw [hx] at hp
                obtain ⟨rfl, hO5, hF5⟩ := hp
                have hS5 : SkR M M5 v n := hS2.keep (fun c hc => hF5.2 c (by omega)) (fun k _ _ => by rw [hF5.2 14 (by omega)])
                refine z_if_ne 175 dX5_seekLine_169 (fun h_169 => ?_) (fun h_169 => ?_)
                · refine y_iinc dX5_seekLine_175 rfl ?_
                  refine x_goto 109 dX5_seekLine_178 ?_
                  obtain ⟨ho5, hol5⟩ := ho.nx hx
                  exact ih (i + 1) o2 _ _ _ ⟨by omega, ho5, hol5.trans hol, hO5, by rw [hol5, (show lnU v n (some q) o = some q from if_neg (by omega))]; exact (((show BsR M1 o.length (some q) from hB).keep (by rw [hF2.2 14 (by omega)]) (hF2.2 16 (by omega)))).keep (by rw [hF5.2 14 (by omega)]) (hF5.2 16 (by omega)), (lnS_some hx).symm.trans hl, Or.inr (by rw [(show lnU v n (some q) o = some q from if_neg (by omega))]; exact fun z => by cases z), hS5⟩
                · cases h_169
            · skip
              · refine x_aload_n dX5_seekLine_142 rfl ?_
                refine x_iload dX5_seekLine_143 rfl ?_
                refine p_X5_111 dX5_seekLine_145 ?_
                refine x_aload_n dX5_seekLine_148 rfl ?_
                refine g_X5_9 dX5_seekLine_149 ?_
                refine y_iconst (a := 0) dX5_seekLine_152 rfl ?_
                refine x_aload_n dX5_seekLine_153 rfl ?_
                refine g_X5_15 dX5_seekLine_154 ?_
                refine y_iconst (a := 0) dX5_seekLine_157 rfl ?_
                refine x_aload_n dX5_seekLine_158 rfl ?_
                refine g_X5_96 dX5_seekLine_159 ?_
                rw [(show (up1 M2 14 6 (nI (AO v n o))).1 14 5 = nI o.length from by rw [up1_at, if_neg (by omega)]; exact hO2.1)]
                refine y_copyG _ dX5_seekLine_162 q_X5_118 (⟨by decide, rfl, rfl, by decide⟩ : Ar 15 6) (⟨by decide, rfl, rfl, by decide⟩ : Ar 16 6) ho.1 ho.1 rfl (fun M4 hM4 => ?_)
                obtain ⟨hB4, hO4, hc4, hk4⟩ := bs_upd hO2 ho.1 hA6 hM4
                have hS4 : SkR M M4 v n := hS2.keep (fun c hc => hc4 c (by omega) (by omega)) (fun k _ k6 => hk4 k k6)
                refine x_aload_n dX5_seekLine_165 rfl ?_
                rcases hx : nxL o with _ | o2
                · refine q_X5_124 (c_turnToNextOrder hO4 ho.1 (ho.bl hn.2.2.1)) dX5_seekLine_166 rfl ?_
                  intro ro M5 hp
                  rw [hx] at hp
                  obtain ⟨rfl, rfl⟩ := hp
                  refine z_if_ne 175 dX5_seekLine_169 (fun h_169 => ?_) (fun h_169 => ?_)
                  · cases h_169
                  · refine x_goto 181 dX5_seekLine_172 ?_
                    refine x_vret dX5_seekLine_181 ?_
                    exact ⟨rfl, line_done hS4.1 hI h999 hS4.2.2.1 ⟨hn1, hn60⟩ (hl.symm.trans ((lnS_none hx).trans (show lnU v n (some q) o = some (AO v n o, o) from if_pos h_139))) (by rw [← hol]; exact hB4) (by rw [← hol]; exact hO4.1) hS4.2.2.2⟩
                · refine q_X5_124 (c_turnToNextOrder hO4 ho.1 (ho.bl hn.2.2.1)) dX5_seekLine_166 rfl ?_
                  intro ro M5 hp
                  rw [hx] at hp
                  obtain ⟨rfl, hO5, hF5⟩ := hp
                  have hS5 : SkR M M5 v n := hS4.keep (fun c hc => hF5.2 c (by omega)) (fun k _ _ => by rw [hF5.2 14 (by omega)])
                  refine z_if_ne 175 dX5_seekLine_169 (fun h_169 => ?_) (fun h_169 => ?_)
                  · refine y_iinc dX5_seekLine_175 rfl ?_
                    refine x_goto 109 dX5_seekLine_178 ?_
                    obtain ⟨ho5, hol5⟩ := ho.nx hx
                    exact ih (i + 1) o2 _ _ _ ⟨by omega, ho5, hol5.trans hol, hO5, by rw [hol5, (show lnU v n (some q) o = some (AO v n o, o) from if_pos h_139)]; exact (hB4).keep (by rw [hF5.2 14 (by omega)]) (hF5.2 16 (by omega)), (lnS_some hx).symm.trans hl, Or.inr (by rw [(show lnU v n (some q) o = some (AO v n o, o) from if_pos h_139)]; exact fun z => by cases z), hS5⟩
                  · cases h_169
  have keyA : ∀ (k : Nat) (h : Nat) (M1 : Mem), h + k = v 2 ∧ OdR M1 (o0N v h) ∧ SkR M M1 v n → X (mkG p l e R s m args below meth c Ω (fun ro M' => ro = none ∧ (∃ q : Nat × List Nat, lineR v n = some q ∧ q.2.length = (o0 v).length ∧ M'.1 14 5 = nI (o0 v).length ∧ BsR M' (o0 v).length (some q)) ∧ LineC M' ∧ F14 M M')) Ω RX5 cX5_seekLine 6 7 none 40 [some (.ref (Ω.2.2 14)), some (.ref (Ω.2.2 49)), some (.int (nI n)), some (.int (nI h)), none, none] [] M1 := by
    intro k
    induction k with
    | zero =>
      intro h M1 hk
      obtain ⟨hk, hO, hS⟩ := hk
      have hol := o0N_len v h
      refine x_iload_n dX5_seekLine_40 rfl ?_
      refine x_aload_n dX5_seekLine_41 rfl ?_
      refine g_X5_83 dX5_seekLine_42 ?_
      rw [hS.2.1.goers]
      refine y_icmp_ge 91 dX5_seekLine_45 (by omega) (by omega) (fun h_45 => ?_) (fun h_45 => ?_)
      · obtain rfl : h = v 2 := by omega
        have hO0 : OdR M1 (o0 v) := hO
        have hod := o0_Od hw
        refine x_aload_n dX5_seekLine_91 rfl ?_
        refine q_X5_105 (c_howManyAbove Lk49 hS.2.1 hw) dX5_seekLine_92 rfl ?_
        rintro _ _ ⟨rfl, rfl⟩
        refine x_aload_n dX5_seekLine_95 rfl ?_
        refine q_X5_108 (c_howManyMayRise Lk49 hS.2.1 hw h01) dX5_seekLine_96 rfl ?_
        rintro _ _ ⟨rfl, rfl⟩
        refine y_iadd dX5_seekLine_99 ?_
        refine x_istore_n dX5_seekLine_100 ?_
        refine x_aload_n dX5_seekLine_101 rfl ?_
        refine x_iconst (v := -1) dX5_seekLine_102 rfl ?_
        refine p_X5_111 dX5_seekLine_103 ?_
        refine y_iconst (a := 0) dX5_seekLine_106 rfl ?_
        refine x_istore dX5_seekLine_107 ?_
        refine keyB 720 0 (o0 v) none _ _ ⟨rfl, hod, rfl, hO0.keep (by rw [up1_at, if_neg (by omega)]) (by rw [up1_ne _ _ _ (by omega)]), ?_, rfl, Or.inl rfl, ?_⟩
        · show (up1 M1 14 6 (-1)).1 14 6 = -1
          rw [up1_at, if_pos ⟨rfl, rfl⟩]
        · exact hS.keep (fun c hc => by rw [up1_ne _ _ _ (by omega)]) (fun k _ k6 => by rw [up1_at, if_neg (by omega)])
      · exfalso; omega
    | succ k ih =>
      intro h M1 hk
      obtain ⟨hk, hO, hS⟩ := hk
      have hol := o0N_len v h
      refine x_iload_n dX5_seekLine_40 rfl ?_
      refine x_aload_n dX5_seekLine_41 rfl ?_
      refine g_X5_83 dX5_seekLine_42 ?_
      rw [hS.2.1.goers]
      refine y_icmp_ge 91 dX5_seekLine_45 (by omega) (by omega) (fun h_45 => ?_) (fun h_45 => ?_)
      · obtain rfl : h = v 2 := by omega
        have hO0 : OdR M1 (o0 v) := hO
        have hod := o0_Od hw
        refine x_aload_n dX5_seekLine_91 rfl ?_
        refine q_X5_105 (c_howManyAbove Lk49 hS.2.1 hw) dX5_seekLine_92 rfl ?_
        rintro _ _ ⟨rfl, rfl⟩
        refine x_aload_n dX5_seekLine_95 rfl ?_
        refine q_X5_108 (c_howManyMayRise Lk49 hS.2.1 hw h01) dX5_seekLine_96 rfl ?_
        rintro _ _ ⟨rfl, rfl⟩
        refine y_iadd dX5_seekLine_99 ?_
        refine x_istore_n dX5_seekLine_100 ?_
        refine x_aload_n dX5_seekLine_101 rfl ?_
        refine x_iconst (v := -1) dX5_seekLine_102 rfl ?_
        refine p_X5_111 dX5_seekLine_103 ?_
        refine y_iconst (a := 0) dX5_seekLine_106 rfl ?_
        refine x_istore dX5_seekLine_107 ?_
        refine keyB 720 0 (o0 v) none _ _ ⟨rfl, hod, rfl, hO0.keep (by rw [up1_at, if_neg (by omega)]) (by rw [up1_ne _ _ _ (by omega)]), ?_, rfl, Or.inl rfl, ?_⟩
        · show (up1 M1 14 6 (-1)).1 14 6 = -1
          rw [up1_at, if_pos ⟨rfl, rfl⟩]
        · exact hS.keep (fun c hc => by rw [up1_ne _ _ _ (by omega)]) (fun k _ k6 => by rw [up1_at, if_neg (by omega)])
      · refine x_aload_n dX5_seekLine_48 rfl ?_
        refine g_X5_99 dX5_seekLine_49 ?_
        refine x_iload_n dX5_seekLine_52 rfl ?_
        refine x_ial dX5_seekLine_53 (ArL Lk49 (Or.inr ⟨by decide, by decide, rfl⟩)) (by omega) ?_
        rw [hS.2.1.place (by omega)]
        have hgo := hw.goer (g := h) (by omega)
        refine y_if_ne 85 dX5_seekLine_54 (by omega) (fun h_54 => ?_) (fun h_54 => ?_)
        · refine y_iinc dX5_seekLine_85 rfl ?_
          refine x_goto 40 dX5_seekLine_88 ?_
          first
            | (have hb : bo v h = true := by unfold bo; rw [decide_eq_true (by assumption), h_62]; rfl
               refine ih (h + 1) _ ⟨by omega, ⟨?_, fun j hj => ?_⟩, ?_⟩
               · rw [o0N_step, if_pos hb, up1_at, if_pos ⟨rfl, rfl⟩, List.length_append]; rfl
               · rw [o0N_step, if_pos hb, List.length_append] at hj
                 simp only [List.length_singleton] at hj
                 rw [o0N_step, if_pos hb, gD_snoc, up1_ne _ _ _ (by omega), up1_at]
                 by_cases e1 : j = (o0N v h).length
                 · rw [if_pos ⟨rfl, e1⟩, if_pos e1]
                 · rw [if_neg (by omega), if_neg e1]; exact hO.2 j (by omega)
               · exact hS.keep (fun c hc => by rw [up1_ne _ _ _ (by omega), up1_ne _ _ _ (by omega)]) (fun k k5 _ => by rw [up1_at, if_neg (by omega), up1_ne _ _ _ (by omega)]))
            | (have hb : ¬ bo v h = true := by unfold bo; simp [*]
               exact ih (h + 1) _ ⟨by omega, by rw [o0N_step, if_neg hb]; exact hO, hS⟩)
        · refine x_aload_n dX5_seekLine_57 rfl ?_
          refine x_iload_n dX5_seekLine_58 rfl ?_
          refine q_X5_102 (c_isHeld Lk49 hS.2.1 hw (by omega)) dX5_seekLine_59 rfl ?_
          rintro _ _ ⟨rfl, rfl⟩
          refine z_if_ne 85 dX5_seekLine_62 (fun h_62 => ?_) (fun h_62 => ?_)
          · refine y_iinc dX5_seekLine_85 rfl ?_
            refine x_goto 40 dX5_seekLine_88 ?_
            first
              | (have hb : bo v h = true := by unfold bo; rw [decide_eq_true (by assumption), h_62]; rfl
                 refine ih (h + 1) _ ⟨by omega, ⟨?_, fun j hj => ?_⟩, ?_⟩
                 · rw [o0N_step, if_pos hb, up1_at, if_pos ⟨rfl, rfl⟩, List.length_append]; rfl
                 · rw [o0N_step, if_pos hb, List.length_append] at hj
                   simp only [List.length_singleton] at hj
                   rw [o0N_step, if_pos hb, gD_snoc, up1_ne _ _ _ (by omega), up1_at]
                   by_cases e1 : j = (o0N v h).length
                   · rw [if_pos ⟨rfl, e1⟩, if_pos e1]
                   · rw [if_neg (by omega), if_neg e1]; exact hO.2 j (by omega)
                 · exact hS.keep (fun c hc => by rw [up1_ne _ _ _ (by omega), up1_ne _ _ _ (by omega)]) (fun k k5 _ => by rw [up1_at, if_neg (by omega), up1_ne _ _ _ (by omega)]))
              | (have hb : ¬ bo v h = true := by unfold bo; simp [*]
                 exact ih (h + 1) _ ⟨by omega, by rw [o0N_step, if_neg hb]; exact hO, hS⟩)
          · refine x_aload_n dX5_seekLine_65 rfl ?_
            refine g_X5_9 dX5_seekLine_66 ?_
            refine x_aload_n dX5_seekLine_69 rfl ?_
            refine g_X5_96 dX5_seekLine_70 ?_
            rw [hO.1]
            refine x_iload_n dX5_seekLine_73 rfl ?_
            refine x_ias dX5_seekLine_74 (⟨by decide, rfl, rfl, by decide⟩ : Ar 15 6) (by omega) ?_
            refine x_aload_n dX5_seekLine_75 rfl ?_
            refine x_dup dX5_seekLine_76 rfl ?_
            refine g_X5_96 dX5_seekLine_77 ?_
            rw [(show (up1 M1 15 (o0N v h).length (nI h)).1 14 5 = nI (o0N v h).length from by rw [up1_ne _ _ _ (by omega)]; exact hO.1)]
            refine y_iconst (a := 1) dX5_seekLine_80 rfl ?_
            refine y_iadd dX5_seekLine_81 ?_
            refine p_X5_96 dX5_seekLine_82 ?_
            refine y_iinc dX5_seekLine_85 rfl ?_
            refine x_goto 40 dX5_seekLine_88 ?_
            first
              | (have hb : bo v h = true := by unfold bo; rw [decide_eq_true (by assumption), h_62]; rfl
                 refine ih (h + 1) _ ⟨by omega, ⟨?_, fun j hj => ?_⟩, ?_⟩
                 · rw [o0N_step, if_pos hb, up1_at, if_pos ⟨rfl, rfl⟩, List.length_append]; rfl
                 · rw [o0N_step, if_pos hb, List.length_append] at hj
                   simp only [List.length_singleton] at hj
                   rw [o0N_step, if_pos hb, gD_snoc, up1_ne _ _ _ (by omega), up1_at]
                   by_cases e1 : j = (o0N v h).length
                   · rw [if_pos ⟨rfl, e1⟩, if_pos e1]
                   · rw [if_neg (by omega), if_neg e1]; exact hO.2 j (by omega)
                 · exact hS.keep (fun c hc => by rw [up1_ne _ _ _ (by omega), up1_ne _ _ _ (by omega)]) (fun k k5 _ => by rw [up1_at, if_neg (by omega), up1_ne _ _ _ (by omega)]))
              | (have hb : ¬ bo v h = true := by unfold bo; simp [*]
                 exact ih (h + 1) _ ⟨by omega, by rw [o0N_step, if_neg hb]; exact hO, hS⟩)
  have key20 : X (mkG p l e R s m args below meth c Ω (fun ro M' => ro = none ∧ (∃ q : Nat × List Nat, lineR v n = some q ∧ q.2.length = (o0 v).length ∧ M'.1 14 5 = nI (o0 v).length ∧ BsR M' (o0 v).length (some q)) ∧ LineC M' ∧ F14 M M')) Ω RX5 cX5_seekLine 6 7 none 20 [some (.ref (Ω.2.2 14)), some (.ref (Ω.2.2 49)), some (.int (nI n)), none, none, none] [] M := by
    refine x_aload_n dX5_seekLine_20 rfl ?_
    refine g_X5_34 dX5_seekLine_21 ?_
    refine x_aload_n dX5_seekLine_24 rfl ?_
    refine q_X5_37 (c_become Lk73 Lk49 (by decide) hR hw) dX5_seekLine_25 rfl ?_
    rintro _ M0 ⟨rfl, hR0, hF0⟩
    refine x_aload_n dX5_seekLine_28 rfl ?_
    refine x_iload_n dX5_seekLine_29 rfl ?_
    refine p_X5_89 dX5_seekLine_30 ?_
    refine x_aload_n dX5_seekLine_33 rfl ?_
    refine y_iconst (a := 0) dX5_seekLine_34 rfl ?_
    refine p_X5_96 dX5_seekLine_35 ?_
    refine y_iconst (a := 0) dX5_seekLine_38 rfl ?_
    refine x_istore_n dX5_seekLine_39 ?_
    refine keyA (v 2) 0 _ ⟨Nat.zero_add _, ⟨by rw [up1_at, if_pos ⟨rfl, rfl⟩]; rfl, fun j hj => absurd hj (Nat.not_lt_zero _)⟩, ?_⟩
    refine ⟨hR0.same (fun k hk => by rw [up1_ne _ _ _ (by omega), up1_ne _ _ _ (by omega)]), (hR.keep hF0 Lk49 Lk73 (by decide)).same (fun k hk => by rw [up1_ne _ _ _ (by omega), up1_ne _ _ _ (by omega)]), ?_, fun c hc => ?_, fun k k2 k5 k6 => ?_⟩
    · rw [up1_at, if_neg (by omega), up1_at, if_pos ⟨rfl, rfl⟩]
    · rw [up1_ne _ _ _ (by omega), up1_ne _ _ _ (by omega)]; exact hF0.2 c (by omega)
    · rw [up1_at, if_neg (by omega), up1_at, if_neg (by omega), hF0.2 14 (by omega)]
  rcases hLn with hl0 | ⟨w, n1, m1, b1, c1, c2, c3, c4, c5, c6, c7, c8, c9, c10, c11⟩
  · refine x_aload_n dX5_seekLine_0 rfl ?_
    refine g_X5_89 dX5_seekLine_1 ?_
    rw [hl0]
    refine x_iload_n dX5_seekLine_4 rfl ?_
    refine y_icmp_ne 20 dX5_seekLine_5 (by omega) (by omega) (fun h_5 => ?_) (fun h_5 => ?_)
    · exact key20
    · exfalso; omega
  · refine x_aload_n dX5_seekLine_0 rfl ?_
    refine g_X5_89 dX5_seekLine_1 ?_
    rw [c4]
    refine x_iload_n dX5_seekLine_4 rfl ?_
    refine y_icmp_ne 20 dX5_seekLine_5 (by omega) (by omega) (fun h_5 => ?_) (fun h_5 => ?_)
    · exact key20
    · refine x_aload_n dX5_seekLine_8 rfl ?_
      refine g_X5_34 dX5_seekLine_9 ?_
      refine x_aload_n dX5_seekLine_12 rfl ?_
      refine q_X5_92 (c_isSameAs Lk73 Lk49 c1 hR c2.1 hw) dX5_seekLine_13 rfl ?_
      rintro _ _ ⟨⟨t, rfl, ht⟩, rfl⟩
      refine z_if_eq 20 dX5_seekLine_16 (fun h_16 => ?_) (fun h_16 => ?_)
      · exact key20
      · refine x_vret dX5_seekLine_19 ?_
        obtain rfl : n1 = n := h_5
        have hsm := ht h_16
        have hle := lineR_sm hsm c2 (by omega) hn60
        refine ⟨rfl, ⟨(m1, b1), by rw [← hle]; exact c7, by rw [← hsm.o0]; exact c8, by rw [← hsm.o0, ← c8]; exact c9, c10, ?_, by rw [← hsm.o0]; exact c8, fun i hi => c11 i (by rw [c8, hsm.o0]; exact hi)⟩, Or.inr ⟨w, n1, m1, b1, c1, c2, c3, c4, c5, c6, c7, c8, c9, c10, c11⟩, fun _ _ => rfl, fun _ _ _ _ => rfl⟩
        exact lineR_6 c2 (by omega) hn60 c7
