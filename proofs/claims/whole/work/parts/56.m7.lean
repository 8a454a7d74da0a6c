/-! THE REFERENCE: the line (laid by gen_m7.py) -/
theorem o0N_0 (v : Nat → Nat) : o0N v 0 = [] := rfl
theorem RwR.fs {M M' : Mem} {o : List Nat} (h : RwR M o) (hF : FS M M') : RwR M' o := h.keep (hF.2 44 (by decide))
theorem BsM.keep {M M' : Mem} {len : Nat} {acc : Option (Nat × List Nat)} (h : BsM M len acc) (e : M'.1 45 = M.1 45) : BsM M' len acc := fun q hq => ⟨(h q hq).1, (h q hq).2.1, fun i hi => by rw [e]; exact (h q hq).2.2 i hi⟩
theorem FQ.e {M M' : Mem} (h : FQ M M') : True := trivial
set_option maxRecDepth 100000 in
set_option maxHeartbeats 4000000 in
theorem m_line {Ω : Om} {l : Launch} {M : Mem} {σ : Sg} (hM : IM M σ) (hW : SgW σ) {n kk : Int32} : Ct Ω l yX12_line cX12_line 8 10 (some .int) [.ref (Ω.2.2 34), .int n, .int kk] M (fun ro M' => ro = some (.int (R_line σ.v n kk)) ∧ IM M' σ ∧ FrC M M') := by
  have hS := hM.ms
  have hLv : Lv σ.v := hW.2.2.1
  have hw := hLv.wv
  have hn := hw.nums
  have hth := hM.there
  refine ct_of (by decide) (Nat.le_of_ble_eq_true rfl) ?_
  intro p e R s m args below meth c
  have big : ∀ (n : Nat), 1 ≤ n → n ≤ 60 → inB (nI n) 1 60 = true → -1 ≤ kk.toInt → Iv σ.v → σ.v 3 ≤ 999 → ∀ (M0 : Mem), MsR M0 σ.v → AsR M0 σ.v → FQ M M0 → X (mkG p l e R s m args below meth c Ω (fun ro M' => ro = some (.int (R_line σ.v (nI n) kk)) ∧ IM M' σ ∧ FrC M M')) Ω RX12 cX12_line 8 10 (some .int) 39 [some (.ref (Ω.2.2 34)), some (.int (nI n)), some (.int kk), some (.int (nI 0)), some (.int (nI 0)), none, none, none] [] M0 := by
    intro n n1 n2 hin hkk hI h999 M00 hS00 hA00 hF00
    have tn := tN_nI (g := n) (by omega)
    have h00 : ¬ σ.v 0 = 0 := by have := hI.2.1; omega
    have hod0 := o0_Od hw
    have keyE : ∀ (q : Nat × List Nat) (M1 : Mem) (x6 x7 : Option Value), lineR σ.v n = some q → BsM M1 (o0 σ.v).length (some q) → MsR M1 σ.v → FQ M M1 → X (mkG p l e R s m args below meth c Ω (fun ro M' => ro = some (.int (R_line σ.v (nI n) kk)) ∧ IM M' σ ∧ FrC M M')) Ω RX12 cX12_line 8 10 (some .int) 100 [some (.ref (Ω.2.2 34)), some (.int (nI n)), some (.int kk), some (.int (nI (o0 σ.v).length)), some (.int (mo (some q))), some (.int (bI false)), x6, x7] [] M1 := by
      intro q M1 x6 x7 hl hB hS1 hF1
      obtain ⟨b1, b2, b3⟩ := hB q rfl
      have l6 := hod0.1
      refine x_iload dX12_line_100 rfl ?_
      refine z_if_eq 212 dX12_line_102 (fun _ => ?_) (fun h => absurd h (by decide))
      refine x_iload_n dX12_line_212 rfl ?_
      refine x_if_ge 221 dX12_line_213 (fun h_213 => ?_) (fun h_213 => ?_)
      · obtain ⟨j, hj, rfl⟩ := nI_of (x := kk) (by rw [Int32.lt_iff_toInt_lt]; show ¬ kk.toInt < 0; omega)
        have tj := tN_nI hj
        refine x_iload_n dX12_line_221 rfl ?_
        refine x_iload_n dX12_line_222 rfl ?_
        refine x_icmp_ge 235 dX12_line_223 (fun h_223 => ?_) (fun h_223 => ?_)
        · refine x_ldc dX12_line_235 k_X12_167 ?_
          refine x_iret dX12_line_237 ?_
          refine ⟨congrArg (fun z => some (Value.int z)) ?_, hM.q hF1 hS1⟩
          unfold R_line
          rw [if_neg h00, if_pos ⟨hin, hkk⟩, tn, hl]
          simp only []
          first
            | (have e1 : kk = -1 := Int32.toInt_inj.mp (by rw [show (-1 : Int32).toInt = -1 by decide]; omega)
               rw [if_pos e1]; rfl)
            | (have e1 : ¬ nI j = -1 := nI_m1 hj
               rw [if_neg e1, if_pos (inR_of (by omega) (by omega)), tj])
            | (have e1 : ¬ nI j = -1 := nI_m1 hj
               rw [nI_toInt hj, nI_toInt (by omega)] at h_223
               have e2 : inR (nI j) q.2.length = false := by
                 unfold inR
                 rw [nI_toInt hj]
                 simp; omega
               rw [if_neg e1, e2]; rfl)
        · rw [nI_toInt hj, nI_toInt (by omega)] at h_223
          refine x_aload_n dX12_line_226 rfl ?_
          refine g_X12_40 dX12_line_227 ?_
          refine x_iload_n dX12_line_230 rfl ?_
          refine x_ial dX12_line_231 (⟨by decide, rfl, rfl, by decide⟩ : Ar 45 6) (by omega) ?_
          rw [b3 j (by omega)]
          refine x_goto 237 dX12_line_232 ?_
          refine x_iret dX12_line_237 ?_
          refine ⟨congrArg (fun z => some (Value.int z)) ?_, hM.q hF1 hS1⟩
          unfold R_line
          rw [if_neg h00, if_pos ⟨hin, hkk⟩, tn, hl]
          simp only []
          first
            | (have e1 : kk = -1 := Int32.toInt_inj.mp (by rw [show (-1 : Int32).toInt = -1 by decide]; omega)
               rw [if_pos e1]; rfl)
            | (have e1 : ¬ nI j = -1 := nI_m1 hj
               rw [if_neg e1, if_pos (inR_of (by omega) (by omega)), tj])
            | (have e1 : ¬ nI j = -1 := nI_m1 hj
               rw [nI_toInt hj, nI_toInt (by omega)] at h_223
               have e2 : inR (nI j) q.2.length = false := by
                 unfold inR
                 rw [nI_toInt hj]
                 simp; omega
               rw [if_neg e1, e2]; rfl)
      · refine x_iload dX12_line_216 rfl ?_
        refine x_goto 237 dX12_line_218 ?_
        refine x_iret dX12_line_237 ?_
        refine ⟨congrArg (fun z => some (Value.int z)) ?_, hM.q hF1 hS1⟩
        unfold R_line
        rw [if_neg h00, if_pos ⟨hin, hkk⟩, tn, hl]
        simp only []
        first
          | (have e1 : kk = -1 := Int32.toInt_inj.mp (by rw [show (-1 : Int32).toInt = -1 by decide]; omega)
             rw [if_pos e1]; rfl)
          | (have e1 : ¬ nI j = -1 := nI_m1 hj
             rw [if_neg e1, if_pos (inR_of (by omega) (by omega)), tj])
          | (have e1 : ¬ nI j = -1 := nI_m1 hj
             rw [nI_toInt hj, nI_toInt (by omega)] at h_223
             have e2 : inR (nI j) q.2.length = false := by
               unfold inR
               rw [nI_toInt hj]
               simp; omega
             rw [if_neg e1, e2]; rfl)
    have keyB : ∀ (f : Nat) (o : List Nat) (acc : Option (Nat × List Nat)) (M1 : Mem) (x6 x7 : Option Value), eN f o = true → Od σ.v o → o.length = (o0 σ.v).length → RwR M1 o → lnS σ.v n f o acc = lineR σ.v n → BsM M1 (o0 σ.v).length acc → MsR M1 σ.v → AsR M1 σ.v → FQ M M1 → X (mkG p l e R s m args below meth c Ω (fun ro M' => ro = some (.int (R_line σ.v (nI n) kk)) ∧ IM M' σ ∧ FrC M M')) Ω RX12 cX12_line 8 10 (some .int) 100 [some (.ref (Ω.2.2 34)), some (.int (nI n)), some (.int kk), some (.int (nI (o0 σ.v).length)), some (.int (mo acc)), some (.int (bI true)), x6, x7] [] M1 := by
      intro f
      induction f with
      | zero => intro o acc M1 x6 x7 he; cases he
      | succ f ih =>
        intro o acc M1 x6 x7 he hod hlen hO1 hln hB1 hS1 hA1 hF1
        have l6 := hod.1
        have hao := AO_6 hI (by omega) n2 hod
        have hacc : ∀ q, acc = some q → q.1 ≤ 6 := fun q hq => (hB1 q hq).1
        have tail : ∀ (acc2 : Option (Nat × List Nat)) (M1 : Mem) (x6 x7 : Option Value), acc2 = lnU σ.v n acc o → BsM M1 (o0 σ.v).length acc2 → RwR M1 o → MsR M1 σ.v → AsR M1 σ.v → FQ M M1 → X (mkG p l e R s m args below meth c Ω (fun ro M' => ro = some (.int (R_line σ.v (nI n) kk)) ∧ IM M' σ ∧ FrC M M')) Ω RX12 cX12_line 8 10 (some .int) 202 [some (.ref (Ω.2.2 34)), some (.int (nI n)), some (.int kk), some (.int (nI (o0 σ.v).length)), some (.int (mo acc2)), some (.int (bI true)), x6, x7] [] M1 := by
          intro acc2 M1 x6 x7 hac hB1 hO1 hS1 hA1 hF1
          rw [← hlen]
          refine x_aload_n dX12_line_202 rfl ?_
          refine x_iload_n dX12_line_203 rfl ?_
          rcases hnx : nxL o with _ | o2
          · refine q_X12_247 (m_isNext hO1 l6 (hod.bl (by omega))) dX12_line_204 rfl ?_
            intro ro M5 hp5
            rw [hnx] at hp5
            obtain ⟨rfl, rfl⟩ := hp5
            refine x_istore dX12_line_207 ?_
            refine x_goto 100 dX12_line_209 ?_
            obtain ⟨q, hq⟩ := lnU_some σ.v n acc o
            rw [lnS_none hnx, hq] at hln
            rw [hq] at hac
            subst hac
            rw [hlen]
            exact keyE q _ _ _ hln.symm hB1 hS1 hF1
          · refine q_X12_247 (m_isNext hO1 l6 (hod.bl (by omega))) dX12_line_204 rfl ?_
            intro ro M5 hp5
            rw [hnx] at hp5
            obtain ⟨rfl, hO5, hF5⟩ := hp5
            refine x_istore dX12_line_207 ?_
            refine x_goto 100 dX12_line_209 ?_
            obtain ⟨hod2, hl2⟩ := hod.nx hnx
            rw [lnS_some hnx, ← hac] at hln
            rw [hlen]
            exact ih o2 acc2 _ _ _ (eN_none hnx he) hod2 (hl2.trans hlen) hO5 hln (hB1.keep (hF5.2 45 (by decide))) (hS1.fc hF5 (by decide)) (hA1.fc hF5 (by decide)) (hF1.c hF5 (by omega))
        have keyD : ∀ (k i : Nat) (M2 : Mem) (x6 : Int32), i + k = o.length → RwR M2 o → (∀ j, j < i → M2.1 45 j = nI (gD o j)) → MsR M2 σ.v → AsR M2 σ.v → FQ M M2 → lnU σ.v n acc o = some (AO σ.v n o, o) → X (mkG p l e R s m args below meth c Ω (fun ro M' => ro = some (.int (R_line σ.v (nI n) kk)) ∧ IM M' σ ∧ FrC M M')) Ω RX12 cX12_line 8 10 (some .int) 176 [some (.ref (Ω.2.2 34)), some (.int (nI n)), some (.int kk), some (.int (nI (o0 σ.v).length)), some (.int (nI (AO σ.v n o))), some (.int (bI true)), some (.int (x6)), some (.int (nI i))] [] M2 := by
          intro k
          rw [← hlen]
          induction k with
          | zero =>
            intro i M2 x6 hk hO2 hc2 hS2 hA2 hF2 hU
            refine x_iload dX12_line_176 rfl ?_
            refine x_iload_n dX12_line_178 rfl ?_
            refine y_icmp_ge 202 dX12_line_179 (by omega) (by omega) (fun h_179 => ?_) (fun h_179 => ?_)
            · have hh := tail (some (AO σ.v n o, o)) M2 (some (.int x6)) (some (.int (nI i))) hU.symm (fun q hq => by cases hq; exact ⟨hao, hlen, fun j hj => hc2 j (by omega)⟩) hO2 hS2 hA2 hF2
              rw [← hlen] at hh
              exact hh
            · exfalso; omega
          | succ k ih2 =>
            intro i M2 x6 hk hO2 hc2 hS2 hA2 hF2 hU
            refine x_iload dX12_line_176 rfl ?_
            refine x_iload_n dX12_line_178 rfl ?_
            refine y_icmp_ge 202 dX12_line_179 (by omega) (by omega) (fun h_179 => ?_) (fun h_179 => ?_)
            · have hh := tail (some (AO σ.v n o, o)) M2 (some (.int x6)) (some (.int (nI i))) hU.symm (fun q hq => by cases hq; exact ⟨hao, hlen, fun j hj => hc2 j (by omega)⟩) hO2 hS2 hA2 hF2
              rw [← hlen] at hh
              exact hh
            · refine x_aload_n dX12_line_182 rfl ?_
              refine g_X12_40 dX12_line_183 ?_
              refine x_iload dX12_line_186 rfl ?_
              refine x_aload_n dX12_line_188 rfl ?_
              refine g_X12_37 dX12_line_189 ?_
              refine x_iload dX12_line_192 rfl ?_
              refine x_ial dX12_line_194 (⟨by decide, rfl, rfl, by decide⟩ : Ar 44 6) (by omega) ?_
              rw [hO2.at (by omega)]
              refine x_ias dX12_line_195 (⟨by decide, rfl, rfl, by decide⟩ : Ar 45 6) (by omega) ?_
              refine y_iinc dX12_line_196 rfl ?_
              refine x_goto 176 dX12_line_199 ?_
              have hFc : FC 45 M2 (up1 M2 45 i (nI (gD o i))) := FC.rf.up
              refine ih2 (i + 1) _ x6 (by omega) (hO2.keep (hFc.2 44 (by decide))) (fun j hj => ?_) (hS2.fc hFc (by decide)) (hA2.fc hFc (by decide)) (hF2.c hFc (by omega)) hU
              rw [up1_at]
              by_cases z : j = i
              · subst z; rw [if_pos ⟨rfl, rfl⟩]
              · rw [if_neg (fun y => z y.2)]; exact hc2 j (by omega)
        have keyC : ∀ (k i : Nat) (M2 : Mem) (x7 : Option Value), i + k = o.length → RwR M2 o → BsM M2 (o0 σ.v).length acc → MsR M2 (liN σ.v o i) → AsR M2 σ.v → FQ M M2 → X (mkG p l e R s m args below meth c Ω (fun ro M' => ro = some (.int (R_line σ.v (nI n) kk)) ∧ IM M' σ ∧ FrC M M')) Ω RX12 cX12_line 8 10 (some .int) 108 [some (.ref (Ω.2.2 34)), some (.int (nI n)), some (.int kk), some (.int (nI (o0 σ.v).length)), some (.int (mo acc)), some (.int (bI true)), some (.int (nI i)), x7] [] M2 := by
          intro k
          rw [← hlen]
          induction k with
          | zero =>
            intro i M2 x7 hk hO2 hB2 hS2 hA2 hF2
            obtain ⟨i1, i2⟩ := liN_Iv hI (by omega) hod i (by omega)
            refine x_iload dX12_line_108 rfl ?_
            refine x_iload_n dX12_line_110 rfl ?_
            refine y_icmp_ge 144 dX12_line_111 (by omega) (by omega) (fun h_111 => ?_) (fun h_111 => ?_)
            · obtain rfl : i = o.length := by omega
              have hne := hrs_ne i1.1 n (by rw [i2 3 (by omega)]; omega)
              have hn0 : hrs (liN σ.v o o.length) n 0 = σ.v 0 := by rw [hne.2.1 0 (by omega) (by omega), i2 0 (by omega)]
              have hwl := whoA_lt hne.1 (σ.v 0 + 1)
              refine x_aload_n dX12_line_144 rfl ?_
              refine x_iload_n dX12_line_145 rfl ?_
              refine q_X12_220 (m_goOn hS2 i1 (by omega) (by rw [i2 3 (by omega)]; omega)) dX12_line_146 rfl ?_
              rintro _ M4 ⟨rfl, hS4, hF4⟩
              refine x_aload_n dX12_line_149 rfl ?_
              refine q_X12_206 (m_aboveSet hS4 hne.1) dX12_line_150 rfl ?_
              rintro _ _ ⟨rfl, rfl⟩
              rw [hn0]
              refine q_X12_237 (m_ones (by omega)) dX12_line_153 rfl ?_
              rintro _ _ ⟨rfl, rfl⟩
              rw [show pop (whoA (hrs (liN σ.v o o.length) n) (σ.v 0 + 1)) = AO σ.v n o from rfl]
              refine x_istore dX12_line_156 ?_
              refine x_aload_n dX12_line_158 rfl ?_
              refine q_X12_223 (m_takeBack (hA2.keep hF4)) dX12_line_159 rfl ?_
              rintro _ M5 ⟨rfl, hS9, hF9⟩
              have hF5 : FQ M M5 := (hF2.s hF4).s hF9
              have hO5 : RwR M5 o := (hO2.fs hF4).fs hF9
              have hA5 : AsR M5 σ.v := (hA2.keep hF4).keep hF9
              have hB5 : BsM M5 (o0 σ.v).length acc := by rw [← hlen]; exact (hB2.keep (hF4.2 45 (by decide))).keep (hF9.2 45 (by decide))
              refine x_iload dX12_line_162 rfl ?_
              refine x_iload dX12_line_164 rfl ?_
              refine x_icmp_le 202 dX12_line_166 (fun h_166 => ?_) (fun h_166 => ?_)
              · have hh := tail acc M5 (some (.int (nI (AO σ.v n o)))) x7 (lnU_le hacc hao h_166).symm hB5 hO5 hS9 hA5 hF5
                rw [← hlen] at hh
                exact hh
              · refine x_iload dX12_line_169 rfl ?_
                refine x_istore dX12_line_171 ?_
                refine y_iconst (a := 0) dX12_line_173 rfl ?_
                refine x_istore dX12_line_174 ?_
                have hh := keyD o.length 0 _ (nI (AO σ.v n o)) (Nat.zero_add _) hO5 (fun j hj => absurd hj (Nat.not_lt_zero _)) hS9 hA5 hF5 (lnU_gt hacc hao h_166)
                rw [← hlen] at hh
                exact hh
            · exfalso; omega
          | succ k ih2 =>
            intro i M2 x7 hk hO2 hB2 hS2 hA2 hF2
            obtain ⟨i1, i2⟩ := liN_Iv hI (by omega) hod i (by omega)
            refine x_iload dX12_line_108 rfl ?_
            refine x_iload_n dX12_line_110 rfl ?_
            refine y_icmp_ge 144 dX12_line_111 (by omega) (by omega) (fun h_111 => ?_) (fun h_111 => ?_)
            · exfalso; omega
            · have hgo := hod.2 i (by omega)
              refine x_aload_n dX12_line_114 rfl ?_
              refine g_X12_19 dX12_line_115 ?_
              refine x_bipush (v := nI 27) dX12_line_118 rfl ?_
              refine x_aload_n dX12_line_120 rfl ?_
              refine g_X12_37 dX12_line_121 ?_
              refine x_iload dX12_line_124 rfl ?_
              refine x_ial dX12_line_126 (⟨by decide, rfl, rfl, by decide⟩ : Ar 44 6) (by omega) ?_
              rw [hO2.at (by omega)]
              refine y_iadd dX12_line_127 ?_
              refine x_aload_n dX12_line_128 rfl ?_
              refine g_X12_19 dX12_line_129 ?_
              refine y_iconst (a := 3) dX12_line_132 rfl ?_
              refine x_ial dX12_line_133 (⟨by decide, rfl, rfl, by decide⟩ : Ar 38 45) (by omega) ?_
              rw [hS2.at (by omega), i2 3 (by omega)]
              refine x_iload dX12_line_134 rfl ?_
              refine y_iadd dX12_line_136 ?_
              refine x_ias dX12_line_137 (⟨by decide, rfl, rfl, by decide⟩ : Ar 38 45) (by omega) ?_
              refine y_iinc dX12_line_138 rfl ?_
              refine x_goto 108 dX12_line_141 ?_
              exact ih2 (i + 1) _ x7 (by omega) (hO2.fs FS.rf.up) (hB2.keep (up1_ne _ _ _ (by decide))) (hS2.set (27 + gD o i) (σ.v 3 + i)) (hA2.up38) (hF2.s FS.rf.up)
        refine x_iload dX12_line_100 rfl ?_
        refine z_if_eq 212 dX12_line_102 (fun h => absurd h (by decide)) (fun _ => ?_)
        refine y_iconst (a := 0) dX12_line_105 rfl ?_
        refine x_istore dX12_line_106 ?_
        exact keyC o.length 0 M1 x7 (Nat.zero_add _) hO1 hB1 hS1 hA1 hF1
    have keyA : ∀ (k g : Nat) (M1 : Mem), g + k = σ.v 2 → RwR M1 (o0N σ.v g) → MsR M1 σ.v → AsR M1 σ.v → FQ M M1 → X (mkG p l e R s m args below meth c Ω (fun ro M' => ro = some (.int (R_line σ.v (nI n) kk)) ∧ IM M' σ ∧ FrC M M')) Ω RX12 cX12_line 8 10 (some .int) 39 [some (.ref (Ω.2.2 34)), some (.int (nI n)), some (.int kk), some (.int (nI (o0N σ.v g).length)), some (.int (nI g)), none, none, none] [] M1 := by
      intro k
      induction k with
      | zero =>
        intro g M1 hk hO1 hS1 hA1 hF1
        have hl := o0N_len σ.v g
        refine x_iload dX12_line_39 rfl ?_
        refine x_aload_n dX12_line_41 rfl ?_
        refine g_X12_19 dX12_line_42 ?_
        refine y_iconst (a := 2) dX12_line_45 rfl ?_
        refine x_ial dX12_line_46 (⟨by decide, rfl, rfl, by decide⟩ : Ar 38 45) (by omega) ?_
        rw [hS1.at (by omega)]
        refine y_icmp_ge 94 dX12_line_47 (by omega) (by omega) (fun h_47 => ?_) (fun h_47 => ?_)
        · obtain rfl : g = σ.v 2 := by omega
          refine x_iconst (v := -1) dX12_line_94 rfl ?_
          refine x_istore dX12_line_95 ?_
          refine x_iconst (v := bI true) dX12_line_97 rfl ?_
          refine x_istore dX12_line_98 ?_
          exact keyB 720 (o0 σ.v) none M1 _ _ (eN_o0 (by omega)) hod0 rfl hO1 rfl (fun q hq => by cases hq) hS1 hA1 hF1
        · exfalso; omega
      | succ k ih =>
        intro g M1 hk hO1 hS1 hA1 hF1
        have hl := o0N_len σ.v g
        refine x_iload dX12_line_39 rfl ?_
        refine x_aload_n dX12_line_41 rfl ?_
        refine g_X12_19 dX12_line_42 ?_
        refine y_iconst (a := 2) dX12_line_45 rfl ?_
        refine x_ial dX12_line_46 (⟨by decide, rfl, rfl, by decide⟩ : Ar 38 45) (by omega) ?_
        rw [hS1.at (by omega)]
        refine y_icmp_ge 94 dX12_line_47 (by omega) (by omega) (fun h_47 => ?_) (fun h_47 => ?_)
        · exfalso; omega
        · have hgo := hw.goer (g := g) (by omega)
          refine x_aload_n dX12_line_50 rfl ?_
          refine g_X12_19 dX12_line_51 ?_
          refine x_bipush (v := nI 33) dX12_line_54 rfl ?_
          refine x_iload dX12_line_56 rfl ?_
          refine y_iadd dX12_line_58 ?_
          refine x_ial dX12_line_59 (⟨by decide, rfl, rfl, by decide⟩ : Ar 38 45) (by omega) ?_
          rw [hS1.at (by omega)]
          refine y_if_ne 88 dX12_line_60 (by omega) (fun h_60 => ?_) (fun h_60 => ?_)
          · refine y_iinc dX12_line_88 rfl ?_
            refine x_goto 39 dX12_line_91 ?_
            first
              | (have hb : bo σ.v g = false := by simp [bo, h_60]
                 have hh := ih (g + 1) M1 (by omega) (by rw [o0N_step, hb]; exact hO1) hS1 hA1 hF1
                 rw [o0N_step, hb] at hh
                 exact hh)
              | (have hb : bo σ.v g = false := by simp [bo, hld, h_74]
                 have hh := ih (g + 1) M1 (by omega) (by rw [o0N_step, hb]; exact hO1) hS1 hA1 hF1
                 rw [o0N_step, hb] at hh
                 exact hh)
              | (have hb : bo σ.v g = true := by simp [bo, hld, h_74, h_60]
                 have hFc : FC 44 M1 (up1 M1 44 (o0N σ.v g).length (nI g)) := FC.rf.up
                 have hh := ih (g + 1) _ (by omega) (by
                   rw [o0N_step, if_pos hb]
                   intro i hi
                   rw [List.length_append] at hi
                   rw [gD_snoc, up1_at]
                   by_cases z : i = (o0N σ.v g).length
                   · rw [if_pos ⟨rfl, z⟩, if_pos z]
                   · rw [if_neg (fun y => z y.2), if_neg z]; exact hO1 i (by simp at hi; omega)) (hS1.fc hFc (by decide)) (hA1.fc hFc (by decide)) (hF1.c hFc (by omega))
                 rw [o0N_step, if_pos hb, List.length_append] at hh
                 exact hh)
          · refine x_aload_n dX12_line_63 rfl ?_
            refine g_X12_19 dX12_line_64 ?_
            refine y_iconst (a := 4) dX12_line_67 rfl ?_
            refine x_ial dX12_line_68 (⟨by decide, rfl, rfl, by decide⟩ : Ar 38 45) (by omega) ?_
            rw [hS1.at (by omega)]
            refine x_iload dX12_line_69 rfl ?_
            refine q_X12_174 (m_has (by omega) (by omega)) dX12_line_71 rfl ?_
            rintro _ _ ⟨rfl, rfl⟩
            refine z_if_ne 88 dX12_line_74 (fun h_74 => ?_) (fun h_74 => ?_)
            · refine y_iinc dX12_line_88 rfl ?_
              refine x_goto 39 dX12_line_91 ?_
              first
                | (have hb : bo σ.v g = false := by simp [bo, h_60]
                   have hh := ih (g + 1) M1 (by omega) (by rw [o0N_step, hb]; exact hO1) hS1 hA1 hF1
                   rw [o0N_step, hb] at hh
                   exact hh)
                | (have hb : bo σ.v g = false := by simp [bo, hld, h_74]
                   have hh := ih (g + 1) M1 (by omega) (by rw [o0N_step, hb]; exact hO1) hS1 hA1 hF1
                   rw [o0N_step, hb] at hh
                   exact hh)
                | (have hb : bo σ.v g = true := by simp [bo, hld, h_74, h_60]
                   have hFc : FC 44 M1 (up1 M1 44 (o0N σ.v g).length (nI g)) := FC.rf.up
                   have hh := ih (g + 1) _ (by omega) (by
                     rw [o0N_step, if_pos hb]
                     intro i hi
                     rw [List.length_append] at hi
                     rw [gD_snoc, up1_at]
                     by_cases z : i = (o0N σ.v g).length
                     · rw [if_pos ⟨rfl, z⟩, if_pos z]
                     · rw [if_neg (fun y => z y.2), if_neg z]; exact hO1 i (by simp at hi; omega)) (hS1.fc hFc (by decide)) (hA1.fc hFc (by decide)) (hF1.c hFc (by omega))
                   rw [o0N_step, if_pos hb, List.length_append] at hh
                   exact hh)
            · refine x_aload_n dX12_line_77 rfl ?_
              refine g_X12_37 dX12_line_78 ?_
              refine x_iload_n dX12_line_81 rfl ?_
              refine x_iload dX12_line_82 rfl ?_
              refine x_ias dX12_line_84 (⟨by decide, rfl, rfl, by decide⟩ : Ar 44 6) (by omega) ?_
              refine y_iinc dX12_line_85 rfl ?_
              refine y_iinc dX12_line_88 rfl ?_
              refine x_goto 39 dX12_line_91 ?_
              first
                | (have hb : bo σ.v g = false := by simp [bo, h_60]
                   have hh := ih (g + 1) M1 (by omega) (by rw [o0N_step, hb]; exact hO1) hS1 hA1 hF1
                   rw [o0N_step, hb] at hh
                   exact hh)
                | (have hb : bo σ.v g = false := by simp [bo, hld, h_74]
                   have hh := ih (g + 1) M1 (by omega) (by rw [o0N_step, hb]; exact hO1) hS1 hA1 hF1
                   rw [o0N_step, hb] at hh
                   exact hh)
                | (have hb : bo σ.v g = true := by simp [bo, hld, h_74, h_60]
                   have hFc : FC 44 M1 (up1 M1 44 (o0N σ.v g).length (nI g)) := FC.rf.up
                   have hh := ih (g + 1) _ (by omega) (by
                     rw [o0N_step, if_pos hb]
                     intro i hi
                     rw [List.length_append] at hi
                     rw [gD_snoc, up1_at]
                     by_cases z : i = (o0N σ.v g).length
                     · rw [if_pos ⟨rfl, z⟩, if_pos z]
                     · rw [if_neg (fun y => z y.2), if_neg z]; exact hO1 i (by simp at hi; omega)) (hS1.fc hFc (by decide)) (hA1.fc hFc (by decide)) (hF1.c hFc (by omega))
                   rw [o0N_step, if_pos hb, List.length_append] at hh
                   exact hh)
    exact keyA (σ.v 2) 0 M00 (Nat.zero_add _) (fun i hi => absurd hi (Nat.not_lt_zero _)) hS00 hA00 hF00
  refine x_aload_n dX12_line_0 rfl ?_
  refine g_X12_147 dX12_line_1 ?_
  rw [hth]
  refine z_if_ne 10 dX12_line_4 (fun h_4 => ?_) (fun h_4 => ?_)
  · simp only [decide_eq_true_eq] at h_4
    obtain ⟨hI, h999⟩ : Iv σ.v ∧ σ.v 3 ≤ 999 := by
      rcases hLv with z | z
      · exact z
      · exact absurd (z 0 (by decide)) h_4
    refine x_iload_n dX12_line_10 rfl ?_
    refine x_i2l dX12_line_11 ?_
    refine x_lconst (v := lN 1) dX12_line_12 rfl ?_
    refine x_ldc2 (v := lN 60) dX12_line_13 k_X12_226 ?_
    refine q_X12_60 (m_inB (by decide) (by decide)) dX12_line_16 rfl ?_
    rintro _ _ ⟨rfl, rfl⟩
    refine z_if_eq 27 dX12_line_19 (fun h_19 => ?_) (fun h_19 => ?_)
    · refine x_ldc dX12_line_27 k_X12_70 ?_
      refine x_iret dX12_line_29 ?_
      refine ⟨congrArg (fun z => some (Value.int z)) ?_, hM, FrC.rf⟩
      first
        | (simp only [decide_eq_false_iff_not] at h_4
           simp [R_line, Decidable.not_not.mp h_4]; done)
        | (unfold R_line
           rw [if_neg h_4, if_neg (fun z => Bool.false_ne_true (h_19.symm.trans z.1))])
        | (unfold R_line
           rw [show (-1 : Int32).toInt = -1 by decide] at h_24
           rw [if_neg h_4, if_neg (fun z => by have := z.2; omega)])
    · obtain ⟨n, n1, n2, rfl⟩ := inB_nI h_19 (by decide)
      have tn := tN_nI (g := n) (by omega)
      refine x_iload_n dX12_line_22 rfl ?_
      refine x_iconst (v := -1) dX12_line_23 rfl ?_
      refine x_icmp_ge 30 dX12_line_24 (fun h_24 => ?_) (fun h_24 => ?_)
      · refine x_aload_n dX12_line_30 rfl ?_
        refine q_X12_228 (m_putAside hS) dX12_line_31 rfl ?_
        rintro _ M0 ⟨rfl, hA0, hF0⟩
        have hS0 := hS.fc hF0 (by decide)
        refine y_iconst (a := 0) dX12_line_34 rfl ?_
        refine x_istore_n dX12_line_35 ?_
        refine y_iconst (a := 0) dX12_line_36 rfl ?_
        refine x_istore dX12_line_37 ?_
        exact big n n1 n2 h_19 h_24 hI h999 _ hS0 hA0 (FQ.rf.c hF0 (by omega))
      · refine x_ldc dX12_line_27 k_X12_70 ?_
        refine x_iret dX12_line_29 ?_
        refine ⟨congrArg (fun z => some (Value.int z)) ?_, hM, FrC.rf⟩
        first
          | (simp only [decide_eq_false_iff_not] at h_4
             simp [R_line, Decidable.not_not.mp h_4]; done)
          | (unfold R_line
             rw [if_neg h_4, if_neg (fun z => Bool.false_ne_true (h_19.symm.trans z.1))])
          | (unfold R_line
             rw [show (-1 : Int32).toInt = -1 by decide] at h_24
             rw [if_neg h_4, if_neg (fun z => by have := z.2; omega)])
  · refine x_ldc dX12_line_7 k_X12_197 ?_
    refine x_iret dX12_line_9 ?_
    refine ⟨congrArg (fun z => some (Value.int z)) ?_, hM, FrC.rf⟩
    first
      | (simp only [decide_eq_false_iff_not] at h_4
         simp [R_line, Decidable.not_not.mp h_4]; done)
      | (unfold R_line
         rw [if_neg h_4, if_neg (fun z => Bool.false_ne_true (h_19.symm.trans z.1))])
      | (unfold R_line
         rw [show (-1 : Int32).toInt = -1 by decide] at h_24
         rw [if_neg h_4, if_neg (fun z => by have := z.2; omega)])
