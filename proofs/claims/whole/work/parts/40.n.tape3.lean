/-! TAPE: readGoers, readInto; LADDERSPRINGS: lake (laid by gen_tape3.py) -/
set_option maxRecDepth 100000 in
set_option maxHeartbeats 4000000 in
theorem c_readGoers {Ω : Om} {l : Launch} {M : Mem} {T : Tp} (hT : TW T) {a f : Nat} {v : Nat → Nat} {Rz : (Nat × Nat) ⊕ (Nat → Nat)} (hTl : Tl v (v 0)) (hv2 : v 2 = 0) (hf : 7 ≤ f) (hR : LkR M 57 v) (hK : TkR M T a) (h114 : ¬ tcd T a = 114) (hRz : pRun T f (v 0) a v = Rz) : Ct Ω l yX10_readGoers cX10_readGoers 6 6 (some .boolean) [.ref (Ω.2.2 2), .ref (Ω.2.2 57)] M (fun ro M' => F257 M M' ∧ ((ro = some (.int (bI false)) ∧ ∃ e, Rz = .inl e ∧ ErR M' e) ∨ (ro = some (.int (bI true)) ∧ ∃ w : Nat → Nat, Rz = .inr w ∧ Tl w (w 0) ∧ LkR M' 57 w))) := by
  have hL49 : Lk 49 := Lk49
  have hL57 : Lk 57 := Lk57
  refine ct_of (by decide) (Nat.le_of_ble_eq_true rfl) ?_
  intro p e R s m args below meth c
  have key : ∀ (k g : Nat) (w : Nat → Nat) (a f : Nat) (u3 u4 u5 : Option Value) (M1 : Mem), g + k = 6 ∧ w 2 = g ∧ Tl w (w 0) ∧ k + 1 ≤ f ∧ LkR M1 57 w ∧ TkR M1 T a ∧ (g = 0 → ¬ tcd T a = 114) ∧ pRun T f (w 0) a w = Rz ∧ F257 M M1 → X (mkG p l e R s m args below meth c Ω (fun ro M' => F257 M M' ∧ ((ro = some (.int (bI false)) ∧ ∃ e, Rz = .inl e ∧ ErR M' e) ∨ (ro = some (.int (bI true)) ∧ ∃ w : Nat → Nat, Rz = .inr w ∧ Tl w (w 0) ∧ LkR M' 57 w)))) Ω RX10 cX10_readGoers 6 6 (some .boolean) 2 [some (.ref (Ω.2.2 2)), some (.ref (Ω.2.2 57)), some (.int (nI g)), u3, u4, u5] [] M1 := by
    intro k
    induction k with
    | zero =>
      intro g w a f u3 u4 u5 M1 hh
      obtain ⟨hk, hwg, hTl, hf, hR, hK, h114, hRz, hF⟩ := hh
      have hn := hTl.1.1.nums
      have htc := tcd_lt hT a
      have hkd := kdO_le (tcd T a)
      obtain ⟨f, rfl⟩ : ∃ f2, f = f2 + 1 := ⟨f - 1, by omega⟩
      refine x_iload_n dX10_readGoers_2 rfl ?_
      refine x_bipush (v := nI 6) dX10_readGoers_3 rfl ?_
      refine y_icmp_ge 95 dX10_readGoers_5 (by omega) (by omega) (fun h_5 => ?_) (fun h_5 => ?_)
      · refine x_aload_n dX10_readGoers_95 rfl ?_
        refine g_X10_58 dX10_readGoers_96 ?_
        rw [hK.2.2.1]
        refine x_iconst (v := -1) dX10_readGoers_99 rfl ?_
        by_cases hend : tcd T a = 256
        · refine x_icmp_eq 125 dX10_readGoers_100 (fun _ => ?_) (fun z => absurd ((tok_m1 htc).mpr hend) z)
          refine y_iconst (a := 1) dX10_readGoers_125 rfl ?_
          refine x_goto 130 dX10_readGoers_126 ?_
          first | refine z_iret dX10_readGoers_130 ?_ | refine z_iret0 dX10_readGoers_130 ?_ | refine z_iret1 dX10_readGoers_130 ?_
          refine ⟨hF, Or.inr ⟨rfl, w, ?_, hTl, hR⟩⟩
          rw [← hRz]
          exact pRun_gE (Nat.lt_irrefl _) ⟨by omega, hend⟩
        · refine x_icmp_eq 125 dX10_readGoers_100 (fun z => absurd ((tok_m1 htc).mp z) hend) (fun _ => ?_)
          refine x_aload_n dX10_readGoers_103 rfl ?_
          refine x_aload_n dX10_readGoers_104 rfl ?_
          refine g_X10_58 dX10_readGoers_105 ?_
          rw [hK.2.2.1]
          refine q_X10_65 (c_kindOf htc) dX10_readGoers_108 rfl ?_
          rintro _ _ ⟨rfl, rfl⟩
          refine y_if_ne 118 dX10_readGoers_111 (by omega) (fun h_111 => ?_) (fun h_111 => ?_)
          · refine y_iconst (a := 3) dX10_readGoers_118 rfl ?_
            refine q_X10_61 (c_blame) dX10_readGoers_119 rfl ?_
            rintro _ _ ⟨rfl, rfl⟩
            refine z_if_eq 129 dX10_readGoers_122 (fun _ => ?_) (fun z => by cases z)
            refine y_iconst (a := 0) dX10_readGoers_129 rfl ?_
            first | refine z_iret dX10_readGoers_130 ?_ | refine z_iret0 dX10_readGoers_130 ?_ | refine z_iret1 dX10_readGoers_130 ?_
            first
              | (refine ⟨hF.tr F2.rf.up.w, Or.inl ⟨rfl, (1, a), ?_, hK.err⟩⟩
                 rw [← hRz]
                 exact pRun_g1 (Nat.lt_irrefl _) (by omega) (by omega) (by omega))
              | (refine ⟨hF.tr F2.rf.up.w, Or.inl ⟨rfl, (3, a), ?_, hK.err⟩⟩
                 rw [← hRz]
                 exact pRun_g6 (Nat.lt_irrefl _) (by omega) (by omega))
          · refine y_iconst (a := 1) dX10_readGoers_114 rfl ?_
            refine x_goto 119 dX10_readGoers_115 ?_
            refine q_X10_61 (c_blame) dX10_readGoers_119 rfl ?_
            rintro _ _ ⟨rfl, rfl⟩
            refine z_if_eq 129 dX10_readGoers_122 (fun _ => ?_) (fun z => by cases z)
            refine y_iconst (a := 0) dX10_readGoers_129 rfl ?_
            first | refine z_iret dX10_readGoers_130 ?_ | refine z_iret0 dX10_readGoers_130 ?_ | refine z_iret1 dX10_readGoers_130 ?_
            first
              | (refine ⟨hF.tr F2.rf.up.w, Or.inl ⟨rfl, (1, a), ?_, hK.err⟩⟩
                 rw [← hRz]
                 exact pRun_g1 (Nat.lt_irrefl _) (by omega) (by omega) (by omega))
              | (refine ⟨hF.tr F2.rf.up.w, Or.inl ⟨rfl, (3, a), ?_, hK.err⟩⟩
                 rw [← hRz]
                 exact pRun_g6 (Nat.lt_irrefl _) (by omega) (by omega))
      · exfalso; omega
    | succ k ih =>
      intro g w a f u3 u4 u5 M1 hh
      obtain ⟨hk, hwg, hTl, hf, hR, hK, h114, hRz, hF⟩ := hh
      have hn := hTl.1.1.nums
      have htc := tcd_lt hT a
      have hkd := kdO_le (tcd T a)
      obtain ⟨f, rfl⟩ : ∃ f2, f = f2 + 1 := ⟨f - 1, by omega⟩
      refine x_iload_n dX10_readGoers_2 rfl ?_
      refine x_bipush (v := nI 6) dX10_readGoers_3 rfl ?_
      refine y_icmp_ge 95 dX10_readGoers_5 (by omega) (by omega) (fun h_5 => ?_) (fun h_5 => ?_)
      · exfalso; omega
      · refine x_iload_n dX10_readGoers_8 rfl ?_
        refine y_if_le 22 dX10_readGoers_9 (by omega) (fun h_9 => ?_) (fun h_9 => ?_)
        · refine x_aload_n dX10_readGoers_22 rfl ?_
          refine g_X10_58 dX10_readGoers_23 ?_
          rw [hK.2.2.1]
          refine q_X10_65 (c_kindOf htc) dX10_readGoers_26 rfl ?_
          rintro _ _ ⟨rfl, rfl⟩
          refine x_istore_n dX10_readGoers_29 ?_
          refine x_iload_n dX10_readGoers_30 rfl ?_
          skip
          refine y_if_ne 40 dX10_readGoers_31 (by omega) (fun h_31 => ?_) (fun h_31 => ?_)
          · have hko : ¬ kdO (tcd T a) = 0 := by omega
            refine x_aload_n dX10_readGoers_40 rfl ?_
            refine q_X10_25 (c_next hT hK.1 hK.2.1 hK.2.2.2.1 (tln_le T hK.2.2.2.2.2)) dX10_readGoers_41 rfl ?_
            rintro _ M1 ⟨rfl, hK1, hF1⟩
            replace hK1 : TkR M1 T (nx T a) := hK1
            rcases hn2 : pNum T 1 30 44 (nx T a) with e2 | b2
            · refine x_aload_n dX10_readGoers_44 rfl ?_
              refine y_iconst (a := 1) dX10_readGoers_45 rfl ?_
              refine x_bipush (v := nI 30) dX10_readGoers_46 rfl ?_
              refine x_bipush (v := nI 44) dX10_readGoers_48 rfl ?_
              refine q_X10_42 (c_numberThen hT hK1 (lo := 1) (hi := 30) (sg := 44) (by decide) (by decide) (by decide)) dX10_readGoers_50 rfl ?_
              intro ro M2 hp
              obtain ⟨hF2, hp⟩ := hp
              rw [hn2] at hp
              obtain ⟨rfl, hE2⟩ := hp
              refine x_istore dX10_readGoers_53 ?_
              refine x_iload dX10_readGoers_55 rfl ?_
              refine x_if_ge 62 dX10_readGoers_57 (fun z => absurd z (by decide)) (fun _ => ?_)
              refine y_iconst (a := 0) dX10_readGoers_60 rfl ?_
              first | refine z_iret dX10_readGoers_61 ?_ | refine z_iret0 dX10_readGoers_61 ?_ | refine z_iret1 dX10_readGoers_61 ?_
              exact ⟨hF.tr (hF1.tr hF2).w, Or.inl ⟨rfl, e2, by rw [← hRz]; exact pRun_n1 (Nat.lt_irrefl _) hko (by omega) hn2, hE2⟩⟩
            · refine x_aload_n dX10_readGoers_44 rfl ?_
              refine y_iconst (a := 1) dX10_readGoers_45 rfl ?_
              refine x_bipush (v := nI 30) dX10_readGoers_46 rfl ?_
              refine x_bipush (v := nI 44) dX10_readGoers_48 rfl ?_
              refine q_X10_42 (c_numberThen hT hK1 (lo := 1) (hi := 30) (sg := 44) (by decide) (by decide) (by decide)) dX10_readGoers_50 rfl ?_
              intro ro M2 hp
              obtain ⟨hF2, hp⟩ := hp
              rw [hn2] at hp
              obtain ⟨rfl, hK2⟩ := hp
              have hle2 := pNum_le2 hn2
              refine x_istore dX10_readGoers_53 ?_
              refine x_iload dX10_readGoers_55 rfl ?_
              refine y_if_ge 62 dX10_readGoers_57 (by omega) ?_
              rcases hn3 : pNum T 0 30 59 b2.2 with e3 | b3
              · refine x_aload_n dX10_readGoers_62 rfl ?_
                refine y_iconst (a := 0) dX10_readGoers_63 rfl ?_
                refine x_bipush (v := nI 30) dX10_readGoers_64 rfl ?_
                refine x_bipush (v := nI 59) dX10_readGoers_66 rfl ?_
                refine q_X10_42 (c_numberThen hT hK2 (lo := 0) (hi := 30) (sg := 59) (by decide) (by decide) (by decide)) dX10_readGoers_68 rfl ?_
                intro ro M3 hp
                obtain ⟨hF3, hp⟩ := hp
                rw [hn3] at hp
                obtain ⟨rfl, hE3⟩ := hp
                refine x_istore dX10_readGoers_71 ?_
                refine x_iload dX10_readGoers_73 rfl ?_
                refine x_if_ge 80 dX10_readGoers_75 (fun z => absurd z (by decide)) (fun _ => ?_)
                refine y_iconst (a := 0) dX10_readGoers_78 rfl ?_
                first | refine z_iret dX10_readGoers_79 ?_ | refine z_iret0 dX10_readGoers_79 ?_ | refine z_iret1 dX10_readGoers_79 ?_
                exact ⟨hF.tr ((hF1.tr hF2).tr hF3).w, Or.inl ⟨rfl, e3, by rw [← hRz]; exact pRun_n2 (Nat.lt_irrefl _) hko (by omega) hn2 hn3, hE3⟩⟩
              · refine x_aload_n dX10_readGoers_62 rfl ?_
                refine y_iconst (a := 0) dX10_readGoers_63 rfl ?_
                refine x_bipush (v := nI 30) dX10_readGoers_64 rfl ?_
                refine x_bipush (v := nI 59) dX10_readGoers_66 rfl ?_
                refine q_X10_42 (c_numberThen hT hK2 (lo := 0) (hi := 30) (sg := 59) (by decide) (by decide) (by decide)) dX10_readGoers_68 rfl ?_
                intro ro M3 hp
                obtain ⟨hF3, hp⟩ := hp
                rw [hn3] at hp
                obtain ⟨rfl, hK3⟩ := hp
                have hle3 := pNum_le2 hn3
                refine x_istore dX10_readGoers_71 ?_
                refine x_iload dX10_readGoers_73 rfl ?_
                refine y_if_ge 80 dX10_readGoers_75 (by omega) ?_
                refine x_aload_n dX10_readGoers_80 rfl ?_
                refine x_iload_n dX10_readGoers_81 rfl ?_
                refine x_iload dX10_readGoers_82 rfl ?_
                refine x_iload dX10_readGoers_84 rfl ?_
                refine q_X10_69 (c_addGoer Lk57 (hR.same (fun k hk => by rw [hF3.2 _ (by omega), hF2.2 _ (by omega), hF1.2 _ (by omega)])) hTl.1.1 (by omega)) dX10_readGoers_86 rfl ?_
                rintro _ M4 ⟨rfl, hR4, hF4⟩
                refine y_iinc dX10_readGoers_89 rfl ?_
                refine x_goto 2 dX10_readGoers_92 ?_
                have hlx : LkR M4 57 (agV w (kdO (tcd T a)) b2.1 b3.1) := hR4
                have e0 : agV w (kdO (tcd T a)) b2.1 b3.1 0 = w 0 := agV_ne (by omega) (by omega) (by omega) (by omega) (by omega) (by omega) (by omega)
                refine ih (g + 1) (agV w (kdO (tcd T a)) b2.1 b3.1) b3.2 f _ _ _ _ ⟨by omega, by show w 2 + 1 = g + 1; omega, hTl.goer (by omega) (by omega) hle2.2 hle3.2, by omega, hlx, hK3.keep (hF4.2 2 (by omega)) (hF4.2 3 (by omega)), fun z => by omega, ?_, (hF.tr ((hF1.tr hF2).tr hF3).w).tr hF4.w57⟩
                rw [← hRz, e0]
                exact (pRun_n3 (Nat.lt_irrefl _) hko (by omega) hn2 hn3).symm
          · have hk0 : kdO (tcd T a) = 0 := by omega
            refine x_aload_n dX10_readGoers_34 rfl ?_
            refine y_iconst (a := 1) dX10_readGoers_35 rfl ?_
            refine q_X10_61 (c_blame) dX10_readGoers_36 rfl ?_
            rintro _ _ ⟨rfl, rfl⟩
            first | refine z_iret dX10_readGoers_39 ?_ | refine z_iret0 dX10_readGoers_39 ?_ | refine z_iret1 dX10_readGoers_39 ?_
            refine ⟨hF.tr F2.rf.up.w, Or.inl ⟨rfl, (1, a), ?_, hK.err⟩⟩
            rw [← hRz]
            exact pRun_g1 (Nat.lt_irrefl _) (by omega) (by omega) (by omega)
        · refine x_aload_n dX10_readGoers_12 rfl ?_
          refine g_X10_58 dX10_readGoers_13 ?_
          rw [hK.2.2.1]
          refine x_iconst (v := -1) dX10_readGoers_16 rfl ?_
          by_cases hend : tcd T a = 256
          · refine x_icmp_ne 22 dX10_readGoers_17 (fun z => absurd ((tok_m1 htc).mpr hend) z) (fun _ => ?_)
            refine y_iconst (a := 1) dX10_readGoers_20 rfl ?_
            first | refine z_iret dX10_readGoers_21 ?_ | refine z_iret0 dX10_readGoers_21 ?_ | refine z_iret1 dX10_readGoers_21 ?_
            refine ⟨hF, Or.inr ⟨rfl, w, ?_, hTl, hR⟩⟩
            rw [← hRz]
            exact pRun_gE (Nat.lt_irrefl _) ⟨by omega, hend⟩
          · refine x_icmp_ne 22 dX10_readGoers_17 (fun _ => ?_) (fun z => absurd ((tok_m1 htc).mp z) hend)
            refine x_aload_n dX10_readGoers_22 rfl ?_
            refine g_X10_58 dX10_readGoers_23 ?_
            rw [hK.2.2.1]
            refine q_X10_65 (c_kindOf htc) dX10_readGoers_26 rfl ?_
            rintro _ _ ⟨rfl, rfl⟩
            refine x_istore_n dX10_readGoers_29 ?_
            refine x_iload_n dX10_readGoers_30 rfl ?_
            skip
            refine y_if_ne 40 dX10_readGoers_31 (by omega) (fun h_31 => ?_) (fun h_31 => ?_)
            · have hko : ¬ kdO (tcd T a) = 0 := by omega
              refine x_aload_n dX10_readGoers_40 rfl ?_
              refine q_X10_25 (c_next hT hK.1 hK.2.1 hK.2.2.2.1 (tln_le T hK.2.2.2.2.2)) dX10_readGoers_41 rfl ?_
              rintro _ M1 ⟨rfl, hK1, hF1⟩
              replace hK1 : TkR M1 T (nx T a) := hK1
              rcases hn2 : pNum T 1 30 44 (nx T a) with e2 | b2
              · refine x_aload_n dX10_readGoers_44 rfl ?_
                refine y_iconst (a := 1) dX10_readGoers_45 rfl ?_
                refine x_bipush (v := nI 30) dX10_readGoers_46 rfl ?_
                refine x_bipush (v := nI 44) dX10_readGoers_48 rfl ?_
                refine q_X10_42 (c_numberThen hT hK1 (lo := 1) (hi := 30) (sg := 44) (by decide) (by decide) (by decide)) dX10_readGoers_50 rfl ?_
                intro ro M2 hp
                obtain ⟨hF2, hp⟩ := hp
                rw [hn2] at hp
                obtain ⟨rfl, hE2⟩ := hp
                refine x_istore dX10_readGoers_53 ?_
                refine x_iload dX10_readGoers_55 rfl ?_
                refine x_if_ge 62 dX10_readGoers_57 (fun z => absurd z (by decide)) (fun _ => ?_)
                refine y_iconst (a := 0) dX10_readGoers_60 rfl ?_
                first | refine z_iret dX10_readGoers_61 ?_ | refine z_iret0 dX10_readGoers_61 ?_ | refine z_iret1 dX10_readGoers_61 ?_
                exact ⟨hF.tr (hF1.tr hF2).w, Or.inl ⟨rfl, e2, by rw [← hRz]; exact pRun_n1 (Nat.lt_irrefl _) hko (by omega) hn2, hE2⟩⟩
              · refine x_aload_n dX10_readGoers_44 rfl ?_
                refine y_iconst (a := 1) dX10_readGoers_45 rfl ?_
                refine x_bipush (v := nI 30) dX10_readGoers_46 rfl ?_
                refine x_bipush (v := nI 44) dX10_readGoers_48 rfl ?_
                refine q_X10_42 (c_numberThen hT hK1 (lo := 1) (hi := 30) (sg := 44) (by decide) (by decide) (by decide)) dX10_readGoers_50 rfl ?_
                intro ro M2 hp
                obtain ⟨hF2, hp⟩ := hp
                rw [hn2] at hp
                obtain ⟨rfl, hK2⟩ := hp
                have hle2 := pNum_le2 hn2
                refine x_istore dX10_readGoers_53 ?_
                refine x_iload dX10_readGoers_55 rfl ?_
                refine y_if_ge 62 dX10_readGoers_57 (by omega) ?_
                rcases hn3 : pNum T 0 30 59 b2.2 with e3 | b3
                · refine x_aload_n dX10_readGoers_62 rfl ?_
                  refine y_iconst (a := 0) dX10_readGoers_63 rfl ?_
                  refine x_bipush (v := nI 30) dX10_readGoers_64 rfl ?_
                  refine x_bipush (v := nI 59) dX10_readGoers_66 rfl ?_
                  refine q_X10_42 (c_numberThen hT hK2 (lo := 0) (hi := 30) (sg := 59) (by decide) (by decide) (by decide)) dX10_readGoers_68 rfl ?_
                  intro ro M3 hp
                  obtain ⟨hF3, hp⟩ := hp
                  rw [hn3] at hp
                  obtain ⟨rfl, hE3⟩ := hp
                  refine x_istore dX10_readGoers_71 ?_
                  refine x_iload dX10_readGoers_73 rfl ?_
                  refine x_if_ge 80 dX10_readGoers_75 (fun z => absurd z (by decide)) (fun _ => ?_)
                  refine y_iconst (a := 0) dX10_readGoers_78 rfl ?_
                  first | refine z_iret dX10_readGoers_79 ?_ | refine z_iret0 dX10_readGoers_79 ?_ | refine z_iret1 dX10_readGoers_79 ?_
                  exact ⟨hF.tr ((hF1.tr hF2).tr hF3).w, Or.inl ⟨rfl, e3, by rw [← hRz]; exact pRun_n2 (Nat.lt_irrefl _) hko (by omega) hn2 hn3, hE3⟩⟩
                · refine x_aload_n dX10_readGoers_62 rfl ?_
                  refine y_iconst (a := 0) dX10_readGoers_63 rfl ?_
                  refine x_bipush (v := nI 30) dX10_readGoers_64 rfl ?_
                  refine x_bipush (v := nI 59) dX10_readGoers_66 rfl ?_
                  refine q_X10_42 (c_numberThen hT hK2 (lo := 0) (hi := 30) (sg := 59) (by decide) (by decide) (by decide)) dX10_readGoers_68 rfl ?_
                  intro ro M3 hp
                  obtain ⟨hF3, hp⟩ := hp
                  rw [hn3] at hp
                  obtain ⟨rfl, hK3⟩ := hp
                  have hle3 := pNum_le2 hn3
                  refine x_istore dX10_readGoers_71 ?_
                  refine x_iload dX10_readGoers_73 rfl ?_
                  refine y_if_ge 80 dX10_readGoers_75 (by omega) ?_
                  refine x_aload_n dX10_readGoers_80 rfl ?_
                  refine x_iload_n dX10_readGoers_81 rfl ?_
                  refine x_iload dX10_readGoers_82 rfl ?_
                  refine x_iload dX10_readGoers_84 rfl ?_
                  refine q_X10_69 (c_addGoer Lk57 (hR.same (fun k hk => by rw [hF3.2 _ (by omega), hF2.2 _ (by omega), hF1.2 _ (by omega)])) hTl.1.1 (by omega)) dX10_readGoers_86 rfl ?_
                  rintro _ M4 ⟨rfl, hR4, hF4⟩
                  refine y_iinc dX10_readGoers_89 rfl ?_
                  refine x_goto 2 dX10_readGoers_92 ?_
                  have hlx : LkR M4 57 (agV w (kdO (tcd T a)) b2.1 b3.1) := hR4
                  have e0 : agV w (kdO (tcd T a)) b2.1 b3.1 0 = w 0 := agV_ne (by omega) (by omega) (by omega) (by omega) (by omega) (by omega) (by omega)
                  refine ih (g + 1) (agV w (kdO (tcd T a)) b2.1 b3.1) b3.2 f _ _ _ _ ⟨by omega, by show w 2 + 1 = g + 1; omega, hTl.goer (by omega) (by omega) hle2.2 hle3.2, by omega, hlx, hK3.keep (hF4.2 2 (by omega)) (hF4.2 3 (by omega)), fun z => by omega, ?_, (hF.tr ((hF1.tr hF2).tr hF3).w).tr hF4.w57⟩
                  rw [← hRz, e0]
                  exact (pRun_n3 (Nat.lt_irrefl _) hko (by omega) hn2 hn3).symm
            · have hk0 : kdO (tcd T a) = 0 := by omega
              refine x_aload_n dX10_readGoers_34 rfl ?_
              refine y_iconst (a := 1) dX10_readGoers_35 rfl ?_
              refine q_X10_61 (c_blame) dX10_readGoers_36 rfl ?_
              rintro _ _ ⟨rfl, rfl⟩
              first | refine z_iret dX10_readGoers_39 ?_ | refine z_iret0 dX10_readGoers_39 ?_ | refine z_iret1 dX10_readGoers_39 ?_
              refine ⟨hF.tr F2.rf.up.w, Or.inl ⟨rfl, (1, a), ?_, hK.err⟩⟩
              rw [← hRz]
              exact pRun_g1 (Nat.lt_irrefl _) (by omega) (by omega) (by omega)
  refine y_iconst (a := 0) dX10_readGoers_0 rfl ?_
  refine x_istore_n dX10_readGoers_1 ?_
  exact key 6 0 v a f _ _ _ _ ⟨rfl, hv2, hTl, by omega, hR, hK, fun _ => h114, hRz, F257.rf⟩
theorem pLaw_le {T : Tp} {q : Nat × Nat × Nat} (h : pLaw T = .inr q) : (2 ≤ q.1 ∧ q.1 ≤ 9) ∧ 1 ≤ q.2.1 ∧ q.2.1 ≤ 99 := by
  unfold pLaw at h
  split at h
  · cases h
  · split at h
    · cases h
    · rename_i h1
      split at h
      · cases h
      · rename_i h2
        cases h
        exact ⟨pNum_le h1, pNum_le h2⟩
set_option maxRecDepth 100000 in
set_option maxHeartbeats 4000000 in
theorem c_readInto {Ω : Om} {l : Launch} {M : Mem} {T : Tp} (hT : TW T) (hB : TbR M T) : Ct Ω l yX10_readInto cX10_readInto 2 7 (some .boolean) [.ref (Ω.2.2 2), .ref (Ω.2.2 57)] M (fun ro M' => F257 M M' ∧ (match pLake T with
  | .inl e => ro = some (.int (bI false)) ∧ ErR M' e
  | .inr w => ro = some (.int (bI true)) ∧ LkR M' 57 w)) := by
  have hL49 : Lk 49 := Lk49
  have hL57 : Lk 57 := Lk57
  refine ct_of (by decide) (Nat.le_of_ble_eq_true rfl) ?_
  intro p e R s m args below meth c
  refine x_aload_n dX10_readInto_0 rfl ?_
  refine y_iconst (a := 0) dX10_readInto_1 rfl ?_
  refine p_X10_19 dX10_readInto_2 ?_
  refine x_aload_n dX10_readInto_5 rfl ?_
  refine y_iconst (a := 0) dX10_readInto_6 rfl ?_
  refine p_X10_22 dX10_readInto_7 ?_
  refine x_aload_n dX10_readInto_10 rfl ?_
  refine q_X10_25 (c_next hT (a := 0) (d := 0) ((hB.up (by decide)).up (by decide)) (by rw [up1_at, if_neg (by omega), up1_at, if_pos ⟨rfl, rfl⟩]) (by rw [up1_at, if_pos ⟨rfl, rfl⟩]) (Nat.zero_le _)) dX10_readInto_11 rfl ?_
  rintro _ M0 ⟨rfl, hK0, hF0⟩
  replace hK0 : TkR M0 T 0 := hK0
  have hF0w : F257 M M0 := (F2.rf.up.up.tr hF0).w
  rcases hl : pLaw T with e1 | q
  · refine x_aload_n dX10_readInto_14 rfl ?_
    refine x_aload_n dX10_readInto_15 rfl ?_
    refine q_X10_28 (c_readLaw hT hK0) dX10_readInto_16 rfl ?_
    intro ro M1 hp
    obtain ⟨hF1, hp⟩ := hp
    rw [hl] at hp
    obtain ⟨rfl, hE1⟩ := hp
    refine z_if_eq 42 dX10_readInto_19 (fun _ => ?_) (fun z => by cases z)
    refine y_iconst (a := 0) dX10_readInto_42 rfl ?_
    first | refine z_iret dX10_readInto_43 ?_ | refine z_iret0 dX10_readInto_43 ?_ | refine z_iret1 dX10_readInto_43 ?_
    rw [show pLake T = .inl e1 from by unfold pLake; rw [hl]]
    exact ⟨hF0w.tr hF1, rfl, hE1⟩
  · refine x_aload_n dX10_readInto_14 rfl ?_
    refine x_aload_n dX10_readInto_15 rfl ?_
    refine q_X10_28 (c_readLaw hT hK0) dX10_readInto_16 rfl ?_
    intro ro M1 hp
    obtain ⟨hF1, hp⟩ := hp
    rw [hl] at hp
    obtain ⟨rfl, hK1, hN1⟩ := hp
    have hlw := pLaw_le hl
    refine z_if_eq 42 dX10_readInto_19 (fun z => by cases z) (fun _ => ?_)
    refine x_aload_n dX10_readInto_22 rfl ?_
    refine x_aload_n dX10_readInto_23 rfl ?_
    refine q_X10_32 (c_readRungs hT (hgV_Tl hlw.1 hlw.2.2) rfl (show q.1 + 7 ≤ 17 by have := hlw.1; omega) hN1 hK1 rfl) dX10_readInto_24 rfl ?_
    intro ro M2 hp
    obtain ⟨hF2, hp⟩ := hp
    rcases hp with ⟨rfl, e, hRz2, hE2⟩ | ⟨rfl, f2, a2, w2, hf2, hRz2, hTl2, hw2, hR2, hK2, h114⟩
    · refine z_if_eq 42 dX10_readInto_27 (fun _ => ?_) (fun z => by cases z)
      refine y_iconst (a := 0) dX10_readInto_42 rfl ?_
      first | refine z_iret dX10_readInto_43 ?_ | refine z_iret0 dX10_readInto_43 ?_ | refine z_iret1 dX10_readInto_43 ?_
      rw [(show pLake T = pRun T 17 0 q.2.2 (hgV q.1 q.2.1) from by unfold pLake; rw [hl]), hRz2]
      exact ⟨(hF0w.tr hF1).tr hF2, rfl, hE2⟩
    · refine z_if_eq 42 dX10_readInto_27 (fun z => by cases z) (fun _ => ?_)
      refine x_aload_n dX10_readInto_30 rfl ?_
      refine x_aload_n dX10_readInto_31 rfl ?_
      refine q_X10_35 (c_readGoers hT hTl2 hw2 hf2 hR2 hK2 h114 hRz2) dX10_readInto_32 rfl ?_
      intro ro M3 hp
      obtain ⟨hF3, hp⟩ := hp
      rcases hp with ⟨rfl, e, hRz3, hE3⟩ | ⟨rfl, w3, hRz3, hTl3, hR3⟩
      · refine z_if_eq 42 dX10_readInto_35 (fun _ => ?_) (fun z => by cases z)
        refine y_iconst (a := 0) dX10_readInto_42 rfl ?_
        first | refine z_iret dX10_readInto_43 ?_ | refine z_iret0 dX10_readInto_43 ?_ | refine z_iret1 dX10_readInto_43 ?_
        rw [(show pLake T = pRun T 17 0 q.2.2 (hgV q.1 q.2.1) from by unfold pLake; rw [hl]), hRz3]
        exact ⟨((hF0w.tr hF1).tr hF2).tr hF3, rfl, hE3⟩
      · refine z_if_eq 42 dX10_readInto_35 (fun z => by cases z) (fun _ => ?_)
        refine y_iconst (a := 1) dX10_readInto_38 rfl ?_
        refine x_goto 43 dX10_readInto_39 ?_
        first | refine z_iret dX10_readInto_43 ?_ | refine z_iret0 dX10_readInto_43 ?_ | refine z_iret1 dX10_readInto_43 ?_
        rw [(show pLake T = pRun T 17 0 q.2.2 (hgV q.1 q.2.1) from by unfold pLake; rw [hl]), hRz3]
        exact ⟨((hF0w.tr hF1).tr hF2).tr hF3, rfl, hR3⟩
theorem IC.afterRead {M M' : Mem} {σ : Sg} (h : IC M σ) (hF : F257 M M') : IC (up1 M' 2 1 (nI 0)) (σ.uTape 0 σ.tb) ∧ FrM M (up1 M' 2 1 (nI 0)) := by
  have e : ∀ c, c ≠ 2 → ¬ (57 ≤ c ∧ c < 65) → (up1 M' 2 1 (nI 0)).1 c = M.1 c := fun c c1 c2 => by rw [up1_ne _ _ _ c1]; exact hF.2 c c1 c2
  obtain ⟨h1, h2, h3, h4, h5, h6, h7, h8, h9⟩ := h
  have e0 := e 0 (by omega) (by omega)
  have e14 := e 14 (by omega) (by omega)
  refine ⟨⟨RowsC.keep (σ := σ) h1 (fun c a b => e c (by omega) (by omega)), by rw [e0]; exact h2, ⟨by rw [up1_at, if_pos ⟨rfl, rfl⟩]; rfl, fun j hj => absurd hj (Nat.not_lt_zero _)⟩, by rw [e0]; exact h4, h5.same (fun k hk => e _ (by omega) (by omega)), ActsC.keep (σ := σ) h6 (by rw [e0]) (by rw [e0]) (fun c a b => e c (by omega) (by omega)), ImgC.keep (σ := σ) h7 (by rw [e0]) (fun c a b => e c (by omega) (by omega)), TrC.keep (σ := σ) h8 (fun c a b => e c (by omega) (by omega)), h9.keep (by rw [e14]) (by rw [e14]) (by rw [e14]) (e 16 (by omega) (by omega)) (fun c a b => e c (by omega) (by omega))⟩, fun c a b => e c (by omega) (by omega)⟩
theorem IC.setFl {M : Mem} {σ : Sg} (h : IC M σ) (x : Int32) : IC (up1 M 0 11 x) (σ.uFl x) := by
  obtain ⟨h1, h2, h3, h4, h5, h6, h7, h8, h9⟩ := h
  have e : ∀ c, c ≠ 0 → (up1 M 0 11 x).1 c = M.1 c := fun c hc => up1_ne M _ _ hc
  have e0 : ∀ k, k ≠ 11 → (up1 M 0 11 x).1 0 k = M.1 0 k := fun k hk => by rw [up1_at, if_neg (by omega)]
  refine ⟨RowsC.keep (σ := σ) h1 (fun c a b => e c (by omega)), (e0 12 (by decide)).trans h2, TapeC.keep (σ := σ) h3 (fun c a b => e c (by omega)), by rw [up1_at, if_pos ⟨rfl, rfl⟩]; rfl, h5.same (fun k hk => e _ (by omega)), ActsC.keep (σ := σ) h6 (e0 8 (by decide)) (e0 9 (by decide)) (fun c a b => e c (by omega)), ImgC.keep (σ := σ) h7 (e0 10 (by decide)) (fun c a b => e c (by omega)), TrC.keep (σ := σ) h8 (fun c a b => e c (by omega)), h9.keep (by rw [e 14 (by omega)]) (by rw [e 14 (by omega)]) (by rw [e 14 (by omega)]) (e 16 (by omega)) (fun c a b => e c (by omega))⟩
theorem SgW.tape0 {σ : Sg} (h : SgW σ) : SgW (σ.uTape 0 σ.tb) := ⟨h.1, ⟨Nat.zero_le _, fun j hj => absurd hj (Nat.not_lt_zero _)⟩, h.2.2⟩
set_option maxRecDepth 100000 in
set_option maxHeartbeats 4000000 in
theorem c_lake {Ω : Om} {l : Launch} {M : Mem} {σ : Sg} (hC : IC M σ) (hW : SgW σ)  : Ct Ω l yX11_lake cX11_lake 2 8 (some .int) [.ref (Ω.2.2 0)] M (fun ro M' => ro = some (.int (R_lake σ).1) ∧ IC M' (R_lake σ).2 ∧ FrM M M') := by
  have hL49 : Lk 49 := Lk49
  have hL57 : Lk 57 := Lk57
  have hR := hC.lake
  have hLv : Lv σ.v := hW.2.2.1
  have hw := hLv.wv
  have hn := hw.nums
  have hL65 : Lk 65 := Lk65
  refine ct_of (by decide) (Nat.le_of_ble_eq_true rfl) ?_
  intro p e R s m args below meth c
  rcases hl : pLake (σ.tn, σ.tb) with e1 | w
  · refine x_aload_n dX11_lake_0 rfl ?_
    refine g_X11_18 dX11_lake_1 ?_
    refine x_aload_n dX11_lake_4 rfl ?_
    refine g_X11_62 dX11_lake_5 ?_
    refine q_X11_130 (c_readInto (T := (σ.tn, σ.tb)) hW.2.1 hC.tape) dX11_lake_8 rfl ?_
    intro ro M1 hp
    obtain ⟨hF1, hp⟩ := hp
    rw [hl] at hp
    obtain ⟨rfl, hE1⟩ := hp
    obtain ⟨hC1, hM1⟩ := hC.afterRead hF1
    refine x_istore_n dX11_lake_11 ?_
    refine x_aload_n dX11_lake_12 rfl ?_
    refine g_X11_18 dX11_lake_13 ?_
    refine y_iconst (a := 0) dX11_lake_16 rfl ?_
    refine p_X11_125 dX11_lake_17 ?_
    refine x_iload_n dX11_lake_20 rfl ?_
    refine z_if_ne 46 dX11_lake_21 (fun z => by cases z) (fun _ => ?_)
    refine x_aload_n dX11_lake_24 rfl ?_
    refine x_aload_n dX11_lake_25 rfl ?_
    refine g_X11_18 dX11_lake_26 ?_
    refine g_X11_134 dX11_lake_29 ?_
    rw [show (up1 M1 2 1 (nI 0)).1 2 3 = nI e1.1 from by rw [up1_at, if_neg (by omega)]; exact hE1.1]
    refine p_X11_137 dX11_lake_32 ?_
    refine x_ldc dX11_lake_35 k_X11_140 ?_
    refine x_aload_n dX11_lake_37 rfl ?_
    refine g_X11_18 dX11_lake_38 ?_
    refine g_X11_141 dX11_lake_41 ?_
    rw [show (up1 (up1 M1 2 1 (nI 0)) 0 11 (nI e1.1)).1 2 2 = nI e1.2 from by rw [up1_ne _ _ _ (by omega), up1_at, if_neg (by omega)]; exact hE1.2]
    refine x_isub dX11_lake_44 ?_
    refine x_iret dX11_lake_45 ?_
    unfold R_lake
    rw [hl]
    exact ⟨rfl, hC1.setFl _, hM1.up (by omega)⟩
  · refine x_aload_n dX11_lake_0 rfl ?_
    refine g_X11_18 dX11_lake_1 ?_
    refine x_aload_n dX11_lake_4 rfl ?_
    refine g_X11_62 dX11_lake_5 ?_
    refine q_X11_130 (c_readInto (T := (σ.tn, σ.tb)) hW.2.1 hC.tape) dX11_lake_8 rfl ?_
    intro ro M1 hp
    obtain ⟨hF1, hp⟩ := hp
    rw [hl] at hp
    obtain ⟨rfl, hE1⟩ := hp
    obtain ⟨hC1, hM1⟩ := hC.afterRead hF1
    refine x_istore_n dX11_lake_11 ?_
    refine x_aload_n dX11_lake_12 rfl ?_
    refine g_X11_18 dX11_lake_13 ?_
    refine y_iconst (a := 0) dX11_lake_16 rfl ?_
    refine p_X11_125 dX11_lake_17 ?_
    refine x_iload_n dX11_lake_20 rfl ?_
    refine z_if_ne 46 dX11_lake_21 (fun _ => ?_) (fun z => by cases z)
    refine x_aload_n dX11_lake_46 rfl ?_
    refine x_aload_n dX11_lake_47 rfl ?_
    refine g_X11_62 dX11_lake_48 ?_
    refine q_X11_144 (c_putLake hC1 hW.tape0 Lk57 (by decide) (hE1.same (fun k hk => up1_ne _ _ _ (by omega))) (pLake_Iv hl).1.1) dX11_lake_51 rfl ?_
    rintro _ M2 ⟨rfl, hC2, hM2⟩
    refine x_aload_n dX11_lake_54 rfl ?_
    refine g_X11_58 dX11_lake_55 ?_
    refine g_X11_148 dX11_lake_58 ?_
    rw [hC2.lake.goers]
    refine x_iret dX11_lake_61 ?_
    unfold R_lake
    rw [hl]
    exact ⟨rfl, hC2, hM1.tr hM2⟩
