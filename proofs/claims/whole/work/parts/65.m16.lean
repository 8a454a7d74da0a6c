/-! THE REFERENCE: a lake is read (laid by gen_m16.py) -/
def RdM (M : Mem) (v : Nat → Nat) : Prop := ∀ k, k < 45 → k ≠ 5 → M.1 41 k = nI (v k)
theorem RdM.at {M : Mem} {v : Nat → Nat} (h : RdM M v) {k : Nat} (hk : k < 45) (h5 : k ≠ 5) : M.1 41 k = nI (v k) := h k hk h5
theorem RdM.set {M : Mem} {v : Nat → Nat} (h : RdM M v) (k x : Nat) : RdM (up1 M 41 k (nI x)) (sv v k x) := by
  intro j hj h5
  rw [up1_at]
  unfold sv
  by_cases e : j = k
  · rw [if_pos ⟨rfl, e⟩, if_pos e]
  · rw [if_neg (fun z => e z.2), if_neg e]; exact h j hj h5
theorem RdM.ft {M M' : Mem} {v : Nat → Nat} (h : RdM M v) (hF : FTn M M') : RdM M' v := fun k hk h5 => by rw [hF.2.1 41 (by decide)]; exact h k hk h5
theorem RdM.u34 {M : Mem} {v : Nat → Nat} (h : RdM M v) {k : Nat} {x : Int32} : RdM (up1 M 34 k x) v := fun j hj h5 => by rw [up1_ne _ _ _ (by decide)]; exact h j hj h5
def Tz (v : Nat → Nat) : Prop := v 5 = 2 ^ v 2 - 1 ∧ ∀ j, 33 ≤ j → j < 45 → v j = 0
theorem Tz.rung {v : Nat → Nat} (h : Tz v) {i x : Nat} (hi : i < 9) : Tz (sv v (6 + i) x) := ⟨by rw [sv_ne _ _ (by omega), sv_ne _ _ (by omega)]; exact h.1, fun j h1 h2 => by rw [sv_ne _ _ (by omega)]; exact h.2 j h1 h2⟩
theorem or_full : ∀ n, n < 6 → (2 ^ n - 1) ||| 2 ^ n = 2 ^ (n + 1) - 1 := by decide +kernel
theorem Tz.goer {v : Nat → Nat} (h : Tz v) (h6 : v 2 < 6) (k x t : Nat) : Tz (agV v k x t) := by
  obtain ⟨n1, n2, n3, n4, n5⟩ := agV_n (k := k) (x := x) (t := t) h6
  refine ⟨?_, fun j h1 h2 => ?_⟩
  · have e5 : agV v k x t 5 = v 5 ||| 2 ^ v 2 := by simp [agV]
    have e2 : agV v k x t 2 = v 2 + 1 := by simp [agV]
    rw [e5, e2, h.1, or_full _ h6]
  · by_cases a : j = 33 + v 2
    · subst a; exact n4
    · by_cases b : j = 39 + v 2
      · subst b; exact n5
      · rw [agV_ne (by omega) (by omega) (by omega) (by omega) (by omega) a b]; exact h.2 j h1 h2
theorem Tz.hg (r q : Nat) : Tz (hgV r q) := ⟨rfl, fun j h1 h2 => by unfold hgV; rw [if_neg (by omega), if_neg (by omega)]⟩
theorem RdM.ag {M : Mem} {v : Nat → Nat} {k x t : Nat} (hz : Tz v) (h6 : v 2 < 6) (h : RdM M (sv (sv (sv (sv v (15 + v 2) k) 2 (v 2 + 1)) (21 + v 2) x) (27 + v 2) t)) : RdM M (agV v k x t) := by
  intro j hj h5
  rw [h j hj h5]
  obtain ⟨n1, n2, n3, n4, n5⟩ := agV_n (k := k) (x := x) (t := t) h6
  by_cases a2 : j = 2
  · subst a2
    rw [sv_ne _ _ (by omega), sv_ne _ _ (by omega), sv_eq]
    simp [agV]
  by_cases a : j = 27 + v 2
  · subst a; rw [sv_eq, n3]
  rw [sv_ne _ _ a]
  by_cases b : j = 21 + v 2
  · subst b; rw [sv_eq, n2]
  rw [sv_ne _ _ b, sv_ne _ _ a2]
  by_cases c : j = 15 + v 2
  · subst c; rw [sv_eq, n1]
  rw [sv_ne _ _ c]
  by_cases d : j = 33 + v 2
  · subst d; rw [n4, hz.2 _ (by omega) (by omega)]
  by_cases e : j = 39 + v 2
  · subst e; rw [n5, hz.2 _ (by omega) (by omega)]
  rw [agV_ne a2 h5 c b a d e]
theorem TkM.ft {M M' : Mem} {T : Tp} {a : Nat} (h : TkM M T a) (e : ∀ k, (8 ≤ k ∧ k ≤ 13) → M'.1 34 k = M.1 34 k) (e2 : M'.1 40 = M.1 40) : TkM M' T a := by
  obtain ⟨⟨h1, h1'⟩, h2, h3, h4, h5, h6, h7⟩ := h
  refine ⟨⟨by rw [e 8 (by omega)]; exact h1, fun j hj => by rw [e2]; exact h1' j hj⟩, ?_, h3, ?_, ?_, ?_, ?_⟩
  · rw [e 13 (by omega)]; exact h2
  · rw [e 11 (by omega)]; exact h4
  · rw [e 12 (by omega)]; exact h5
  · rw [e 12 (by omega)]; exact h6
  · rw [e 10 (by omega)]; exact h7
theorem kdO_l {c : Nat} (h : ¬ kdO c = 0) : ((97 ≤ c ∧ c ≤ 122) ∨ c = 44 ∨ c = 59) ∧ ¬ c = 114 ∧ c < 256 := by
  have : c = 99 ∨ c = 100 ∨ c = 107 ∨ c = 102 ∨ c = 103 := by
    unfold kdO at h
    by_cases a : c = 99
    · exact Or.inl a
    rw [if_neg a] at h
    by_cases b : c = 100
    · omega
    rw [if_neg b] at h
    by_cases d : c = 107
    · omega
    rw [if_neg d] at h
    by_cases e : c = 102
    · omega
    rw [if_neg e] at h
    by_cases f : c = 103
    · omega
    rw [if_neg f] at h
    exact absurd rfl h
  omega

set_option maxRecDepth 100000 in
set_option maxHeartbeats 4000000 in
theorem m_rung_f {Ω : Om} {l : Launch} {M : Mem} {T : Tp} {a i : Nat} {v : Nat → Nat} (hTW : TW T) (hk : TkM M T a) (hR : RdM M v) (h16 : M.1 34 16 = nI i) (htl : Tl v i) (htz : Tz v) (hf : 0 < v 2 ∨ i = v 0) : Ct Ω l yX12_readRung cX12_readRung 1 5 (some .boolean) [.ref (Ω.2.2 34)] M (fun ro M' => ro = some (.int (bI false)) ∧ ErM M' ((if 0 < v 2 then 1 else 3), a) ∧ FTp M M') := by
  have hn := htl.1.1.nums
  have hi0 := htl.2.2.2.1
  refine ct_of (by decide) (Nat.le_of_ble_eq_true rfl) ?_
  intro p e R s m args below meth c
  refine x_aload_n dX12_readRung_0 rfl ?_
  refine g_X12_28 dX12_readRung_1 ?_
  refine y_iconst (a := 2) dX12_readRung_4 rfl ?_
  refine x_ial dX12_readRung_5 (⟨by decide, rfl, rfl, by decide⟩ : Ar 41 45) (by omega) ?_
  rw [hR.at (by omega) (by omega)]
  refine y_if_gt 22 dX12_readRung_6 (by omega) (fun h_6 => ?_) (fun h_6 => ?_)
  · refine x_aload_n dX12_readRung_22 rfl ?_
    refine x_aload_n dX12_readRung_23 rfl ?_
    refine g_X12_28 dX12_readRung_24 ?_
    refine y_iconst (a := 2) dX12_readRung_27 rfl ?_
    refine x_ial dX12_readRung_28 (⟨by decide, rfl, rfl, by decide⟩ : Ar 41 45) (by omega) ?_
    rw [hR.at (by omega) (by omega)]
    refine y_if_le 36 dX12_readRung_29 (by omega) (fun h_29 => ?_) (fun h_29 => ?_)
    · refine y_iconst (a := 3) dX12_readRung_36 rfl ?_
      refine q_X12_114 (m_faults) dX12_readRung_37 rfl ?_
      rintro _ _ ⟨rfl, rfl⟩
      first | refine z_iret dX12_readRung_40 ?_ | refine z_iret0 dX12_readRung_40 ?_ | refine z_iret1 dX12_readRung_40 ?_
      first
        | (exfalso; omega)
        | (exact ⟨rfl, ⟨by rw [up1_at, if_pos ⟨rfl, rfl⟩]; show _ = nI (if 0 < v 2 then 1 else 3); rw [if_pos (by omega)], by rw [up1_at, if_neg (by decide)]; exact hk.2.1⟩, FTp.rf.u34 (by decide)⟩)
        | (exact ⟨rfl, ⟨by rw [up1_at, if_pos ⟨rfl, rfl⟩]; show _ = nI (if 0 < v 2 then 1 else 3); rw [if_neg (by omega)], by rw [up1_at, if_neg (by decide)]; exact hk.2.1⟩, FTp.rf.u34 (by decide)⟩)
    · refine y_iconst (a := 1) dX12_readRung_32 rfl ?_
      refine x_goto 37 dX12_readRung_33 ?_
      refine q_X12_114 (m_faults) dX12_readRung_37 rfl ?_
      rintro _ _ ⟨rfl, rfl⟩
      first | refine z_iret dX12_readRung_40 ?_ | refine z_iret0 dX12_readRung_40 ?_ | refine z_iret1 dX12_readRung_40 ?_
      first
        | (exfalso; omega)
        | (exact ⟨rfl, ⟨by rw [up1_at, if_pos ⟨rfl, rfl⟩]; show _ = nI (if 0 < v 2 then 1 else 3); rw [if_pos (by omega)], by rw [up1_at, if_neg (by decide)]; exact hk.2.1⟩, FTp.rf.u34 (by decide)⟩)
        | (exact ⟨rfl, ⟨by rw [up1_at, if_pos ⟨rfl, rfl⟩]; show _ = nI (if 0 < v 2 then 1 else 3); rw [if_neg (by omega)], by rw [up1_at, if_neg (by decide)]; exact hk.2.1⟩, FTp.rf.u34 (by decide)⟩)
  · refine x_aload_n dX12_readRung_9 rfl ?_
    refine g_X12_123 dX12_readRung_10 ?_
    first
      | rw [h16]
      | rw [up1_at, if_pos ⟨rfl, rfl⟩]
      | rw [up1_at, if_neg (by decide), h16]
      | rw [up1_at, if_neg (by decide), up1_at, if_pos ⟨rfl, rfl⟩]
      | rw [up1_at, if_neg (by decide), up1_at, if_neg (by decide), h16]
      | rw [up1_at, if_neg (by decide), up1_at, if_neg (by decide), up1_at, if_pos ⟨rfl, rfl⟩]
      | rw [up1_at, if_neg (by decide), up1_at, if_neg (by decide), up1_at, if_neg (by decide), h16]
    refine x_aload_n dX12_readRung_13 rfl ?_
    refine g_X12_28 dX12_readRung_14 ?_
    refine y_iconst (a := 0) dX12_readRung_17 rfl ?_
    refine x_ial dX12_readRung_18 (⟨by decide, rfl, rfl, by decide⟩ : Ar 41 45) (by omega) ?_
    rw [hR.at (by omega) (by omega)]
    refine y_icmp_ne 41 dX12_readRung_19 (by omega) (by omega) (fun h_19 => ?_) (fun h_19 => ?_)
    · exfalso; omega
    · refine x_aload_n dX12_readRung_22 rfl ?_
      refine x_aload_n dX12_readRung_23 rfl ?_
      refine g_X12_28 dX12_readRung_24 ?_
      refine y_iconst (a := 2) dX12_readRung_27 rfl ?_
      refine x_ial dX12_readRung_28 (⟨by decide, rfl, rfl, by decide⟩ : Ar 41 45) (by omega) ?_
      rw [hR.at (by omega) (by omega)]
      refine y_if_le 36 dX12_readRung_29 (by omega) (fun h_29 => ?_) (fun h_29 => ?_)
      · refine y_iconst (a := 3) dX12_readRung_36 rfl ?_
        refine q_X12_114 (m_faults) dX12_readRung_37 rfl ?_
        rintro _ _ ⟨rfl, rfl⟩
        first | refine z_iret dX12_readRung_40 ?_ | refine z_iret0 dX12_readRung_40 ?_ | refine z_iret1 dX12_readRung_40 ?_
        first
          | (exfalso; omega)
          | (exact ⟨rfl, ⟨by rw [up1_at, if_pos ⟨rfl, rfl⟩]; show _ = nI (if 0 < v 2 then 1 else 3); rw [if_pos (by omega)], by rw [up1_at, if_neg (by decide)]; exact hk.2.1⟩, FTp.rf.u34 (by decide)⟩)
          | (exact ⟨rfl, ⟨by rw [up1_at, if_pos ⟨rfl, rfl⟩]; show _ = nI (if 0 < v 2 then 1 else 3); rw [if_neg (by omega)], by rw [up1_at, if_neg (by decide)]; exact hk.2.1⟩, FTp.rf.u34 (by decide)⟩)
      · refine y_iconst (a := 1) dX12_readRung_32 rfl ?_
        refine x_goto 37 dX12_readRung_33 ?_
        refine q_X12_114 (m_faults) dX12_readRung_37 rfl ?_
        rintro _ _ ⟨rfl, rfl⟩
        first | refine z_iret dX12_readRung_40 ?_ | refine z_iret0 dX12_readRung_40 ?_ | refine z_iret1 dX12_readRung_40 ?_
        first
          | (exfalso; omega)
          | (exact ⟨rfl, ⟨by rw [up1_at, if_pos ⟨rfl, rfl⟩]; show _ = nI (if 0 < v 2 then 1 else 3); rw [if_pos (by omega)], by rw [up1_at, if_neg (by decide)]; exact hk.2.1⟩, FTp.rf.u34 (by decide)⟩)
          | (exact ⟨rfl, ⟨by rw [up1_at, if_pos ⟨rfl, rfl⟩]; show _ = nI (if 0 < v 2 then 1 else 3); rw [if_neg (by omega)], by rw [up1_at, if_neg (by decide)]; exact hk.2.1⟩, FTp.rf.u34 (by decide)⟩)
set_option maxRecDepth 100000 in
set_option maxHeartbeats 4000000 in
theorem m_rung_no {Ω : Om} {l : Launch} {M : Mem} {T : Tp} {a i : Nat} {v : Nat → Nat} (hTW : TW T) (hk : TkM M T a) (hR : RdM M v) (h16 : M.1 34 16 = nI i) (htl : Tl v i) (htz : Tz v) (h114 : tcd T a = 114) (hlt : i < v 0) {er : Nat × Nat} (hp : pNum T 0 99 59 (nx T a) = .inl er) : Ct Ω l yX12_readRung cX12_readRung 1 5 (some .boolean) [.ref (Ω.2.2 34)] M (fun ro M' => ro = some (.int (bI false)) ∧ ErM M' er ∧ FTp M M') := by
  have hn := htl.1.1.nums
  have hi0 := htl.2.2.2.1
  have hv2 := htl.2.2.2.2 hlt
  refine ct_of (by decide) (Nat.le_of_ble_eq_true rfl) ?_
  intro p e R s m args below meth c
  refine x_aload_n dX12_readRung_0 rfl ?_
  refine g_X12_28 dX12_readRung_1 ?_
  refine y_iconst (a := 2) dX12_readRung_4 rfl ?_
  refine x_ial dX12_readRung_5 (⟨by decide, rfl, rfl, by decide⟩ : Ar 41 45) (by omega) ?_
  rw [hR.at (by omega) (by omega)]
  refine y_if_gt 22 dX12_readRung_6 (by omega) (fun h_6 => ?_) (fun h_6 => ?_)
  · exfalso; omega
  · refine x_aload_n dX12_readRung_9 rfl ?_
    refine g_X12_123 dX12_readRung_10 ?_
    rw [h16]
    refine x_aload_n dX12_readRung_13 rfl ?_
    refine g_X12_28 dX12_readRung_14 ?_
    refine y_iconst (a := 0) dX12_readRung_17 rfl ?_
    refine x_ial dX12_readRung_18 (⟨by decide, rfl, rfl, by decide⟩ : Ar 41 45) (by omega) ?_
    rw [hR.at (by omega) (by omega)]
    refine y_icmp_ne 41 dX12_readRung_19 (by omega) (by omega) (fun h_19 => ?_) (fun h_19 => ?_)
    · refine x_aload_n dX12_readRung_41 rfl ?_
      refine q_X12_117 (m_nextToken hk.1 hTW (hk.2.2.2.2.2.2 (by omega)) (tln_le T hk.2.2.1)) dX12_readRung_42 rfl ?_
      rintro _ M1 ⟨rfl, hk1, hF1⟩
      have h161 : M1.1 34 16 = nI i := by rw [hF1.2.2 16 (by omega)]; exact h16
      have hR1 := hR.ft hF1
      refine x_aload_n dX12_readRung_45 rfl ?_
      refine x_dup dX12_readRung_46 rfl ?_
      refine g_X12_123 dX12_readRung_47 ?_
      rw [h161]
      refine y_iconst (a := 1) dX12_readRung_50 rfl ?_
      refine y_iadd dX12_readRung_51 ?_
      refine p_X12_123 dX12_readRung_52 ?_
      have hk2 := hk1.u16 (x := nI (i + 1))
      refine x_aload_n dX12_readRung_55 rfl ?_
      refine y_iconst (a := 0) dX12_readRung_56 rfl ?_
      refine x_bipush (v := nI 99) dX12_readRung_57 rfl ?_
      refine x_bipush (v := nI 6) dX12_readRung_59 rfl ?_
      refine x_aload_n dX12_readRung_61 rfl ?_
      refine g_X12_123 dX12_readRung_62 ?_
      rw [up1_at, if_pos ⟨rfl, rfl⟩]
      refine y_iadd dX12_readRung_65 ?_
      refine y_iconst (a := 1) dX12_readRung_66 rfl ?_
      refine y_isub dX12_readRung_67 (by omega) ?_
      rw [show 6 + (i + 1) - 1 = 6 + i by omega]
      refine x_bipush (v := nI 59) dX12_readRung_68 rfl ?_
      refine q_X12_126 (m_num_no hk2 hTW (by decide) (by decide) (by omega) (by decide) hp) dX12_readRung_70 rfl ?_
      rintro _ M2 ⟨rfl, he, hF2⟩
      first | refine z_iret dX12_readRung_73 ?_ | refine z_iret0 dX12_readRung_73 ?_ | refine z_iret1 dX12_readRung_73 ?_
      exact ⟨rfl, he, ((FTp.rf.n hF1).u34 (by decide)).tr hF2⟩
    · exfalso; omega
set_option maxRecDepth 100000 in
set_option maxHeartbeats 4000000 in
theorem m_rung_ok {Ω : Om} {l : Launch} {M : Mem} {T : Tp} {a i : Nat} {v : Nat → Nat} (hTW : TW T) (hk : TkM M T a) (hR : RdM M v) (h16 : M.1 34 16 = nI i) (htl : Tl v i) (htz : Tz v) (h114 : tcd T a = 114) (hlt : i < v 0) {x b : Nat} (hp : pNum T 0 99 59 (nx T a) = .inr (x, b)) : Ct Ω l yX12_readRung cX12_readRung 1 5 (some .boolean) [.ref (Ω.2.2 34)] M (fun ro M' => ro = some (.int (bI true)) ∧ TkM M' T b ∧ RdM M' (sv v (6 + i) x) ∧ M'.1 34 16 = nI (i + 1) ∧ FTp M M') := by
  have hn := htl.1.1.nums
  have hi0 := htl.2.2.2.1
  have hv2 := htl.2.2.2.2 hlt
  refine ct_of (by decide) (Nat.le_of_ble_eq_true rfl) ?_
  intro p e R s m args below meth c
  refine x_aload_n dX12_readRung_0 rfl ?_
  refine g_X12_28 dX12_readRung_1 ?_
  refine y_iconst (a := 2) dX12_readRung_4 rfl ?_
  refine x_ial dX12_readRung_5 (⟨by decide, rfl, rfl, by decide⟩ : Ar 41 45) (by omega) ?_
  rw [hR.at (by omega) (by omega)]
  refine y_if_gt 22 dX12_readRung_6 (by omega) (fun h_6 => ?_) (fun h_6 => ?_)
  · exfalso; omega
  · refine x_aload_n dX12_readRung_9 rfl ?_
    refine g_X12_123 dX12_readRung_10 ?_
    rw [h16]
    refine x_aload_n dX12_readRung_13 rfl ?_
    refine g_X12_28 dX12_readRung_14 ?_
    refine y_iconst (a := 0) dX12_readRung_17 rfl ?_
    refine x_ial dX12_readRung_18 (⟨by decide, rfl, rfl, by decide⟩ : Ar 41 45) (by omega) ?_
    rw [hR.at (by omega) (by omega)]
    refine y_icmp_ne 41 dX12_readRung_19 (by omega) (by omega) (fun h_19 => ?_) (fun h_19 => ?_)
    · refine x_aload_n dX12_readRung_41 rfl ?_
      refine q_X12_117 (m_nextToken hk.1 hTW (hk.2.2.2.2.2.2 (by omega)) (tln_le T hk.2.2.1)) dX12_readRung_42 rfl ?_
      rintro _ M1 ⟨rfl, hk1, hF1⟩
      have h161 : M1.1 34 16 = nI i := by rw [hF1.2.2 16 (by omega)]; exact h16
      have hR1 := hR.ft hF1
      refine x_aload_n dX12_readRung_45 rfl ?_
      refine x_dup dX12_readRung_46 rfl ?_
      refine g_X12_123 dX12_readRung_47 ?_
      rw [h161]
      refine y_iconst (a := 1) dX12_readRung_50 rfl ?_
      refine y_iadd dX12_readRung_51 ?_
      refine p_X12_123 dX12_readRung_52 ?_
      have hk2 := hk1.u16 (x := nI (i + 1))
      refine x_aload_n dX12_readRung_55 rfl ?_
      refine y_iconst (a := 0) dX12_readRung_56 rfl ?_
      refine x_bipush (v := nI 99) dX12_readRung_57 rfl ?_
      refine x_bipush (v := nI 6) dX12_readRung_59 rfl ?_
      refine x_aload_n dX12_readRung_61 rfl ?_
      refine g_X12_123 dX12_readRung_62 ?_
      rw [up1_at, if_pos ⟨rfl, rfl⟩]
      refine y_iadd dX12_readRung_65 ?_
      refine y_iconst (a := 1) dX12_readRung_66 rfl ?_
      refine y_isub dX12_readRung_67 (by omega) ?_
      rw [show 6 + (i + 1) - 1 = 6 + i by omega]
      refine x_bipush (v := nI 59) dX12_readRung_68 rfl ?_
      refine q_X12_126 (m_num_ok hk2 hTW (by decide) (by decide) (by omega) (by decide) hp) dX12_readRung_70 rfl ?_
      rintro _ M2 ⟨rfl, hk3, hF2⟩
      first | refine z_iret dX12_readRung_73 ?_ | refine z_iret0 dX12_readRung_73 ?_ | refine z_iret1 dX12_readRung_73 ?_
      exact ⟨rfl, hk3, (hR1.u34.set (6 + i) x).ft hF2, by rw [hF2.2.2 16 (by omega), up1_ne _ _ _ (by decide), up1_at, if_pos ⟨rfl, rfl⟩], ((FTp.rf.n hF1).u34 (by decide)).u41.n hF2⟩
    · exfalso; omega
set_option maxRecDepth 100000 in
set_option maxHeartbeats 4000000 in
theorem m_goer_f {Ω : Om} {l : Launch} {M : Mem} {T : Tp} {a i : Nat} {v : Nat → Nat} (hTW : TW T) (hk : TkM M T a) (hR : RdM M v) (h16 : M.1 34 16 = nI i) (htl : Tl v i) (htz : Tz v) {kd : Nat} (hf : i < v 0 ∨ v 2 = 6) : Ct Ω l yX12_readGoer cX12_readGoer 3 5 (some .boolean) [.ref (Ω.2.2 34), .int (nI kd)] M (fun ro M' => ro = some (.int (bI false)) ∧ ErM M' ((if v 2 = 6 then 3 else 1), a) ∧ FTp M M') := by
  have hn := htl.1.1.nums
  have hi0 := htl.2.2.2.1
  refine ct_of (by decide) (Nat.le_of_ble_eq_true rfl) ?_
  intro p e R s m args below meth c
  refine x_aload_n dX12_readGoer_0 rfl ?_
  refine g_X12_28 dX12_readGoer_1 ?_
  refine y_iconst (a := 2) dX12_readGoer_4 rfl ?_
  refine x_ial dX12_readGoer_5 (⟨by decide, rfl, rfl, by decide⟩ : Ar 41 45) (by omega) ?_
  rw [hR.at (by omega) (by omega)]
  refine x_istore_n dX12_readGoer_6 ?_
  refine x_aload_n dX12_readGoer_7 rfl ?_
  refine g_X12_123 dX12_readGoer_8 ?_
  first
    | rw [h16]
    | rw [up1_at, if_pos ⟨rfl, rfl⟩]
    | rw [up1_at, if_neg (by decide), h16]
    | rw [up1_at, if_neg (by decide), up1_at, if_pos ⟨rfl, rfl⟩]
    | rw [up1_at, if_neg (by decide), up1_at, if_neg (by decide), h16]
    | rw [up1_at, if_neg (by decide), up1_at, if_neg (by decide), up1_at, if_pos ⟨rfl, rfl⟩]
    | rw [up1_at, if_neg (by decide), up1_at, if_neg (by decide), up1_at, if_neg (by decide), h16]
  refine x_aload_n dX12_readGoer_11 rfl ?_
  refine g_X12_28 dX12_readGoer_12 ?_
  refine y_iconst (a := 0) dX12_readGoer_15 rfl ?_
  refine x_ial dX12_readGoer_16 (⟨by decide, rfl, rfl, by decide⟩ : Ar 41 45) (by omega) ?_
  rw [hR.at (by omega) (by omega)]
  refine y_icmp_lt 26 dX12_readGoer_17 (by omega) (by omega) (fun h_17 => ?_) (fun h_17 => ?_)
  · refine x_aload_n dX12_readGoer_26 rfl ?_
    refine x_iload_n dX12_readGoer_27 rfl ?_
    refine x_bipush (v := nI 6) dX12_readGoer_28 rfl ?_
    refine y_icmp_ne 37 dX12_readGoer_30 (by omega) (by omega) (fun h_30 => ?_) (fun h_30 => ?_)
    · refine y_iconst (a := 1) dX12_readGoer_37 rfl ?_
      refine q_X12_114 (m_faults) dX12_readGoer_38 rfl ?_
      rintro _ _ ⟨rfl, rfl⟩
      first | refine z_iret dX12_readGoer_41 ?_ | refine z_iret0 dX12_readGoer_41 ?_ | refine z_iret1 dX12_readGoer_41 ?_
      first
        | (exfalso; omega)
        | (exact ⟨rfl, ⟨by rw [up1_at, if_pos ⟨rfl, rfl⟩]; show _ = nI (if v 2 = 6 then 3 else 1); rw [if_pos (by omega)], by rw [up1_at, if_neg (by decide)]; exact hk.2.1⟩, FTp.rf.u34 (by decide)⟩)
        | (exact ⟨rfl, ⟨by rw [up1_at, if_pos ⟨rfl, rfl⟩]; show _ = nI (if v 2 = 6 then 3 else 1); rw [if_neg (by omega)], by rw [up1_at, if_neg (by decide)]; exact hk.2.1⟩, FTp.rf.u34 (by decide)⟩)
    · refine y_iconst (a := 3) dX12_readGoer_33 rfl ?_
      refine x_goto 38 dX12_readGoer_34 ?_
      refine q_X12_114 (m_faults) dX12_readGoer_38 rfl ?_
      rintro _ _ ⟨rfl, rfl⟩
      first | refine z_iret dX12_readGoer_41 ?_ | refine z_iret0 dX12_readGoer_41 ?_ | refine z_iret1 dX12_readGoer_41 ?_
      first
        | (exfalso; omega)
        | (exact ⟨rfl, ⟨by rw [up1_at, if_pos ⟨rfl, rfl⟩]; show _ = nI (if v 2 = 6 then 3 else 1); rw [if_pos (by omega)], by rw [up1_at, if_neg (by decide)]; exact hk.2.1⟩, FTp.rf.u34 (by decide)⟩)
        | (exact ⟨rfl, ⟨by rw [up1_at, if_pos ⟨rfl, rfl⟩]; show _ = nI (if v 2 = 6 then 3 else 1); rw [if_neg (by omega)], by rw [up1_at, if_neg (by decide)]; exact hk.2.1⟩, FTp.rf.u34 (by decide)⟩)
  · refine x_iload_n dX12_readGoer_20 rfl ?_
    refine x_bipush (v := nI 6) dX12_readGoer_21 rfl ?_
    refine y_icmp_ne 42 dX12_readGoer_23 (by omega) (by omega) (fun h_23 => ?_) (fun h_23 => ?_)
    · exfalso; omega
    · refine x_aload_n dX12_readGoer_26 rfl ?_
      refine x_iload_n dX12_readGoer_27 rfl ?_
      refine x_bipush (v := nI 6) dX12_readGoer_28 rfl ?_
      refine y_icmp_ne 37 dX12_readGoer_30 (by omega) (by omega) (fun h_30 => ?_) (fun h_30 => ?_)
      · refine y_iconst (a := 1) dX12_readGoer_37 rfl ?_
        refine q_X12_114 (m_faults) dX12_readGoer_38 rfl ?_
        rintro _ _ ⟨rfl, rfl⟩
        first | refine z_iret dX12_readGoer_41 ?_ | refine z_iret0 dX12_readGoer_41 ?_ | refine z_iret1 dX12_readGoer_41 ?_
        first
          | (exfalso; omega)
          | (exact ⟨rfl, ⟨by rw [up1_at, if_pos ⟨rfl, rfl⟩]; show _ = nI (if v 2 = 6 then 3 else 1); rw [if_pos (by omega)], by rw [up1_at, if_neg (by decide)]; exact hk.2.1⟩, FTp.rf.u34 (by decide)⟩)
          | (exact ⟨rfl, ⟨by rw [up1_at, if_pos ⟨rfl, rfl⟩]; show _ = nI (if v 2 = 6 then 3 else 1); rw [if_neg (by omega)], by rw [up1_at, if_neg (by decide)]; exact hk.2.1⟩, FTp.rf.u34 (by decide)⟩)
      · refine y_iconst (a := 3) dX12_readGoer_33 rfl ?_
        refine x_goto 38 dX12_readGoer_34 ?_
        refine q_X12_114 (m_faults) dX12_readGoer_38 rfl ?_
        rintro _ _ ⟨rfl, rfl⟩
        first | refine z_iret dX12_readGoer_41 ?_ | refine z_iret0 dX12_readGoer_41 ?_ | refine z_iret1 dX12_readGoer_41 ?_
        first
          | (exfalso; omega)
          | (exact ⟨rfl, ⟨by rw [up1_at, if_pos ⟨rfl, rfl⟩]; show _ = nI (if v 2 = 6 then 3 else 1); rw [if_pos (by omega)], by rw [up1_at, if_neg (by decide)]; exact hk.2.1⟩, FTp.rf.u34 (by decide)⟩)
          | (exact ⟨rfl, ⟨by rw [up1_at, if_pos ⟨rfl, rfl⟩]; show _ = nI (if v 2 = 6 then 3 else 1); rw [if_neg (by omega)], by rw [up1_at, if_neg (by decide)]; exact hk.2.1⟩, FTp.rf.u34 (by decide)⟩)
set_option maxRecDepth 100000 in
set_option maxHeartbeats 4000000 in
theorem m_goer_no1 {Ω : Om} {l : Launch} {M : Mem} {T : Tp} {a i : Nat} {v : Nat → Nat} (hTW : TW T) (hk : TkM M T a) (hR : RdM M v) (h16 : M.1 34 16 = nI i) (htl : Tl v i) (htz : Tz v) {kd : Nat} (hkd : 1 ≤ kd ∧ kd ≤ 5) (h258 : ¬ tcd T a = 258) (hlt : i = v 0) (h6 : v 2 < 6) {er : Nat × Nat} (hp : pNum T 1 30 44 (nx T a) = .inl er) : Ct Ω l yX12_readGoer cX12_readGoer 3 5 (some .boolean) [.ref (Ω.2.2 34), .int (nI kd)] M (fun ro M' => ro = some (.int (bI false)) ∧ ErM M' er ∧ FTp M M') := by
  have hn := htl.1.1.nums
  have hi0 := htl.2.2.2.1
  refine ct_of (by decide) (Nat.le_of_ble_eq_true rfl) ?_
  intro p e R s m args below meth c
  refine x_aload_n dX12_readGoer_0 rfl ?_
  refine g_X12_28 dX12_readGoer_1 ?_
  refine y_iconst (a := 2) dX12_readGoer_4 rfl ?_
  refine x_ial dX12_readGoer_5 (⟨by decide, rfl, rfl, by decide⟩ : Ar 41 45) (by omega) ?_
  rw [hR.at (by omega) (by omega)]
  refine x_istore_n dX12_readGoer_6 ?_
  refine x_aload_n dX12_readGoer_7 rfl ?_
  refine g_X12_123 dX12_readGoer_8 ?_
  rw [h16]
  refine x_aload_n dX12_readGoer_11 rfl ?_
  refine g_X12_28 dX12_readGoer_12 ?_
  refine y_iconst (a := 0) dX12_readGoer_15 rfl ?_
  refine x_ial dX12_readGoer_16 (⟨by decide, rfl, rfl, by decide⟩ : Ar 41 45) (by omega) ?_
  rw [hR.at (by omega) (by omega)]
  refine y_icmp_lt 26 dX12_readGoer_17 (by omega) (by omega) (fun h_17 => ?_) (fun h_17 => ?_)
  · exfalso; omega
  · refine x_iload_n dX12_readGoer_20 rfl ?_
    refine x_bipush (v := nI 6) dX12_readGoer_21 rfl ?_
    refine y_icmp_ne 42 dX12_readGoer_23 (by omega) (by omega) (fun h_23 => ?_) (fun h_23 => ?_)
    · refine x_aload_n dX12_readGoer_42 rfl ?_
      refine q_X12_117 (m_nextToken hk.1 hTW (hk.2.2.2.2.2.2 h258) (tln_le T hk.2.2.1)) dX12_readGoer_43 rfl ?_
      rintro _ M1 ⟨rfl, hk1, hF1⟩
      have h161 : M1.1 34 16 = nI i := by rw [hF1.2.2 16 (by omega)]; exact h16
      have hR1 := hR.ft hF1
      refine x_aload_n dX12_readGoer_46 rfl ?_
      refine g_X12_28 dX12_readGoer_47 ?_
      refine x_bipush (v := nI 15) dX12_readGoer_50 rfl ?_
      refine x_iload_n dX12_readGoer_52 rfl ?_
      refine y_iadd dX12_readGoer_53 ?_
      refine x_iload_n dX12_readGoer_54 rfl ?_
      refine x_ias dX12_readGoer_55 (⟨by decide, rfl, rfl, by decide⟩ : Ar 41 45) (by omega) ?_
      have hR2 := hR1.set (15 + v 2) kd
      have hk2 := hk1.u41 (k := 15 + v 2) (x := nI kd)
      refine x_aload_n dX12_readGoer_56 rfl ?_
      refine g_X12_28 dX12_readGoer_57 ?_
      refine y_iconst (a := 2) dX12_readGoer_60 rfl ?_
      refine x_dup2 dX12_readGoer_61 rfl rfl ?_
      refine x_ial dX12_readGoer_62 (⟨by decide, rfl, rfl, by decide⟩ : Ar 41 45) (by omega) ?_
      rw [hR2.at (by omega) (by omega), sv_ne _ _ (by omega)]
      refine y_iconst (a := 1) dX12_readGoer_63 rfl ?_
      refine y_iadd dX12_readGoer_64 ?_
      refine x_ias dX12_readGoer_65 (⟨by decide, rfl, rfl, by decide⟩ : Ar 41 45) (by omega) ?_
      have hR3 := hR2.set 2 (v 2 + 1)
      have hk3 := hk2.u41 (k := 2) (x := nI (v 2 + 1))
      refine x_aload_n dX12_readGoer_66 rfl ?_
      refine y_iconst (a := 1) dX12_readGoer_67 rfl ?_
      refine x_bipush (v := nI 30) dX12_readGoer_68 rfl ?_
      refine x_bipush (v := nI 21) dX12_readGoer_70 rfl ?_
      refine x_iload_n dX12_readGoer_72 rfl ?_
      refine y_iadd dX12_readGoer_73 ?_
      refine x_bipush (v := nI 44) dX12_readGoer_74 rfl ?_
      refine q_X12_126 (m_num_no hk3 hTW (by decide) (by decide) (by omega) (by decide) hp) dX12_readGoer_76 rfl ?_
      rintro _ M2 ⟨rfl, he, hF2⟩
      refine z_if_eq 102 dX12_readGoer_79 (fun h_79 => ?_) (fun h_79 => ?_)
      · refine x_iconst (v := bI false) dX12_readGoer_102 rfl ?_
        first | refine z_iret dX12_readGoer_103 ?_ | refine z_iret0 dX12_readGoer_103 ?_ | refine z_iret1 dX12_readGoer_103 ?_
        exact ⟨rfl, he, ((FTp.rf.n hF1).u41.u41).tr hF2⟩
      · exact absurd h_79 (by decide)
    · exfalso; omega
set_option maxRecDepth 100000 in
set_option maxHeartbeats 4000000 in
theorem m_goer_no2 {Ω : Om} {l : Launch} {M : Mem} {T : Tp} {a i : Nat} {v : Nat → Nat} (hTW : TW T) (hk : TkM M T a) (hR : RdM M v) (h16 : M.1 34 16 = nI i) (htl : Tl v i) (htz : Tz v) {kd : Nat} (hkd : 1 ≤ kd ∧ kd ≤ 5) (h258 : ¬ tcd T a = 258) (hlt : i = v 0) (h6 : v 2 < 6) {x b : Nat} {er : Nat × Nat} (hp : pNum T 1 30 44 (nx T a) = .inr (x, b)) (hp2 : pNum T 0 30 59 b = .inl er) : Ct Ω l yX12_readGoer cX12_readGoer 3 5 (some .boolean) [.ref (Ω.2.2 34), .int (nI kd)] M (fun ro M' => ro = some (.int (bI false)) ∧ ErM M' er ∧ FTp M M') := by
  have hn := htl.1.1.nums
  have hi0 := htl.2.2.2.1
  refine ct_of (by decide) (Nat.le_of_ble_eq_true rfl) ?_
  intro p e R s m args below meth c
  refine x_aload_n dX12_readGoer_0 rfl ?_
  refine g_X12_28 dX12_readGoer_1 ?_
  refine y_iconst (a := 2) dX12_readGoer_4 rfl ?_
  refine x_ial dX12_readGoer_5 (⟨by decide, rfl, rfl, by decide⟩ : Ar 41 45) (by omega) ?_
  rw [hR.at (by omega) (by omega)]
  refine x_istore_n dX12_readGoer_6 ?_
  refine x_aload_n dX12_readGoer_7 rfl ?_
  refine g_X12_123 dX12_readGoer_8 ?_
  rw [h16]
  refine x_aload_n dX12_readGoer_11 rfl ?_
  refine g_X12_28 dX12_readGoer_12 ?_
  refine y_iconst (a := 0) dX12_readGoer_15 rfl ?_
  refine x_ial dX12_readGoer_16 (⟨by decide, rfl, rfl, by decide⟩ : Ar 41 45) (by omega) ?_
  rw [hR.at (by omega) (by omega)]
  refine y_icmp_lt 26 dX12_readGoer_17 (by omega) (by omega) (fun h_17 => ?_) (fun h_17 => ?_)
  · exfalso; omega
  · refine x_iload_n dX12_readGoer_20 rfl ?_
    refine x_bipush (v := nI 6) dX12_readGoer_21 rfl ?_
    refine y_icmp_ne 42 dX12_readGoer_23 (by omega) (by omega) (fun h_23 => ?_) (fun h_23 => ?_)
    · refine x_aload_n dX12_readGoer_42 rfl ?_
      refine q_X12_117 (m_nextToken hk.1 hTW (hk.2.2.2.2.2.2 h258) (tln_le T hk.2.2.1)) dX12_readGoer_43 rfl ?_
      rintro _ M1 ⟨rfl, hk1, hF1⟩
      have h161 : M1.1 34 16 = nI i := by rw [hF1.2.2 16 (by omega)]; exact h16
      have hR1 := hR.ft hF1
      refine x_aload_n dX12_readGoer_46 rfl ?_
      refine g_X12_28 dX12_readGoer_47 ?_
      refine x_bipush (v := nI 15) dX12_readGoer_50 rfl ?_
      refine x_iload_n dX12_readGoer_52 rfl ?_
      refine y_iadd dX12_readGoer_53 ?_
      refine x_iload_n dX12_readGoer_54 rfl ?_
      refine x_ias dX12_readGoer_55 (⟨by decide, rfl, rfl, by decide⟩ : Ar 41 45) (by omega) ?_
      have hR2 := hR1.set (15 + v 2) kd
      have hk2 := hk1.u41 (k := 15 + v 2) (x := nI kd)
      refine x_aload_n dX12_readGoer_56 rfl ?_
      refine g_X12_28 dX12_readGoer_57 ?_
      refine y_iconst (a := 2) dX12_readGoer_60 rfl ?_
      refine x_dup2 dX12_readGoer_61 rfl rfl ?_
      refine x_ial dX12_readGoer_62 (⟨by decide, rfl, rfl, by decide⟩ : Ar 41 45) (by omega) ?_
      rw [hR2.at (by omega) (by omega), sv_ne _ _ (by omega)]
      refine y_iconst (a := 1) dX12_readGoer_63 rfl ?_
      refine y_iadd dX12_readGoer_64 ?_
      refine x_ias dX12_readGoer_65 (⟨by decide, rfl, rfl, by decide⟩ : Ar 41 45) (by omega) ?_
      have hR3 := hR2.set 2 (v 2 + 1)
      have hk3 := hk2.u41 (k := 2) (x := nI (v 2 + 1))
      refine x_aload_n dX12_readGoer_66 rfl ?_
      refine y_iconst (a := 1) dX12_readGoer_67 rfl ?_
      refine x_bipush (v := nI 30) dX12_readGoer_68 rfl ?_
      refine x_bipush (v := nI 21) dX12_readGoer_70 rfl ?_
      refine x_iload_n dX12_readGoer_72 rfl ?_
      refine y_iadd dX12_readGoer_73 ?_
      refine x_bipush (v := nI 44) dX12_readGoer_74 rfl ?_
      refine q_X12_126 (m_num_ok hk3 hTW (by decide) (by decide) (by omega) (by decide) hp) dX12_readGoer_76 rfl ?_
      rintro _ M2 ⟨rfl, hk4, hF2⟩
      refine z_if_eq 102 dX12_readGoer_79 (fun h_79 => ?_) (fun h_79 => ?_)
      · refine x_iconst (v := bI false) dX12_readGoer_102 rfl ?_
        first | refine z_iret dX12_readGoer_103 ?_ | refine z_iret0 dX12_readGoer_103 ?_ | refine z_iret1 dX12_readGoer_103 ?_
        first
          | exact absurd h_79 (by decide)
          | exact absurd h_95 (by decide)
          | exact ⟨rfl, he, (((FTp.rf.n hF1).u41.u41).u41.n hF2).tr hF3⟩
      · refine x_aload_n dX12_readGoer_82 rfl ?_
        refine y_iconst (a := 0) dX12_readGoer_83 rfl ?_
        refine x_bipush (v := nI 30) dX12_readGoer_84 rfl ?_
        refine x_bipush (v := nI 27) dX12_readGoer_86 rfl ?_
        refine x_iload_n dX12_readGoer_88 rfl ?_
        refine y_iadd dX12_readGoer_89 ?_
        refine x_bipush (v := nI 59) dX12_readGoer_90 rfl ?_
        refine q_X12_126 (m_num_no hk4 hTW (by decide) (by decide) (by omega) (by decide) hp2) dX12_readGoer_92 rfl ?_
        rintro _ M3 ⟨rfl, he, hF3⟩
        refine z_if_eq 102 dX12_readGoer_95 (fun h_95 => ?_) (fun h_95 => ?_)
        · refine x_iconst (v := bI false) dX12_readGoer_102 rfl ?_
          first | refine z_iret dX12_readGoer_103 ?_ | refine z_iret0 dX12_readGoer_103 ?_ | refine z_iret1 dX12_readGoer_103 ?_
          first
            | exact absurd h_79 (by decide)
            | exact absurd h_95 (by decide)
            | exact ⟨rfl, he, (((FTp.rf.n hF1).u41.u41).u41.n hF2).tr hF3⟩
        · refine x_iconst (v := bI true) dX12_readGoer_98 rfl ?_
          refine x_goto 103 dX12_readGoer_99 ?_
          first | refine z_iret dX12_readGoer_103 ?_ | refine z_iret0 dX12_readGoer_103 ?_ | refine z_iret1 dX12_readGoer_103 ?_
          first
            | exact absurd h_79 (by decide)
            | exact absurd h_95 (by decide)
            | exact ⟨rfl, he, (((FTp.rf.n hF1).u41.u41).u41.n hF2).tr hF3⟩
    · exfalso; omega
set_option maxRecDepth 100000 in
set_option maxHeartbeats 4000000 in
theorem m_goer_ok {Ω : Om} {l : Launch} {M : Mem} {T : Tp} {a i : Nat} {v : Nat → Nat} (hTW : TW T) (hk : TkM M T a) (hR : RdM M v) (h16 : M.1 34 16 = nI i) (htl : Tl v i) (htz : Tz v) {kd : Nat} (hkd : 1 ≤ kd ∧ kd ≤ 5) (h258 : ¬ tcd T a = 258) (hlt : i = v 0) (h6 : v 2 < 6) {x b t c9 : Nat} (hp : pNum T 1 30 44 (nx T a) = .inr (x, b)) (hp2 : pNum T 0 30 59 b = .inr (t, c9)) : Ct Ω l yX12_readGoer cX12_readGoer 3 5 (some .boolean) [.ref (Ω.2.2 34), .int (nI kd)] M (fun ro M' => ro = some (.int (bI true)) ∧ TkM M' T c9 ∧ RdM M' (agV v kd x t) ∧ M'.1 34 16 = nI i ∧ FTp M M') := by
  have hn := htl.1.1.nums
  have hi0 := htl.2.2.2.1
  refine ct_of (by decide) (Nat.le_of_ble_eq_true rfl) ?_
  intro p e R s m args below meth c
  refine x_aload_n dX12_readGoer_0 rfl ?_
  refine g_X12_28 dX12_readGoer_1 ?_
  refine y_iconst (a := 2) dX12_readGoer_4 rfl ?_
  refine x_ial dX12_readGoer_5 (⟨by decide, rfl, rfl, by decide⟩ : Ar 41 45) (by omega) ?_
  rw [hR.at (by omega) (by omega)]
  refine x_istore_n dX12_readGoer_6 ?_
  refine x_aload_n dX12_readGoer_7 rfl ?_
  refine g_X12_123 dX12_readGoer_8 ?_
  rw [h16]
  refine x_aload_n dX12_readGoer_11 rfl ?_
  refine g_X12_28 dX12_readGoer_12 ?_
  refine y_iconst (a := 0) dX12_readGoer_15 rfl ?_
  refine x_ial dX12_readGoer_16 (⟨by decide, rfl, rfl, by decide⟩ : Ar 41 45) (by omega) ?_
  rw [hR.at (by omega) (by omega)]
  refine y_icmp_lt 26 dX12_readGoer_17 (by omega) (by omega) (fun h_17 => ?_) (fun h_17 => ?_)
  · exfalso; omega
  · refine x_iload_n dX12_readGoer_20 rfl ?_
    refine x_bipush (v := nI 6) dX12_readGoer_21 rfl ?_
    refine y_icmp_ne 42 dX12_readGoer_23 (by omega) (by omega) (fun h_23 => ?_) (fun h_23 => ?_)
    · refine x_aload_n dX12_readGoer_42 rfl ?_
      refine q_X12_117 (m_nextToken hk.1 hTW (hk.2.2.2.2.2.2 h258) (tln_le T hk.2.2.1)) dX12_readGoer_43 rfl ?_
      rintro _ M1 ⟨rfl, hk1, hF1⟩
      have h161 : M1.1 34 16 = nI i := by rw [hF1.2.2 16 (by omega)]; exact h16
      have hR1 := hR.ft hF1
      refine x_aload_n dX12_readGoer_46 rfl ?_
      refine g_X12_28 dX12_readGoer_47 ?_
      refine x_bipush (v := nI 15) dX12_readGoer_50 rfl ?_
      refine x_iload_n dX12_readGoer_52 rfl ?_
      refine y_iadd dX12_readGoer_53 ?_
      refine x_iload_n dX12_readGoer_54 rfl ?_
      refine x_ias dX12_readGoer_55 (⟨by decide, rfl, rfl, by decide⟩ : Ar 41 45) (by omega) ?_
      have hR2 := hR1.set (15 + v 2) kd
      have hk2 := hk1.u41 (k := 15 + v 2) (x := nI kd)
      refine x_aload_n dX12_readGoer_56 rfl ?_
      refine g_X12_28 dX12_readGoer_57 ?_
      refine y_iconst (a := 2) dX12_readGoer_60 rfl ?_
      refine x_dup2 dX12_readGoer_61 rfl rfl ?_
      refine x_ial dX12_readGoer_62 (⟨by decide, rfl, rfl, by decide⟩ : Ar 41 45) (by omega) ?_
      rw [hR2.at (by omega) (by omega), sv_ne _ _ (by omega)]
      refine y_iconst (a := 1) dX12_readGoer_63 rfl ?_
      refine y_iadd dX12_readGoer_64 ?_
      refine x_ias dX12_readGoer_65 (⟨by decide, rfl, rfl, by decide⟩ : Ar 41 45) (by omega) ?_
      have hR3 := hR2.set 2 (v 2 + 1)
      have hk3 := hk2.u41 (k := 2) (x := nI (v 2 + 1))
      refine x_aload_n dX12_readGoer_66 rfl ?_
      refine y_iconst (a := 1) dX12_readGoer_67 rfl ?_
      refine x_bipush (v := nI 30) dX12_readGoer_68 rfl ?_
      refine x_bipush (v := nI 21) dX12_readGoer_70 rfl ?_
      refine x_iload_n dX12_readGoer_72 rfl ?_
      refine y_iadd dX12_readGoer_73 ?_
      refine x_bipush (v := nI 44) dX12_readGoer_74 rfl ?_
      refine q_X12_126 (m_num_ok hk3 hTW (by decide) (by decide) (by omega) (by decide) hp) dX12_readGoer_76 rfl ?_
      rintro _ M2 ⟨rfl, hk4, hF2⟩
      refine z_if_eq 102 dX12_readGoer_79 (fun h_79 => ?_) (fun h_79 => ?_)
      · refine x_iconst (v := bI false) dX12_readGoer_102 rfl ?_
        first | refine z_iret dX12_readGoer_103 ?_ | refine z_iret0 dX12_readGoer_103 ?_ | refine z_iret1 dX12_readGoer_103 ?_
        first
          | exact absurd h_79 (by decide)
          | exact absurd h_95 (by decide)
          | (have hR4 := (hR3.set (21 + v 2) x).ft hF2
             have hR5 := (hR4.set (27 + v 2) t).ft hF3
             exact ⟨rfl, hk5, RdM.ag htz h6 hR5, by rw [hF3.2.2 16 (by omega), up1_ne _ _ _ (by decide), hF2.2.2 16 (by omega), up1_ne _ _ _ (by decide), up1_ne _ _ _ (by decide), up1_ne _ _ _ (by decide)]; exact h161, (((FTp.rf.n hF1).u41.u41).u41.n hF2).u41.n hF3⟩)
      · refine x_aload_n dX12_readGoer_82 rfl ?_
        refine y_iconst (a := 0) dX12_readGoer_83 rfl ?_
        refine x_bipush (v := nI 30) dX12_readGoer_84 rfl ?_
        refine x_bipush (v := nI 27) dX12_readGoer_86 rfl ?_
        refine x_iload_n dX12_readGoer_88 rfl ?_
        refine y_iadd dX12_readGoer_89 ?_
        refine x_bipush (v := nI 59) dX12_readGoer_90 rfl ?_
        refine q_X12_126 (m_num_ok hk4 hTW (by decide) (by decide) (by omega) (by decide) hp2) dX12_readGoer_92 rfl ?_
        rintro _ M3 ⟨rfl, hk5, hF3⟩
        refine z_if_eq 102 dX12_readGoer_95 (fun h_95 => ?_) (fun h_95 => ?_)
        · refine x_iconst (v := bI false) dX12_readGoer_102 rfl ?_
          first | refine z_iret dX12_readGoer_103 ?_ | refine z_iret0 dX12_readGoer_103 ?_ | refine z_iret1 dX12_readGoer_103 ?_
          first
            | exact absurd h_79 (by decide)
            | exact absurd h_95 (by decide)
            | (have hR4 := (hR3.set (21 + v 2) x).ft hF2
               have hR5 := (hR4.set (27 + v 2) t).ft hF3
               exact ⟨rfl, hk5, RdM.ag htz h6 hR5, by rw [hF3.2.2 16 (by omega), up1_ne _ _ _ (by decide), hF2.2.2 16 (by omega), up1_ne _ _ _ (by decide), up1_ne _ _ _ (by decide), up1_ne _ _ _ (by decide)]; exact h161, (((FTp.rf.n hF1).u41.u41).u41.n hF2).u41.n hF3⟩)
        · refine x_iconst (v := bI true) dX12_readGoer_98 rfl ?_
          refine x_goto 103 dX12_readGoer_99 ?_
          first | refine z_iret dX12_readGoer_103 ?_ | refine z_iret0 dX12_readGoer_103 ?_ | refine z_iret1 dX12_readGoer_103 ?_
          first
            | exact absurd h_79 (by decide)
            | exact absurd h_95 (by decide)
            | (have hR4 := (hR3.set (21 + v 2) x).ft hF2
               have hR5 := (hR4.set (27 + v 2) t).ft hF3
               exact ⟨rfl, hk5, RdM.ag htz h6 hR5, by rw [hF3.2.2 16 (by omega), up1_ne _ _ _ (by decide), hF2.2.2 16 (by omega), up1_ne _ _ _ (by decide), up1_ne _ _ _ (by decide), up1_ne _ _ _ (by decide)]; exact h161, (((FTp.rf.n hF1).u41.u41).u41.n hF2).u41.n hF3⟩)
    · exfalso; omega
set_option maxRecDepth 100000 in
set_option maxHeartbeats 4000000 in
theorem m_readLake {Ω : Om} {l : Launch} {M : Mem} {T : Tp} (hTW : TW T) (hb : TbM M T)  : Ct Ω l yX12_readLake cX12_readLake 3 6 (some .boolean) [.ref (Ω.2.2 34)] M (fun ro M' => (match pLake T with
  | .inl er => ro = some (.int (bI false)) ∧ ErM M' er ∧ FTp M M'
  | .inr w => ro = some (.int (bI true)) ∧ RdM M' w ∧ w 5 = 2 ^ w 2 - 1 ∧ w 2 ≤ 6 ∧ FTp M M')) := by
  have h100 := hTW.1
  refine ct_of (by decide) (Nat.le_of_ble_eq_true rfl) ?_
  intro p e R s m args below meth c
  have keyF : ∀ (er : Nat × Nat) (M1 : Mem) (x2 : Option Value), pLake T = .inl er → ErM M1 er → FTp M M1 → X (mkG p l e R s m args below meth c Ω (fun ro M' => (match pLake T with
  | .inl er => ro = some (.int (bI false)) ∧ ErM M' er ∧ FTp M M'
  | .inr w => ro = some (.int (bI true)) ∧ RdM M' w ∧ w 5 = 2 ^ w 2 - 1 ∧ w 2 ≤ 6 ∧ FTp M M'))) Ω RX12 cX12_readLake 3 6 (some .boolean) 74 [some (.ref (Ω.2.2 34)), some (.int (bI false)), x2] [] M1 := by
    intro er M1 x2 hpl he hF
    refine x_iload_n dX12_readLake_74 rfl ?_
    refine z_if_eq 152 dX12_readLake_75 (fun _ => ?_) (fun h => absurd h (by decide))
    refine x_iload_n dX12_readLake_152 rfl ?_
    first | refine z_iret dX12_readLake_153 ?_ | refine z_iret0 dX12_readLake_153 ?_ | refine z_iret1 dX12_readLake_153 ?_
    rw [hpl]
    exact ⟨rfl, he, hF⟩
  have keyL : ∀ (f i a : Nat) (v : Nat → Nat) (M1 : Mem) (x2 : Option Value), TkM M1 T a → RdM M1 v → M1.1 34 16 = nI i → Tl v i → Tz v → (v 0 - i) + (6 - v 2) + 1 ≤ f → pRun T f i a v = pLake T → FTp M M1 → X (mkG p l e R s m args below meth c Ω (fun ro M' => (match pLake T with
  | .inl er => ro = some (.int (bI false)) ∧ ErM M' er ∧ FTp M M'
  | .inr w => ro = some (.int (bI true)) ∧ RdM M' w ∧ w 5 = 2 ^ w 2 - 1 ∧ w 2 ≤ 6 ∧ FTp M M'))) Ω RX12 cX12_readLake 3 6 (some .boolean) 74 [some (.ref (Ω.2.2 34)), some (.int (bI true)), x2] [] M1 := by
    intro f
    induction f with
    | zero => intro i a v M1 x2 hk hR h16 htl htz hfu; exact absurd hfu (by omega)
    | succ f ih =>
      intro i a v M1 x2 hk hR h16 htl htz hfu hrun hF
      have hn := htl.1.1.nums
      have hi0 := htl.2.2.2.1
      have ht := tkv_le (tcd T a)
      have hc9 := tcd_lt hTW a
      have hkl := kdO_le (tcd T a)
      have hv2 := htl.2.2.2.2
      refine x_iload_n dX12_readLake_74 rfl ?_
      refine z_if_eq 152 dX12_readLake_75 (fun h => absurd h (by decide)) (fun _ => ?_)
      have hcs : (tcd T a = 256 ∧ 0 < v 2) ∨ ¬ kdO (tcd T a) = 0 ∨ tcd T a = 114 ∨ (¬ (tcd T a = 256 ∧ 0 < v 2) ∧ kdO (tcd T a) = 0 ∧ ¬ tcd T a = 114) := by
        by_cases q1 : tcd T a = 256 ∧ 0 < v 2
        · exact Or.inl q1
        · by_cases q2 : kdO (tcd T a) = 0
          · by_cases q3 : tcd T a = 114
            · exact Or.inr (Or.inr (Or.inl q3))
            · exact Or.inr (Or.inr (Or.inr ⟨q1, q2, q3⟩))
          · exact Or.inr (Or.inl q2)
      rcases hcs with hcs | hko | h114 | ⟨q1, q2, q3⟩
      · have et := tkv_3.mpr hcs.1
        refine x_aload_n dX12_readLake_78 rfl ?_
        refine g_X12_94 dX12_readLake_79 ?_
        first
          | rw [hk.2.2.2.1]
          | rw [up1_at, if_pos ⟨rfl, rfl⟩]
          | rw [up1_at, if_neg (by decide), hk.2.2.2.1]
          | rw [up1_at, if_neg (by decide), up1_at, if_pos ⟨rfl, rfl⟩]
          | rw [up1_at, if_neg (by decide), up1_at, if_neg (by decide), hk.2.2.2.1]
          | rw [up1_at, if_neg (by decide), up1_at, if_neg (by decide), up1_at, if_pos ⟨rfl, rfl⟩]
          | rw [up1_at, if_neg (by decide), up1_at, if_neg (by decide), up1_at, if_neg (by decide), hk.2.2.2.1]
        refine y_iconst (a := 3) dX12_readLake_82 rfl ?_
        refine y_icmp_ne 95 dX12_readLake_83 (by omega) (by omega) (fun h_83 => ?_) (fun h_83 => ?_)
        · exfalso; omega
        · refine x_aload_n dX12_readLake_86 rfl ?_
          refine g_X12_28 dX12_readLake_87 ?_
          refine y_iconst (a := 2) dX12_readLake_90 rfl ?_
          refine x_ial dX12_readLake_91 (⟨by decide, rfl, rfl, by decide⟩ : Ar 41 45) (by omega) ?_
          rw [hR.at (by omega) (by omega)]
          refine y_if_ne 152 dX12_readLake_92 (by omega) (fun h_92 => ?_) (fun h_92 => ?_)
          · refine x_iload_n dX12_readLake_152 rfl ?_
            first | refine z_iret dX12_readLake_153 ?_ | refine z_iret0 dX12_readLake_153 ?_ | refine z_iret1 dX12_readLake_153 ?_
            have hlt : ¬ i < v 0 := fun z => by have := hv2 z; omega
            rw [← hrun, pRun_gE hlt ⟨hcs.2, hcs.1⟩]
            exact ⟨rfl, hR, htz.1, hn.2.2.1, hF⟩
          · exfalso; omega
      · have et := tkv_l (kdO_l hko).1
        refine x_aload_n dX12_readLake_78 rfl ?_
        refine g_X12_94 dX12_readLake_79 ?_
        first
          | rw [hk.2.2.2.1]
          | rw [up1_at, if_pos ⟨rfl, rfl⟩]
          | rw [up1_at, if_neg (by decide), hk.2.2.2.1]
          | rw [up1_at, if_neg (by decide), up1_at, if_pos ⟨rfl, rfl⟩]
          | rw [up1_at, if_neg (by decide), up1_at, if_neg (by decide), hk.2.2.2.1]
          | rw [up1_at, if_neg (by decide), up1_at, if_neg (by decide), up1_at, if_pos ⟨rfl, rfl⟩]
          | rw [up1_at, if_neg (by decide), up1_at, if_neg (by decide), up1_at, if_neg (by decide), hk.2.2.2.1]
        refine y_iconst (a := 3) dX12_readLake_82 rfl ?_
        refine y_icmp_ne 95 dX12_readLake_83 (by omega) (by omega) (fun h_83 => ?_) (fun h_83 => ?_)
        · refine x_aload_n dX12_readLake_95 rfl ?_
          refine g_X12_94 dX12_readLake_96 ?_
          first
            | rw [hk.2.2.2.1]
            | rw [up1_at, if_pos ⟨rfl, rfl⟩]
            | rw [up1_at, if_neg (by decide), hk.2.2.2.1]
            | rw [up1_at, if_neg (by decide), up1_at, if_pos ⟨rfl, rfl⟩]
            | rw [up1_at, if_neg (by decide), up1_at, if_neg (by decide), hk.2.2.2.1]
            | rw [up1_at, if_neg (by decide), up1_at, if_neg (by decide), up1_at, if_pos ⟨rfl, rfl⟩]
            | rw [up1_at, if_neg (by decide), up1_at, if_neg (by decide), up1_at, if_neg (by decide), hk.2.2.2.1]
          refine y_iconst (a := 1) dX12_readLake_99 rfl ?_
          refine y_icmp_ne 113 dX12_readLake_100 (by omega) (by omega) (fun h_100 => ?_) (fun h_100 => ?_)
          · exfalso; omega
          · refine x_aload_n dX12_readLake_103 rfl ?_
            refine g_X12_97 dX12_readLake_104 ?_
            rw [hk.2.2.2.2.1 (tkv_1 (by omega))]
            refine q_X12_130 (m_kindBy (by omega)) dX12_readLake_107 rfl ?_
            rintro _ _ ⟨rfl, rfl⟩
            refine x_goto 114 dX12_readLake_110 ?_
            refine x_istore_n dX12_readLake_114 ?_
            refine x_iload_n dX12_readLake_115 rfl ?_
            refine y_if_le 127 dX12_readLake_116 (by omega) (fun h_116 => ?_) (fun h_116 => ?_)
            · exfalso; omega
            · refine x_aload_n dX12_readLake_119 rfl ?_
              refine x_iload_n dX12_readLake_120 rfl ?_
              by_cases hA : i < v 0 ∨ v 2 = 6
              · refine q_X12_133 (m_goer_f hTW hk hR h16 htl htz hA) dX12_readLake_121 rfl ?_
                rintro _ M2 ⟨rfl, he, hF2⟩
                refine x_goto 148 dX12_readLake_124 ?_
                refine x_istore_n dX12_readLake_148 ?_
                refine x_goto 74 dX12_readLake_149 ?_
                rcases Nat.lt_or_ge i (v 0) with hlt | hge
                · have h2 := hv2 hlt
                  rw [if_neg (by omega)] at he
                  exact keyF (1, a) _ _ (by rw [← hrun]; exact pRun_r1 hlt (by unfold pPass; rw [if_neg (kdO_l hko).2.1])) he (hF.tr hF2)
                · have h2 : v 2 = 6 := by omega
                  rw [if_pos h2] at he
                  exact keyF (3, a) _ _ (by rw [← hrun]; exact pRun_g6 (by omega) hko h2) he (hF.tr hF2)
              · rcases hp1 : pNum T 1 30 44 (nx T a) with er | ⟨x, b⟩
                · refine q_X12_133 (m_goer_no1 hTW hk hR h16 htl htz (by omega) (by have := (kdO_l hko).2.2; omega) (by omega) (by omega) hp1) dX12_readLake_121 rfl ?_
                  rintro _ M2 ⟨rfl, he, hF2⟩
                  refine x_goto 148 dX12_readLake_124 ?_
                  refine x_istore_n dX12_readLake_148 ?_
                  refine x_goto 74 dX12_readLake_149 ?_
                  exact keyF er _ _ (by rw [← hrun]; exact pRun_n1 (by omega) hko (by omega) hp1) he (hF.tr hF2)
                · rcases hp2 : pNum T 0 30 59 b with er | ⟨t, c9⟩
                  · refine q_X12_133 (m_goer_no2 hTW hk hR h16 htl htz (by omega) (by have := (kdO_l hko).2.2; omega) (by omega) (by omega) hp1 hp2) dX12_readLake_121 rfl ?_
                    rintro _ M2 ⟨rfl, he, hF2⟩
                    refine x_goto 148 dX12_readLake_124 ?_
                    refine x_istore_n dX12_readLake_148 ?_
                    refine x_goto 74 dX12_readLake_149 ?_
                    exact keyF er _ _ (by rw [← hrun]; exact pRun_n2 (by omega) hko (by omega) hp1 hp2) he (hF.tr hF2)
                  · refine q_X12_133 (m_goer_ok hTW hk hR h16 htl htz (by omega) (by have := (kdO_l hko).2.2; omega) (by omega) (by omega) hp1 hp2) dX12_readLake_121 rfl ?_
                    rintro _ M2 ⟨rfl, hk2, hR2, h162, hF2⟩
                    refine x_goto 148 dX12_readLake_124 ?_
                    refine x_istore_n dX12_readLake_148 ?_
                    refine x_goto 74 dX12_readLake_149 ?_
                    have hl1 := pNum_le hp1
                    have hl2 := pNum_le hp2
                    have hei : i = v 0 := by omega
                    have htl2 : Tl v (v 0) := hei ▸ htl
                    have htg := htl2.goer (show v 2 < 6 by omega) (k := kdO (tcd T a)) (by omega) hl1.2 hl2.2
                    have e0 : agV v (kdO (tcd T a)) x t 0 = v 0 := agV_ne (by omega) (by omega) (by omega) (by omega) (by omega) (by omega) (by omega)
                    have e2 : agV v (kdO (tcd T a)) x t 2 = v 2 + 1 := by simp [agV]
                    rw [e0] at htg
                    exact ih i c9 _ _ _ hk2 hR2 h162 (hei ▸ htg) (htz.goer (by omega) _ _ _) (by rw [e0, e2]; omega) (by rw [← hrun]; exact (pRun_n3 (by omega) hko (by omega) hp1 hp2).symm) (hF.tr hF2)
        · exfalso; omega
      · have et : tkv (tcd T a) = 1 := tkv_l (by omega)
        have ek : kdO (tcd T a) = 0 := by rw [h114]; rfl
        refine x_aload_n dX12_readLake_78 rfl ?_
        refine g_X12_94 dX12_readLake_79 ?_
        first
          | rw [hk.2.2.2.1]
          | rw [up1_at, if_pos ⟨rfl, rfl⟩]
          | rw [up1_at, if_neg (by decide), hk.2.2.2.1]
          | rw [up1_at, if_neg (by decide), up1_at, if_pos ⟨rfl, rfl⟩]
          | rw [up1_at, if_neg (by decide), up1_at, if_neg (by decide), hk.2.2.2.1]
          | rw [up1_at, if_neg (by decide), up1_at, if_neg (by decide), up1_at, if_pos ⟨rfl, rfl⟩]
          | rw [up1_at, if_neg (by decide), up1_at, if_neg (by decide), up1_at, if_neg (by decide), hk.2.2.2.1]
        refine y_iconst (a := 3) dX12_readLake_82 rfl ?_
        refine y_icmp_ne 95 dX12_readLake_83 (by omega) (by omega) (fun h_83 => ?_) (fun h_83 => ?_)
        · refine x_aload_n dX12_readLake_95 rfl ?_
          refine g_X12_94 dX12_readLake_96 ?_
          first
            | rw [hk.2.2.2.1]
            | rw [up1_at, if_pos ⟨rfl, rfl⟩]
            | rw [up1_at, if_neg (by decide), hk.2.2.2.1]
            | rw [up1_at, if_neg (by decide), up1_at, if_pos ⟨rfl, rfl⟩]
            | rw [up1_at, if_neg (by decide), up1_at, if_neg (by decide), hk.2.2.2.1]
            | rw [up1_at, if_neg (by decide), up1_at, if_neg (by decide), up1_at, if_pos ⟨rfl, rfl⟩]
            | rw [up1_at, if_neg (by decide), up1_at, if_neg (by decide), up1_at, if_neg (by decide), hk.2.2.2.1]
          refine y_iconst (a := 1) dX12_readLake_99 rfl ?_
          refine y_icmp_ne 113 dX12_readLake_100 (by omega) (by omega) (fun h_100 => ?_) (fun h_100 => ?_)
          · exfalso; omega
          · refine x_aload_n dX12_readLake_103 rfl ?_
            refine g_X12_97 dX12_readLake_104 ?_
            rw [hk.2.2.2.2.1 (tkv_1 (by omega))]
            refine q_X12_130 (m_kindBy (by omega)) dX12_readLake_107 rfl ?_
            rintro _ _ ⟨rfl, rfl⟩
            refine x_goto 114 dX12_readLake_110 ?_
            refine x_istore_n dX12_readLake_114 ?_
            refine x_iload_n dX12_readLake_115 rfl ?_
            refine y_if_le 127 dX12_readLake_116 (by omega) (fun h_116 => ?_) (fun h_116 => ?_)
            · refine x_aload_n dX12_readLake_127 rfl ?_
              refine x_bipush (v := nI 114) dX12_readLake_128 rfl ?_
              refine q_X12_111 (m_isLetter hk hTW (by decide)) dX12_readLake_130 rfl ?_
              rintro _ _ ⟨rfl, rfl⟩
              refine z_if_eq 143 dX12_readLake_133 (fun h_133 => ?_) (fun h_133 => ?_)
              · rw [decide_eq_false_iff_not] at h_133
                exact absurd h114 h_133
              · refine x_aload_n dX12_readLake_136 rfl ?_
                by_cases hA : 0 < v 2 ∨ i = v 0
                · refine q_X12_136 (m_rung_f hTW hk hR h16 htl htz hA) dX12_readLake_137 rfl ?_
                  rintro _ M2 ⟨rfl, he, hF2⟩
                  refine x_goto 148 dX12_readLake_140 ?_
                  refine x_istore_n dX12_readLake_148 ?_
                  refine x_goto 74 dX12_readLake_149 ?_
                  by_cases h2 : 0 < v 2
                  · rw [if_pos h2] at he
                    exact keyF (1, a) _ _ (by rw [← hrun]; exact pRun_g1 (fun z => by have := hv2 z; omega) (by omega) (by omega) (by rw [h114]; rfl)) he (hF.tr hF2)
                  · rw [if_neg h2] at he
                    exact keyF (3, a) _ _ (by rw [← hrun]; exact pRun_g0 (by omega) ⟨by omega, h114⟩) he (hF.tr hF2)
                · rcases hp1 : pNum T 0 99 59 (nx T a) with er | ⟨x, b⟩
                  · refine q_X12_136 (m_rung_no hTW hk hR h16 htl htz h114 (by omega) hp1) dX12_readLake_137 rfl ?_
                    rintro _ M2 ⟨rfl, he, hF2⟩
                    refine x_goto 148 dX12_readLake_140 ?_
                    refine x_istore_n dX12_readLake_148 ?_
                    refine x_goto 74 dX12_readLake_149 ?_
                    exact keyF er _ _ (by rw [← hrun]; exact pRun_r2 (by omega) (by unfold pPass; rw [if_pos h114]) hp1) he (hF.tr hF2)
                  · refine q_X12_136 (m_rung_ok hTW hk hR h16 htl htz h114 (by omega) hp1) dX12_readLake_137 rfl ?_
                    rintro _ M2 ⟨rfl, hk2, hR2, h162, hF2⟩
                    refine x_goto 148 dX12_readLake_140 ?_
                    refine x_istore_n dX12_readLake_148 ?_
                    refine x_goto 74 dX12_readLake_149 ?_
                    have hl1 := pNum_le hp1
                    have hlt : i < v 0 := by omega
                    have h2 := hv2 hlt
                    exact ih (i + 1) b _ _ _ hk2 hR2 h162 (htl.rung hlt hl1.2) (htz.rung (by omega)) (by rw [sv_ne _ _ (by omega), sv_ne _ _ (by omega)]; omega) (by rw [← hrun]; exact (pRun_r3 hlt (by unfold pPass; rw [if_pos h114]) hp1).symm) (hF.tr hF2)
            · exfalso; omega
        · exfalso; omega
      · refine x_aload_n dX12_readLake_78 rfl ?_
        refine g_X12_94 dX12_readLake_79 ?_
        first
          | rw [hk.2.2.2.1]
          | rw [up1_at, if_pos ⟨rfl, rfl⟩]
          | rw [up1_at, if_neg (by decide), hk.2.2.2.1]
          | rw [up1_at, if_neg (by decide), up1_at, if_pos ⟨rfl, rfl⟩]
          | rw [up1_at, if_neg (by decide), up1_at, if_neg (by decide), hk.2.2.2.1]
          | rw [up1_at, if_neg (by decide), up1_at, if_neg (by decide), up1_at, if_pos ⟨rfl, rfl⟩]
          | rw [up1_at, if_neg (by decide), up1_at, if_neg (by decide), up1_at, if_neg (by decide), hk.2.2.2.1]
        refine y_iconst (a := 3) dX12_readLake_82 rfl ?_
        refine y_icmp_ne 95 dX12_readLake_83 (by omega) (by omega) (fun h_83 => ?_) (fun h_83 => ?_)
        · refine x_aload_n dX12_readLake_95 rfl ?_
          refine g_X12_94 dX12_readLake_96 ?_
          first
            | rw [hk.2.2.2.1]
            | rw [up1_at, if_pos ⟨rfl, rfl⟩]
            | rw [up1_at, if_neg (by decide), hk.2.2.2.1]
            | rw [up1_at, if_neg (by decide), up1_at, if_pos ⟨rfl, rfl⟩]
            | rw [up1_at, if_neg (by decide), up1_at, if_neg (by decide), hk.2.2.2.1]
            | rw [up1_at, if_neg (by decide), up1_at, if_neg (by decide), up1_at, if_pos ⟨rfl, rfl⟩]
            | rw [up1_at, if_neg (by decide), up1_at, if_neg (by decide), up1_at, if_neg (by decide), hk.2.2.2.1]
          refine y_iconst (a := 1) dX12_readLake_99 rfl ?_
          refine y_icmp_ne 113 dX12_readLake_100 (by omega) (by omega) (fun h_100 => ?_) (fun h_100 => ?_)
          · refine y_iconst (a := 0) dX12_readLake_113 rfl ?_
            refine x_istore_n dX12_readLake_114 ?_
            refine x_iload_n dX12_readLake_115 rfl ?_
            refine y_if_le 127 dX12_readLake_116 (by omega) (fun h_116 => ?_) (fun h_116 => ?_)
            · refine x_aload_n dX12_readLake_127 rfl ?_
              refine x_bipush (v := nI 114) dX12_readLake_128 rfl ?_
              refine q_X12_111 (m_isLetter hk hTW (by decide)) dX12_readLake_130 rfl ?_
              rintro _ _ ⟨rfl, rfl⟩
              refine z_if_eq 143 dX12_readLake_133 (fun h_133 => ?_) (fun h_133 => ?_)
              · refine x_aload_n dX12_readLake_143 rfl ?_
                refine y_iconst (a := 1) dX12_readLake_144 rfl ?_
                refine q_X12_114 (m_faults) dX12_readLake_145 rfl ?_
                rintro _ _ ⟨rfl, rfl⟩
                refine x_istore_n dX12_readLake_148 ?_
                refine x_goto 74 dX12_readLake_149 ?_
                have hF2 : FTp M1 (up1 M1 34 14 (nI 1)) := FTp.rf.u34 (by decide)
                have he : ErM (up1 M1 34 14 (nI 1)) (1, a) := ⟨by rw [up1_at, if_pos ⟨rfl, rfl⟩], by rw [up1_at, if_neg (by decide)]; exact hk.2.1⟩
                rcases Nat.lt_or_ge i (v 0) with hlt | hge
                · exact keyF (1, a) _ _ (by rw [← hrun]; exact pRun_r1 hlt (by unfold pPass; rw [if_neg q3])) he (hF.tr hF2)
                · exact keyF (1, a) _ _ (by rw [← hrun]; exact pRun_g1 (by omega) (fun z => q3 z.2) (fun z => q1 ⟨z.2, z.1⟩) q2) he (hF.tr hF2)
              · rw [decide_eq_true_eq] at h_133
                exact absurd h_133 q3
            · exfalso; omega
          · refine x_aload_n dX12_readLake_103 rfl ?_
            refine g_X12_97 dX12_readLake_104 ?_
            rw [hk.2.2.2.2.1 (tkv_1 (by omega))]
            refine q_X12_130 (m_kindBy (by omega)) dX12_readLake_107 rfl ?_
            rintro _ _ ⟨rfl, rfl⟩
            refine x_goto 114 dX12_readLake_110 ?_
            refine x_istore_n dX12_readLake_114 ?_
            refine x_iload_n dX12_readLake_115 rfl ?_
            refine y_if_le 127 dX12_readLake_116 (by omega) (fun h_116 => ?_) (fun h_116 => ?_)
            · refine x_aload_n dX12_readLake_127 rfl ?_
              refine x_bipush (v := nI 114) dX12_readLake_128 rfl ?_
              refine q_X12_111 (m_isLetter hk hTW (by decide)) dX12_readLake_130 rfl ?_
              rintro _ _ ⟨rfl, rfl⟩
              refine z_if_eq 143 dX12_readLake_133 (fun h_133 => ?_) (fun h_133 => ?_)
              · refine x_aload_n dX12_readLake_143 rfl ?_
                refine y_iconst (a := 1) dX12_readLake_144 rfl ?_
                refine q_X12_114 (m_faults) dX12_readLake_145 rfl ?_
                rintro _ _ ⟨rfl, rfl⟩
                refine x_istore_n dX12_readLake_148 ?_
                refine x_goto 74 dX12_readLake_149 ?_
                have hF2 : FTp M1 (up1 M1 34 14 (nI 1)) := FTp.rf.u34 (by decide)
                have he : ErM (up1 M1 34 14 (nI 1)) (1, a) := ⟨by rw [up1_at, if_pos ⟨rfl, rfl⟩], by rw [up1_at, if_neg (by decide)]; exact hk.2.1⟩
                rcases Nat.lt_or_ge i (v 0) with hlt | hge
                · exact keyF (1, a) _ _ (by rw [← hrun]; exact pRun_r1 hlt (by unfold pPass; rw [if_neg q3])) he (hF.tr hF2)
                · exact keyF (1, a) _ _ (by rw [← hrun]; exact pRun_g1 (by omega) (fun z => q3 z.2) (fun z => q1 ⟨z.2, z.1⟩) q2) he (hF.tr hF2)
              · rw [decide_eq_true_eq] at h_133
                exact absurd h_133 q3
            · exfalso; omega
        · refine x_aload_n dX12_readLake_86 rfl ?_
          refine g_X12_28 dX12_readLake_87 ?_
          refine y_iconst (a := 2) dX12_readLake_90 rfl ?_
          refine x_ial dX12_readLake_91 (⟨by decide, rfl, rfl, by decide⟩ : Ar 41 45) (by omega) ?_
          rw [hR.at (by omega) (by omega)]
          refine y_if_ne 152 dX12_readLake_92 (by omega) (fun h_92 => ?_) (fun h_92 => ?_)
          · exfalso
            exact q1 ⟨tkv_3.mp (by omega), by omega⟩
          · refine x_aload_n dX12_readLake_95 rfl ?_
            refine g_X12_94 dX12_readLake_96 ?_
            first
              | rw [hk.2.2.2.1]
              | rw [up1_at, if_pos ⟨rfl, rfl⟩]
              | rw [up1_at, if_neg (by decide), hk.2.2.2.1]
              | rw [up1_at, if_neg (by decide), up1_at, if_pos ⟨rfl, rfl⟩]
              | rw [up1_at, if_neg (by decide), up1_at, if_neg (by decide), hk.2.2.2.1]
              | rw [up1_at, if_neg (by decide), up1_at, if_neg (by decide), up1_at, if_pos ⟨rfl, rfl⟩]
              | rw [up1_at, if_neg (by decide), up1_at, if_neg (by decide), up1_at, if_neg (by decide), hk.2.2.2.1]
            refine y_iconst (a := 1) dX12_readLake_99 rfl ?_
            refine y_icmp_ne 113 dX12_readLake_100 (by omega) (by omega) (fun h_100 => ?_) (fun h_100 => ?_)
            · refine y_iconst (a := 0) dX12_readLake_113 rfl ?_
              refine x_istore_n dX12_readLake_114 ?_
              refine x_iload_n dX12_readLake_115 rfl ?_
              refine y_if_le 127 dX12_readLake_116 (by omega) (fun h_116 => ?_) (fun h_116 => ?_)
              · refine x_aload_n dX12_readLake_127 rfl ?_
                refine x_bipush (v := nI 114) dX12_readLake_128 rfl ?_
                refine q_X12_111 (m_isLetter hk hTW (by decide)) dX12_readLake_130 rfl ?_
                rintro _ _ ⟨rfl, rfl⟩
                refine z_if_eq 143 dX12_readLake_133 (fun h_133 => ?_) (fun h_133 => ?_)
                · refine x_aload_n dX12_readLake_143 rfl ?_
                  refine y_iconst (a := 1) dX12_readLake_144 rfl ?_
                  refine q_X12_114 (m_faults) dX12_readLake_145 rfl ?_
                  rintro _ _ ⟨rfl, rfl⟩
                  refine x_istore_n dX12_readLake_148 ?_
                  refine x_goto 74 dX12_readLake_149 ?_
                  have hF2 : FTp M1 (up1 M1 34 14 (nI 1)) := FTp.rf.u34 (by decide)
                  have he : ErM (up1 M1 34 14 (nI 1)) (1, a) := ⟨by rw [up1_at, if_pos ⟨rfl, rfl⟩], by rw [up1_at, if_neg (by decide)]; exact hk.2.1⟩
                  rcases Nat.lt_or_ge i (v 0) with hlt | hge
                  · exact keyF (1, a) _ _ (by rw [← hrun]; exact pRun_r1 hlt (by unfold pPass; rw [if_neg q3])) he (hF.tr hF2)
                  · exact keyF (1, a) _ _ (by rw [← hrun]; exact pRun_g1 (by omega) (fun z => q3 z.2) (fun z => q1 ⟨z.2, z.1⟩) q2) he (hF.tr hF2)
                · rw [decide_eq_true_eq] at h_133
                  exact absurd h_133 q3
              · exfalso; omega
            · refine x_aload_n dX12_readLake_103 rfl ?_
              refine g_X12_97 dX12_readLake_104 ?_
              rw [hk.2.2.2.2.1 (tkv_1 (by omega))]
              refine q_X12_130 (m_kindBy (by omega)) dX12_readLake_107 rfl ?_
              rintro _ _ ⟨rfl, rfl⟩
              refine x_goto 114 dX12_readLake_110 ?_
              refine x_istore_n dX12_readLake_114 ?_
              refine x_iload_n dX12_readLake_115 rfl ?_
              refine y_if_le 127 dX12_readLake_116 (by omega) (fun h_116 => ?_) (fun h_116 => ?_)
              · refine x_aload_n dX12_readLake_127 rfl ?_
                refine x_bipush (v := nI 114) dX12_readLake_128 rfl ?_
                refine q_X12_111 (m_isLetter hk hTW (by decide)) dX12_readLake_130 rfl ?_
                rintro _ _ ⟨rfl, rfl⟩
                refine z_if_eq 143 dX12_readLake_133 (fun h_133 => ?_) (fun h_133 => ?_)
                · refine x_aload_n dX12_readLake_143 rfl ?_
                  refine y_iconst (a := 1) dX12_readLake_144 rfl ?_
                  refine q_X12_114 (m_faults) dX12_readLake_145 rfl ?_
                  rintro _ _ ⟨rfl, rfl⟩
                  refine x_istore_n dX12_readLake_148 ?_
                  refine x_goto 74 dX12_readLake_149 ?_
                  have hF2 : FTp M1 (up1 M1 34 14 (nI 1)) := FTp.rf.u34 (by decide)
                  have he : ErM (up1 M1 34 14 (nI 1)) (1, a) := ⟨by rw [up1_at, if_pos ⟨rfl, rfl⟩], by rw [up1_at, if_neg (by decide)]; exact hk.2.1⟩
                  rcases Nat.lt_or_ge i (v 0) with hlt | hge
                  · exact keyF (1, a) _ _ (by rw [← hrun]; exact pRun_r1 hlt (by unfold pPass; rw [if_neg q3])) he (hF.tr hF2)
                  · exact keyF (1, a) _ _ (by rw [← hrun]; exact pRun_g1 (by omega) (fun z => q3 z.2) (fun z => q1 ⟨z.2, z.1⟩) q2) he (hF.tr hF2)
                · rw [decide_eq_true_eq] at h_133
                  exact absurd h_133 q3
              · exfalso; omega
  have keyZ : ∀ (k h : Nat) (M1 : Mem), h + k = 45 → (∀ j, j < h → M1.1 41 j = nI 0) → M1.1 34 10 = nI 0 → M1.1 34 16 = nI 0 → FTp M M1 → X (mkG p l e R s m args below meth c Ω (fun ro M' => (match pLake T with
  | .inl er => ro = some (.int (bI false)) ∧ ErM M' er ∧ FTp M M'
  | .inr w => ro = some (.int (bI true)) ∧ RdM M' w ∧ w 5 = 2 ^ w 2 - 1 ∧ w 2 ≤ 6 ∧ FTp M M'))) Ω RX12 cX12_readLake 3 6 (some .boolean) 12 [some (.ref (Ω.2.2 34)), some (.int (nI h)), none] [] M1 := by
    intro k
    induction k with
    | zero =>
      intro h M1 hk hz p10 p16 hF
      have hb1 : TbM M1 T := ⟨by rw [hF.2.2 8 (by omega)]; exact hb.1, fun j hj => by rw [hF.2.1 40 (by decide) (by decide)]; exact hb.2 j hj⟩
      refine x_iload_n dX12_readLake_12 rfl ?_
      refine x_bipush (v := nI 45) dX12_readLake_13 rfl ?_
      refine y_icmp_ge 31 dX12_readLake_15 (by omega) (by omega) (fun h_15 => ?_) (fun h_15 => ?_)
      · refine x_aload_n dX12_readLake_31 rfl ?_
        refine q_X12_117 (m_nextToken hb1 hTW p10 (Nat.zero_le _)) dX12_readLake_32 rfl ?_
        rintro _ M1c ⟨rfl, hk1, hF1⟩
        refine x_aload_n dX12_readLake_35 rfl ?_
        refine x_bipush (v := nI 108) dX12_readLake_36 rfl ?_
        by_cases hl : tcd T 0 = 108
        · refine q_X12_120 (m_takes_ok hk1 hTW (by decide) hl) dX12_readLake_38 rfl ?_
          rintro _ M2 ⟨rfl, hk2, hF2⟩
          refine z_if_eq 70 dX12_readLake_41 (fun h_41 => ?_) (fun h_41 => ?_)
          · refine x_iconst (v := bI false) dX12_readLake_70 rfl ?_
            first | refine z_iret dX12_readLake_71 ?_ | refine z_iret0 dX12_readLake_71 ?_ | refine z_iret1 dX12_readLake_71 ?_
            exact absurd h_41 (by decide)
          · refine x_aload_n dX12_readLake_44 rfl ?_
            refine y_iconst (a := 2) dX12_readLake_45 rfl ?_
            refine x_bipush (v := nI 9) dX12_readLake_46 rfl ?_
            refine y_iconst (a := 0) dX12_readLake_48 rfl ?_
            refine x_bipush (v := nI 44) dX12_readLake_49 rfl ?_
            rcases hp1 : pNum T 2 9 44 (nx T 0) with er | ⟨x, b⟩
            · refine q_X12_126 (m_num_no hk2 hTW (by decide) (by decide) (by omega) (by decide) hp1) dX12_readLake_51 rfl ?_
              rintro _ M3 ⟨rfl, he, hF3⟩
              refine z_if_eq 70 dX12_readLake_54 (fun h_54 => ?_) (fun h_54 => ?_)
              · refine x_iconst (v := bI false) dX12_readLake_70 rfl ?_
                first | refine z_iret dX12_readLake_71 ?_ | refine z_iret0 dX12_readLake_71 ?_ | refine z_iret1 dX12_readLake_71 ?_
                rw [show pLake T = .inl er by unfold pLake pLaw pPass; rw [if_pos hl]; simp only []; rw [hp1]]
                exact ⟨rfl, he, ((hF.n hF1).n hF2).tr hF3⟩
              · exact absurd h_54 (by decide)
            · refine q_X12_126 (m_num_ok hk2 hTW (by decide) (by decide) (by omega) (by decide) hp1) dX12_readLake_51 rfl ?_
              rintro _ M3 ⟨rfl, hk3, hF3⟩
              refine z_if_eq 70 dX12_readLake_54 (fun h_54 => ?_) (fun h_54 => ?_)
              · refine x_iconst (v := bI false) dX12_readLake_70 rfl ?_
                first | refine z_iret dX12_readLake_71 ?_ | refine z_iret0 dX12_readLake_71 ?_ | refine z_iret1 dX12_readLake_71 ?_
                exact absurd h_54 (by decide)
              · refine x_aload_n dX12_readLake_57 rfl ?_
                refine y_iconst (a := 1) dX12_readLake_58 rfl ?_
                refine x_bipush (v := nI 99) dX12_readLake_59 rfl ?_
                refine y_iconst (a := 1) dX12_readLake_61 rfl ?_
                refine x_bipush (v := nI 59) dX12_readLake_62 rfl ?_
                rcases hp2 : pNum T 1 99 59 b with er | ⟨y, c9⟩
                · refine q_X12_126 (m_num_no hk3 hTW (by decide) (by decide) (by omega) (by decide) hp2) dX12_readLake_64 rfl ?_
                  rintro _ M4 ⟨rfl, he, hF4⟩
                  refine z_if_ne 72 dX12_readLake_67 (fun h_67 => ?_) (fun h_67 => ?_)
                  · exact absurd h_67 (by decide)
                  · refine x_iconst (v := bI false) dX12_readLake_70 rfl ?_
                    first | refine z_iret dX12_readLake_71 ?_ | refine z_iret0 dX12_readLake_71 ?_ | refine z_iret1 dX12_readLake_71 ?_
                    first
                      | exact absurd h_54 (by decide)
                      | (rw [show pLake T = .inl er by unfold pLake pLaw pPass; rw [if_pos hl]; simp only []; rw [hp1]; simp only []; rw [hp2]]
                         exact ⟨rfl, he, ((((hF.n hF1).n hF2).u41).n hF3).tr hF4⟩)
                · refine q_X12_126 (m_num_ok hk3 hTW (by decide) (by decide) (by omega) (by decide) hp2) dX12_readLake_64 rfl ?_
                  rintro _ M4 ⟨rfl, hk4, hF4⟩
                  refine z_if_ne 72 dX12_readLake_67 (fun h_67 => ?_) (fun h_67 => ?_)
                  · refine x_iconst (v := bI true) dX12_readLake_72 rfl ?_
                    refine x_istore_n dX12_readLake_73 ?_
                    have hl1 := pNum_le hp1
                    have hl2 := pNum_le hp2
                    have hR0 : RdM M1c (fun _ => 0) := fun j hj _ => by rw [hF1.2.1 41 (by decide)]; exact hz j (by omega)
                    have hR4 := (((((hR0.ft hF2).set 0 x).ft hF3).set 1 y).ft hF4)
                    have hRg : RdM M4 (hgV x y) := fun j hj h5 => by
                      rw [hR4 j hj h5]
                      unfold hgV sv
                      by_cases a1 : j = 1
                      · rw [if_pos a1, if_neg (by omega), if_pos a1]
                      · rw [if_neg a1]
                        by_cases a0 : j = 0
                        · rw [if_pos a0, if_pos a0]
                        · rw [if_neg a0, if_neg a0, if_neg a1]
                    exact keyL 17 0 c9 (hgV x y) _ _ hk4 hRg (by rw [hF4.2.2 16 (by omega), up1_ne _ _ _ (by decide), hF3.2.2 16 (by omega), up1_ne _ _ _ (by decide), hF2.2.2 16 (by omega), hF1.2.2 16 (by omega)]; exact p16) (hgV_Tl hl1 hl2.2) (Tz.hg x y) (by show (x - 0) + (6 - 0) + 1 ≤ 17; omega) (by unfold pLake pLaw pPass; rw [if_pos hl]; simp only []; rw [hp1]; simp only []; rw [hp2]) ((((hF.n hF1).n hF2).u41.n hF3).u41.n hF4)
                  · refine x_iconst (v := bI false) dX12_readLake_70 rfl ?_
                    first | refine z_iret dX12_readLake_71 ?_ | refine z_iret0 dX12_readLake_71 ?_ | refine z_iret1 dX12_readLake_71 ?_
                    first
                      | exact absurd h_54 (by decide)
                      | exact absurd h_67 (by decide)
        · refine q_X12_120 (m_takes_no hk1 hTW (by decide) hl) dX12_readLake_38 rfl ?_
          rintro _ M2 ⟨rfl, he, hF2⟩
          refine z_if_eq 70 dX12_readLake_41 (fun h_41 => ?_) (fun h_41 => ?_)
          · refine x_iconst (v := bI false) dX12_readLake_70 rfl ?_
            first | refine z_iret dX12_readLake_71 ?_ | refine z_iret0 dX12_readLake_71 ?_ | refine z_iret1 dX12_readLake_71 ?_
            rw [show pLake T = .inl (1, 0) by unfold pLake pLaw pPass; rw [if_neg hl]]
            exact ⟨rfl, he, (hF.n hF1).n hF2⟩
          · exact absurd h_41 (by decide)
      · exfalso; omega
    | succ k ih =>
      intro h M1 hk hz p10 p16 hF
      have hb1 : TbM M1 T := ⟨by rw [hF.2.2 8 (by omega)]; exact hb.1, fun j hj => by rw [hF.2.1 40 (by decide) (by decide)]; exact hb.2 j hj⟩
      refine x_iload_n dX12_readLake_12 rfl ?_
      refine x_bipush (v := nI 45) dX12_readLake_13 rfl ?_
      refine y_icmp_ge 31 dX12_readLake_15 (by omega) (by omega) (fun h_15 => ?_) (fun h_15 => ?_)
      · exfalso; omega
      · refine x_aload_n dX12_readLake_18 rfl ?_
        refine g_X12_28 dX12_readLake_19 ?_
        refine x_iload_n dX12_readLake_22 rfl ?_
        refine y_iconst (a := 0) dX12_readLake_23 rfl ?_
        refine x_ias dX12_readLake_24 (⟨by decide, rfl, rfl, by decide⟩ : Ar 41 45) (by omega) ?_
        refine y_iinc dX12_readLake_25 rfl ?_
        refine x_goto 12 dX12_readLake_28 ?_
        refine ih (h + 1) _ (by omega) (fun j hj => ?_) (by rw [up1_ne _ _ _ (by decide)]; exact p10) (by rw [up1_ne _ _ _ (by decide)]; exact p16) hF.u41
        rw [up1_at]
        by_cases z : j = h
        · rw [if_pos ⟨rfl, z⟩]
        · rw [if_neg (fun y => z y.2)]; exact hz j (by omega)
  refine x_aload_n dX12_readLake_0 rfl ?_
  refine y_iconst (a := 0) dX12_readLake_1 rfl ?_
  refine p_X12_88 dX12_readLake_2 ?_
  refine x_aload_n dX12_readLake_5 rfl ?_
  refine y_iconst (a := 0) dX12_readLake_6 rfl ?_
  refine p_X12_123 dX12_readLake_7 ?_
  refine y_iconst (a := 0) dX12_readLake_10 rfl ?_
  refine x_istore_n dX12_readLake_11 ?_
  exact keyZ 45 0 _ rfl (fun j hj => absurd hj (Nat.not_lt_zero _)) (by rw [up1_at, if_neg (by decide), up1_at, if_pos ⟨rfl, rfl⟩]) (by rw [up1_at, if_pos ⟨rfl, rfl⟩]) ((FTp.rf.u34 (by decide)).u34 (by decide))
