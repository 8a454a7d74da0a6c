/-! LADDERSPRINGS: what is done, undone, kept (laid by gen_ls7.py) -/
def nA (σ : Sg) : Nat := if σ.am < 24 then σ.am + 1 else 24
def nH (σ : Sg) : Nat → Nat → Nat := if σ.am < 24 then (fun i => if i = σ.am then σ.v else σ.ah i) else (fun i => if i = 23 then σ.v else σ.ah (i + 1))
/-- an act: the lake is kept, and is another -/
def Sg.act (σ : Sg) (w : Nat → Nat) : Sg := σ.uLake w (nA σ) (nH σ)
def hsN (σ : Sg) : Nat → Sg
  | 0 => σ
  | k + 1 => (hsN σ k).act (hrV (hsN σ k).v)
def R_begin (σ : Sg) (x n : Int32) : Int32 × Sg := if inR x (σ.v 2) = true ∧ inB n 0 30 = true then (nI (σ.v (27 + tN x)), σ.act (sv σ.v (27 + tN x) (tN n))) else (-1000001, σ)
def R_hold (σ : Sg) (x w : Int32) : Int32 × Sg := if inR x (σ.v 2) = true ∧ inB w 0 1 = true then (if hld σ.v (tN x) = decide (w = nI 1) then (-1000002, σ) else (nI (σ.v 4 ^^^ 2 ^ tN x), σ.act (sv σ.v 4 (σ.v 4 ^^^ 2 ^ tN x)))) else (-1000001, σ)
def R_mend (σ : Sg) (x : Int32) : Int32 × Sg := if inR x (σ.v 0) = true then (nI (σ.v (6 + tN x)), σ.act (sv σ.v (6 + tN x) 99)) else (-1000001, σ)
def R_takeOut (σ : Sg) (x : Int32) : Int32 × Sg := if inR x (σ.v 0) = true then (if σ.v (6 + tN x) = 0 then (-1000002, σ) else (nI (whoA σ.v (tN x + 1)), σ.act (bkV σ.v (tN x + 1)))) else (-1000001, σ)
def R_hours (σ : Sg) (n : Int32) : Int32 × Sg := if σ.v 0 = 0 then (-1000002, σ) else if inB n 1 24 = true then (if 999 < σ.v 3 + tN n then (-1000003, σ) else (nI (whoA (hsN σ (tN n)).v (σ.v 0 + 1)), hsN σ (tN n))) else (-1000001, σ)
def R_undo (σ : Sg) : Int32 × Sg := if σ.am = 0 then (-1000002, σ) else (nI (σ.am - 1), σ.uLake (σ.ah (σ.am - 1)) (σ.am - 1) σ.ah)
def R_image (σ : Sg) (k : Int32) : Int32 × Sg := if inB k 0 1 = true then (if σ.v 0 = 0 then (-1000002, σ) else (nI 1, σ.uIm (fun i => if i = tN k then some σ.v else σ.im i))) else (-1000001, σ)
def R_restore (σ : Sg) (k : Int32) : Int32 × Sg := if inB k 0 1 = true then (match σ.im (tN k) with
  | none => (-1000002, σ)
  | some w => (nI 1, σ.uLake w 0 σ.ah)) else (-1000001, σ)
/-- the lake and the acts change -/
theorem IC.setLake {M M' : Mem} {σ : Sg} (h : IC M σ) {w : Nat → Nat} {i : Nat} {j : Nat → Nat → Nat} (hr : LkR M' 49 w) (ha : ActsC M' (σ.uLake w i j)) (e0 : ∀ k, k ≠ 8 → k ≠ 9 → M'.1 0 k = M.1 0 k) (e : ∀ d, d ≠ 0 → ¬ (49 ≤ d ∧ d < 65) → ¬ (81 ≤ d ∧ d < 273) → M'.1 d = M.1 d) : IC M' (σ.uLake w i j) := by
  obtain ⟨h1, h2, h3, h4, h5, h6, h7, h8, h9⟩ := h
  have e14 := e 14 (by omega) (by omega) (by omega)
  exact ⟨RowsC.keep (σ := σ) h1 (fun c a b => e c (by omega) (by omega) (by omega)), (e0 12 (by decide) (by decide)).trans h2, TapeC.keep (σ := σ) h3 (fun c a b => e c (by omega) (by omega) (by omega)), (e0 11 (by decide) (by decide)).trans h4, hr, ha, ImgC.keep (σ := σ) h7 (e0 10 (by decide) (by decide)) (fun c a b => e c (by omega) (by omega) (by omega)), TrC.keep (σ := σ) h8 (fun c a b => e c (by omega) (by omega) (by omega)), h9.keep (by rw [e14]) (by rw [e14]) (by rw [e14]) (e 16 (by omega) (by omega) (by omega)) (fun c a b => e c (by omega) (by omega) (by omega))⟩
/-- the lake alone changes -/
theorem IC.setLk {M M' : Mem} {σ : Sg} (h : IC M σ) {w : Nat → Nat} (hr : LkR M' 49 w) (hF : Fr 49 M M') : IC M' (σ.uLake w σ.am σ.ah) := by
  have e0 := hF.2 0 (by omega)
  exact h.setLake hr (ActsC.keep (σ := σ) h.acts (by rw [e0]) (by rw [e0]) (fun c a b => hF.2 c (by omega))) (fun k _ _ => by rw [e0]) (fun d _ h1 _ => hF.2 d (by omega))
theorem FrM.fr {M M' : Mem} {b : Nat} (hF : Fr b M M') (h : b + 8 ≤ 34 ∨ 49 ≤ b) : FrM M M' := fun c a d => hF.2 c (by omega)
theorem act_am (σ : Sg) (w : Nat → Nat) : (σ.act w).am = nA σ := rfl
theorem act_ah (σ : Sg) (w : Nat → Nat) : (σ.act w).ah = nH σ := rfl
theorem act_v (σ : Sg) (w : Nat → Nat) : (σ.act w).v = w := rfl
theorem act_u (σ : Sg) (w : Nat → Nat) : (σ.act σ.v).uLake w (σ.act σ.v).am (σ.act σ.v).ah = σ.act w := rfl
theorem Lk81 {k : Nat} (h : k < 24) : Lk (81 + 8 * k) := ⟨by omega, by omega, by omega⟩
theorem Lk273 {k : Nat} (h : k < 2) : Lk (273 + 8 * k) := ⟨by omega, by omega, by omega⟩
section
variable {Γ : Gx} {Ω : Om} {own : String} {cc : ByteArray} {nL lev : Nat} {ret : Option FieldType} {pc : Nat} {L : List (Option Value)} {st : List Value} {M : Mem}
theorem x_acts {r : Nat} (hr : r < 24) (d : decode cc pc = .ok (.aaload, 1)) (kk : X Γ Ω own cc nL lev ret (pc + 1) L (.ref (Ω.2.2 (81 + 8 * r)) :: st) M) : X Γ Ω own cc nL lev ret pc L (.int (nI r) :: .ref (Ω.2.2 4) :: st) M :=
  x_aaload d (by decide) (Or.inr (Or.inl rfl)) (vp_in_nI (N := 24) (by omega) (by decide)) (by rw [nI_clamp (by omega)]; show (if r < 24 then some (81 + 8 * r) else none) = _; rw [if_pos hr]) kk
theorem x_imgs {r : Nat} (hr : r < 2) (d : decode cc pc = .ok (.aaload, 1)) (kk : X Γ Ω own cc nL lev ret (pc + 1) L (.ref (Ω.2.2 (273 + 8 * r)) :: st) M) : X Γ Ω own cc nL lev ret pc L (.int (nI r) :: .ref (Ω.2.2 5) :: st) M :=
  x_aaload d (by decide) (Or.inr (Or.inl rfl)) (vp_in_nI (N := 2) (by omega) (by decide)) (by rw [nI_clamp (by omega)]; show (if r < 2 then some (273 + 8 * r) else none) = _; rw [if_pos hr]) kk
end

set_option maxRecDepth 100000 in
set_option maxHeartbeats 4000000 in
theorem c_keepAct {Ω : Om} {l : Launch} {M : Mem} {σ : Sg} (hC : IC M σ) (hW : SgW σ) : Ct Ω l yX11_keepAct cX11_keepAct 1 3 none [.ref (Ω.2.2 0)] M (fun ro M' => ro = none ∧ IC M' (σ.act σ.v) ∧ FrM M M') := by
  have hL49 : Lk 49 := Lk49
  have hL57 : Lk 57 := Lk57
  have hR := hC.lake
  have hLv : Lv σ.v := hW.2.2.1
  have hw := hLv.wv
  have hn := hw.nums
  have hL65 : Lk 65 := Lk65
  obtain ⟨o, ho, ha1, ha2, ha3⟩ := hC.acts
  have ham : σ.am ≤ 24 := hW.2.2.2.1
  have hmod : (o + σ.am) % 24 < 24 := Nat.mod_lt _ (by decide)
  have hlk8 := Lk81 hmod
  refine ct_of (by decide) (Nat.le_of_ble_eq_true rfl) ?_
  intro p e R s m args below meth c
  refine x_aload_n dX11_keepAct_0 rfl ?_
  refine g_X11_24 dX11_keepAct_1 ?_
  refine x_aload_n dX11_keepAct_4 rfl ?_
  refine g_X11_155 dX11_keepAct_5 ?_
  rw [ha1]
  refine x_aload_n dX11_keepAct_8 rfl ?_
  refine g_X11_151 dX11_keepAct_9 ?_
  rw [ha2]
  refine y_iadd dX11_keepAct_12 ?_
  refine x_bipush (v := nI 24) dX11_keepAct_13 rfl ?_
  refine y_irem dX11_keepAct_15 (by omega) (by omega) (by omega) ?_
  refine x_acts hmod dX11_keepAct_16 ?_
  refine x_aload_n dX11_keepAct_17 rfl ?_
  refine g_X11_58 dX11_keepAct_18 ?_
  refine q_X11_158 (c_become (Lk81 hmod) Lk49 (by omega) hR hw) dX11_keepAct_21 rfl ?_
  rintro _ M1 ⟨rfl, hR1, hF1⟩
  have e0 : M1.1 0 = M.1 0 := hF1.2 0 (by omega)
  refine x_aload_n dX11_keepAct_24 rfl ?_
  refine g_X11_151 dX11_keepAct_25 ?_
  rw [e0, ha2]
  refine x_bipush (v := nI 24) dX11_keepAct_28 rfl ?_
  refine y_icmp_ge 46 dX11_keepAct_30 (by omega) (by omega) (fun h_30 => ?_) (fun h_30 => ?_)
  · refine x_aload_n dX11_keepAct_46 rfl ?_
    refine x_aload_n dX11_keepAct_47 rfl ?_
    refine g_X11_155 dX11_keepAct_48 ?_
    rw [e0, ha1]
    refine y_iconst (a := 1) dX11_keepAct_51 rfl ?_
    refine y_iadd dX11_keepAct_52 ?_
    refine x_bipush (v := nI 24) dX11_keepAct_53 rfl ?_
    refine y_irem dX11_keepAct_55 (by omega) (by omega) (by omega) ?_
    refine p_X11_155 dX11_keepAct_56 ?_
    refine x_vret dX11_keepAct_59 ?_
    refine ⟨rfl, hC.setLake ((hR.keep hF1 Lk49 (Lk81 hmod) (by omega)).same (fun k hk => up1_ne _ _ _ (by omega))) ?_ (fun k k1 k2 => by rw [up1_at, if_neg (by omega), e0]) (fun d d1 d2 d3 => by rw [up1_ne _ _ _ d1]; exact hF1.2 d (by omega)), (FrM.fr hF1 (by omega)).up (by omega)⟩
    first
      | (refine ⟨o, ho, by rw [up1_at, if_neg (by omega), e0]; exact ha1, ?_, fun i hi => ?_⟩
         · rw [up1_at, if_pos ⟨rfl, rfl⟩]
           show _ = nI (nA σ)
           unfold nA
           rw [if_pos h_30]
         · have hi2 : i < nA σ := hi
           unfold nA at hi2
           rw [if_pos h_30] at hi2
           have him : (o + i) % 24 < 24 := Nat.mod_lt _ (by decide)
           show LkR _ _ (nH σ i)
           refine LkR.same (M := M1) ?_ (fun k hk => up1_ne _ _ _ (by omega))
           unfold nH
           rw [if_pos h_30]
           by_cases e1 : i = σ.am
           · simp only [e1, if_true]
             exact hR1
           · simp only [e1, if_false]
             exact (ha3 i (by omega)).same (fun k hk => hF1.2 _ (by omega)))
      | (have h24 : σ.am = 24 := by omega
         refine ⟨(o + 1) % 24, Nat.mod_lt _ (by decide), by rw [up1_at, if_pos ⟨rfl, rfl⟩], ?_, fun i hi => ?_⟩
         · rw [up1_at, if_neg (by omega), e0, ha2]
           show _ = nI (nA σ)
           unfold nA
           rw [if_neg (by omega), h24]
         · have hi2 : i < nA σ := hi
           unfold nA at hi2
           rw [if_neg (by omega)] at hi2
           have him : ((o + 1) % 24 + i) % 24 < 24 := Nat.mod_lt _ (by decide)
           show LkR _ _ (nH σ i)
           refine LkR.same (M := M1) ?_ (fun k hk => up1_ne _ _ _ (by omega))
           unfold nH
           rw [if_neg (by omega)]
           by_cases e1 : i = 23
           · simp only [e1, if_true]
             rw [show ((o + 1) % 24 + 23) % 24 = (o + σ.am) % 24 by omega]
             exact hR1
           · simp only [e1, if_false]
             rw [show ((o + 1) % 24 + i) % 24 = (o + (i + 1)) % 24 by omega]
             exact (ha3 (i + 1) (by omega)).same (fun k hk => hF1.2 _ (by omega)))
  · refine x_aload_n dX11_keepAct_33 rfl ?_
    refine x_dup dX11_keepAct_34 rfl ?_
    refine g_X11_151 dX11_keepAct_35 ?_
    rw [e0, ha2]
    refine y_iconst (a := 1) dX11_keepAct_38 rfl ?_
    refine y_iadd dX11_keepAct_39 ?_
    refine p_X11_151 dX11_keepAct_40 ?_
    refine x_goto 59 dX11_keepAct_43 ?_
    refine x_vret dX11_keepAct_59 ?_
    refine ⟨rfl, hC.setLake ((hR.keep hF1 Lk49 (Lk81 hmod) (by omega)).same (fun k hk => up1_ne _ _ _ (by omega))) ?_ (fun k k1 k2 => by rw [up1_at, if_neg (by omega), e0]) (fun d d1 d2 d3 => by rw [up1_ne _ _ _ d1]; exact hF1.2 d (by omega)), (FrM.fr hF1 (by omega)).up (by omega)⟩
    first
      | (refine ⟨o, ho, by rw [up1_at, if_neg (by omega), e0]; exact ha1, ?_, fun i hi => ?_⟩
         · rw [up1_at, if_pos ⟨rfl, rfl⟩]
           show _ = nI (nA σ)
           unfold nA
           rw [if_pos h_30]
         · have hi2 : i < nA σ := hi
           unfold nA at hi2
           rw [if_pos h_30] at hi2
           have him : (o + i) % 24 < 24 := Nat.mod_lt _ (by decide)
           show LkR _ _ (nH σ i)
           refine LkR.same (M := M1) ?_ (fun k hk => up1_ne _ _ _ (by omega))
           unfold nH
           rw [if_pos h_30]
           by_cases e1 : i = σ.am
           · simp only [e1, if_true]
             exact hR1
           · simp only [e1, if_false]
             exact (ha3 i (by omega)).same (fun k hk => hF1.2 _ (by omega)))
      | (have h24 : σ.am = 24 := by omega
         refine ⟨(o + 1) % 24, Nat.mod_lt _ (by decide), by rw [up1_at, if_pos ⟨rfl, rfl⟩], ?_, fun i hi => ?_⟩
         · rw [up1_at, if_neg (by omega), e0, ha2]
           show _ = nI (nA σ)
           unfold nA
           rw [if_neg (by omega), h24]
         · have hi2 : i < nA σ := hi
           unfold nA at hi2
           rw [if_neg (by omega)] at hi2
           have him : ((o + 1) % 24 + i) % 24 < 24 := Nat.mod_lt _ (by decide)
           show LkR _ _ (nH σ i)
           refine LkR.same (M := M1) ?_ (fun k hk => up1_ne _ _ _ (by omega))
           unfold nH
           rw [if_neg (by omega)]
           by_cases e1 : i = 23
           · simp only [e1, if_true]
             rw [show ((o + 1) % 24 + 23) % 24 = (o + σ.am) % 24 by omega]
             exact hR1
           · simp only [e1, if_false]
             rw [show ((o + 1) % 24 + i) % 24 = (o + (i + 1)) % 24 by omega]
             exact (ha3 (i + 1) (by omega)).same (fun k hk => hF1.2 _ (by omega)))
set_option maxRecDepth 100000 in
set_option maxHeartbeats 4000000 in
theorem c_putLake {Ω : Om} {l : Launch} {M : Mem} {σ : Sg} (hC : IC M σ) (hW : SgW σ) {b : Nat} (hb : Lk b) (hb49 : b ≠ 49) {w : Nat → Nat} (hRb : LkR M b w) (hwb : Wv w) : Ct Ω l yX11_putLake cX11_putLake 2 3 none [.ref (Ω.2.2 0), .ref (Ω.2.2 b)] M (fun ro M' => ro = none ∧ IC M' (σ.uLake w 0 σ.ah) ∧ FrM M M') := by
  have hL49 : Lk 49 := Lk49
  have hL57 : Lk 57 := Lk57
  have hR := hC.lake
  have hLv : Lv σ.v := hW.2.2.1
  have hw := hLv.wv
  have hn := hw.nums
  have hL65 : Lk 65 := Lk65
  refine ct_of (by decide) (Nat.le_of_ble_eq_true rfl) ?_
  intro p e R s m args below meth c
  refine x_aload_n dX11_putLake_0 rfl ?_
  refine g_X11_58 dX11_putLake_1 ?_
  refine x_aload_n dX11_putLake_4 rfl ?_
  refine q_X11_158 (c_become Lk49 hb hb49 hRb hwb) dX11_putLake_5 rfl ?_
  rintro _ M1 ⟨rfl, hR1, hF1⟩
  have e0 : M1.1 0 = M.1 0 := hF1.2 0 (by omega)
  refine x_aload_n dX11_putLake_8 rfl ?_
  refine y_iconst (a := 0) dX11_putLake_9 rfl ?_
  refine p_X11_151 dX11_putLake_10 ?_
  refine x_vret dX11_putLake_13 ?_
  obtain ⟨o, ho, ha1, ha2, ha3⟩ := hC.acts
  refine ⟨rfl, hC.setLake (hR1.same (fun k hk => up1_ne _ _ _ (by omega))) ⟨o, ho, by rw [up1_at, if_neg (by omega), e0]; exact ha1, by rw [up1_at, if_pos ⟨rfl, rfl⟩]; rfl, fun i hi => absurd hi (Nat.not_lt_zero _)⟩ (fun k k1 k2 => by rw [up1_at, if_neg (by omega), e0]) (fun d d1 d2 d3 => by rw [up1_ne _ _ _ d1]; exact hF1.2 d (by omega)), (FrM.fr hF1 (by omega)).up (by omega)⟩
set_option maxRecDepth 100000 in
set_option maxHeartbeats 4000000 in
theorem c_begin {Ω : Om} {l : Launch} {M : Mem} {σ : Sg} (hC : IC M σ) (hW : SgW σ) {x n : Int32} : Ct Ω l yX11_begin cX11_begin 4 4 (some .int) [.ref (Ω.2.2 0), .int x, .int n] M (fun ro M' => ro = some (.int (R_begin σ x n).1) ∧ IC M' (R_begin σ x n).2 ∧ FrM M M') := by
  have hL49 : Lk 49 := Lk49
  have hL57 : Lk 57 := Lk57
  have hR := hC.lake
  have hLv : Lv σ.v := hW.2.2.1
  have hw := hLv.wv
  have hn := hw.nums
  have hL65 : Lk 65 := Lk65
  refine ct_of (by decide) (Nat.le_of_ble_eq_true rfl) ?_
  intro p e R s m args below meth c
  refine x_aload_n dX11_begin_0 rfl ?_
  refine x_iload_n dX11_begin_1 rfl ?_
  refine q_X11_180 (c_isGoer hR hw) dX11_begin_2 rfl ?_
  rintro _ _ ⟨rfl, rfl⟩
  refine z_if_eq 18 dX11_begin_5 (fun h_5 => ?_) (fun h_5 => ?_)
  · refine x_ldc dX11_begin_18 k_X11_81 ?_
    refine x_iret dX11_begin_20 ?_
    unfold R_begin
    first
      | (rw [if_pos ⟨h_5, h_15⟩, tg, tn]
         refine ⟨rfl, ?_, hM1.up (by omega)⟩
         rw [← act_u]
         exact hC1.setLk (hR1.setStart hw hg) (Fr.rf.up (by omega)))
      | (rw [if_neg (by simp [*])]
         exact ⟨rfl, hC, FrM.rf⟩)
  · refine x_iload_n dX11_begin_8 rfl ?_
    refine y_iconst (a := 0) dX11_begin_9 rfl ?_
    refine x_bipush (v := nI 30) dX11_begin_10 rfl ?_
    refine q_X11_77 (c_within (by omega) (by omega)) dX11_begin_12 rfl ?_
    rintro _ _ ⟨rfl, rfl⟩
    refine z_if_ne 21 dX11_begin_15 (fun h_15 => ?_) (fun h_15 => ?_)
    · obtain ⟨g, hg, rfl⟩ := inR_nI h_5 (by omega)
      obtain ⟨hI, h999⟩ := hLv.goer hg
      have tg := tN_nI (g := g) (by omega)
      have hgo := hw.goer hg
      obtain ⟨n0, hn0, hn1, rfl⟩ := inB_nI h_15 (by omega)
      have tn := tN_nI (g := n0) (by omega)
      refine x_aload_n dX11_begin_21 rfl ?_
      refine g_X11_58 dX11_begin_22 ?_
      refine g_X11_183 dX11_begin_25 ?_
      refine x_iload_n dX11_begin_28 rfl ?_
      refine x_ial dX11_begin_29 (ArL (by assumption) (Or.inr ⟨by decide, by decide, rfl⟩)) (by omega) ?_
      rw [hR.start (by omega)]
      refine x_istore_n dX11_begin_30 ?_
      refine x_aload_n dX11_begin_31 rfl ?_
      refine q_X11_167 (c_keepAct hC hW) dX11_begin_32 rfl ?_
      rintro _ M1 ⟨rfl, hC1, hM1⟩
      have hR1 : LkR M1 49 σ.v := hC1.lake
      refine x_aload_n dX11_begin_35 rfl ?_
      refine g_X11_58 dX11_begin_36 ?_
      refine g_X11_183 dX11_begin_39 ?_
      refine x_iload_n dX11_begin_42 rfl ?_
      refine x_iload_n dX11_begin_43 rfl ?_
      refine x_ias dX11_begin_44 (ArL (by assumption) (Or.inr ⟨by decide, by decide, rfl⟩)) (by omega) ?_
      refine x_iload_n dX11_begin_45 rfl ?_
      refine x_iret dX11_begin_46 ?_
      unfold R_begin
      first
        | (rw [if_pos ⟨h_5, h_15⟩, tg, tn]
           refine ⟨rfl, ?_, hM1.up (by omega)⟩
           rw [← act_u]
           exact hC1.setLk (hR1.setStart hw hg) (Fr.rf.up (by omega)))
        | (rw [if_neg (by simp [*])]
           exact ⟨rfl, hC, FrM.rf⟩)
    · refine x_ldc dX11_begin_18 k_X11_81 ?_
      refine x_iret dX11_begin_20 ?_
      unfold R_begin
      first
        | (rw [if_pos ⟨h_5, h_15⟩, tg, tn]
           refine ⟨rfl, ?_, hM1.up (by omega)⟩
           rw [← act_u]
           exact hC1.setLk (hR1.setStart hw hg) (Fr.rf.up (by omega)))
        | (rw [if_neg (by simp [*])]
           exact ⟨rfl, hC, FrM.rf⟩)
set_option maxRecDepth 100000 in
set_option maxHeartbeats 4000000 in
theorem c_hold {Ω : Om} {l : Launch} {M : Mem} {σ : Sg} (hC : IC M σ) (hW : SgW σ) {x w : Int32} : Ct Ω l yX11_hold cX11_hold 3 4 (some .int) [.ref (Ω.2.2 0), .int x, .int w] M (fun ro M' => ro = some (.int (R_hold σ x w).1) ∧ IC M' (R_hold σ x w).2 ∧ FrM M M') := by
  have hL49 : Lk 49 := Lk49
  have hL57 : Lk 57 := Lk57
  have hR := hC.lake
  have hLv : Lv σ.v := hW.2.2.1
  have hw := hLv.wv
  have hn := hw.nums
  have hL65 : Lk 65 := Lk65
  refine ct_of (by decide) (Nat.le_of_ble_eq_true rfl) ?_
  intro p e R s m args below meth c
  refine x_aload_n dX11_hold_0 rfl ?_
  refine x_iload_n dX11_hold_1 rfl ?_
  refine q_X11_180 (c_isGoer hR hw) dX11_hold_2 rfl ?_
  rintro _ _ ⟨rfl, rfl⟩
  refine z_if_eq 17 dX11_hold_5 (fun h_5 => ?_) (fun h_5 => ?_)
  · refine x_ldc dX11_hold_17 k_X11_81 ?_
    refine x_iret dX11_hold_19 ?_
    unfold R_hold
    first
      | (rw [if_pos ⟨h_5, h_14⟩, tg]
         first
           | (rw [if_neg (by intro z; rw [z] at h_38; first | (obtain rfl : w0 = 1 := h_30; exact h_38 (by decide)) | (obtain rfl : w0 = 0 := (by omega); exact h_38 (by decide)))]
              refine ⟨rfl, ?_, hM1.up (by omega)⟩
              rw [← act_u]
              exact hC1.setLk hR1.setHeld (Fr.rf.up (by omega)))
           | (rw [if_pos (by first | (obtain rfl : w0 = 1 := h_30; revert h_38; cases hld σ.v g <;> decide) | (obtain rfl : w0 = 0 := (by omega); revert h_38; cases hld σ.v g <;> decide))]
              exact ⟨rfl, hC, FrM.rf⟩))
      | (rw [if_neg (by simp [*])]
         exact ⟨rfl, hC, FrM.rf⟩)
  · refine x_iload_n dX11_hold_8 rfl ?_
    refine y_iconst (a := 0) dX11_hold_9 rfl ?_
    refine y_iconst (a := 1) dX11_hold_10 rfl ?_
    refine q_X11_77 (c_within (by omega) (by omega)) dX11_hold_11 rfl ?_
    rintro _ _ ⟨rfl, rfl⟩
    refine z_if_ne 20 dX11_hold_14 (fun h_14 => ?_) (fun h_14 => ?_)
    · obtain ⟨g, hg, rfl⟩ := inR_nI h_5 (by omega)
      obtain ⟨hI, h999⟩ := hLv.goer hg
      have tg := tN_nI (g := g) (by omega)
      have hgo := hw.goer hg
      obtain ⟨w0, hw0, hw1, rfl⟩ := inB_nI h_14 (by omega)
      refine x_aload_n dX11_hold_20 rfl ?_
      refine g_X11_58 dX11_hold_21 ?_
      refine x_iload_n dX11_hold_24 rfl ?_
      refine q_X11_186 (c_isHeld Lk49 hR hw hg) dX11_hold_25 rfl ?_
      rintro _ _ ⟨rfl, rfl⟩
      refine x_iload_n dX11_hold_28 rfl ?_
      refine y_iconst (a := 1) dX11_hold_29 rfl ?_
      refine y_icmp_ne 37 dX11_hold_30 (by omega) (by omega) (fun h_30 => ?_) (fun h_30 => ?_)
      · refine y_iconst (a := 0) dX11_hold_37 rfl ?_
        refine x_icmp_ne 44 dX11_hold_38 (fun h_38 => ?_) (fun h_38 => ?_)
        · refine x_aload_n dX11_hold_44 rfl ?_
          refine q_X11_167 (c_keepAct hC hW) dX11_hold_45 rfl ?_
          rintro _ M1 ⟨rfl, hC1, hM1⟩
          have hR1 : LkR M1 49 σ.v := hC1.lake
          refine x_aload_n dX11_hold_48 rfl ?_
          refine g_X11_58 dX11_hold_49 ?_
          refine x_dup dX11_hold_52 rfl ?_
          refine g_X11_189 dX11_hold_53 ?_
          rw [hR1.held]
          refine y_iconst (a := 1) dX11_hold_56 rfl ?_
          refine x_iload_n dX11_hold_57 rfl ?_
          refine y_ishl dX11_hold_58 (by omega) ?_
          try rw [Nat.one_mul]
          refine y_ixor dX11_hold_59 ?_
          refine p_X11_189 dX11_hold_60 ?_
          refine x_aload_n dX11_hold_63 rfl ?_
          refine g_X11_58 dX11_hold_64 ?_
          refine g_X11_189 dX11_hold_67 ?_
          rw [up1_at, if_pos ⟨rfl, rfl⟩]
          refine x_iret dX11_hold_70 ?_
          unfold R_hold
          first
            | (rw [if_pos ⟨h_5, h_14⟩, tg]
               first
                 | (rw [if_neg (by intro z; rw [z] at h_38; first | (obtain rfl : w0 = 1 := h_30; exact h_38 (by decide)) | (obtain rfl : w0 = 0 := (by omega); exact h_38 (by decide)))]
                    refine ⟨rfl, ?_, hM1.up (by omega)⟩
                    rw [← act_u]
                    exact hC1.setLk hR1.setHeld (Fr.rf.up (by omega)))
                 | (rw [if_pos (by first | (obtain rfl : w0 = 1 := h_30; revert h_38; cases hld σ.v g <;> decide) | (obtain rfl : w0 = 0 := (by omega); revert h_38; cases hld σ.v g <;> decide))]
                    exact ⟨rfl, hC, FrM.rf⟩))
            | (rw [if_neg (by simp [*])]
               exact ⟨rfl, hC, FrM.rf⟩)
        · refine x_ldc dX11_hold_41 k_X11_154 ?_
          refine x_iret dX11_hold_43 ?_
          unfold R_hold
          first
            | (rw [if_pos ⟨h_5, h_14⟩, tg]
               first
                 | (rw [if_neg (by intro z; rw [z] at h_38; first | (obtain rfl : w0 = 1 := h_30; exact h_38 (by decide)) | (obtain rfl : w0 = 0 := (by omega); exact h_38 (by decide)))]
                    refine ⟨rfl, ?_, hM1.up (by omega)⟩
                    rw [← act_u]
                    exact hC1.setLk hR1.setHeld (Fr.rf.up (by omega)))
                 | (rw [if_pos (by first | (obtain rfl : w0 = 1 := h_30; revert h_38; cases hld σ.v g <;> decide) | (obtain rfl : w0 = 0 := (by omega); revert h_38; cases hld σ.v g <;> decide))]
                    exact ⟨rfl, hC, FrM.rf⟩))
            | (rw [if_neg (by simp [*])]
               exact ⟨rfl, hC, FrM.rf⟩)
      · refine y_iconst (a := 1) dX11_hold_33 rfl ?_
        refine x_goto 38 dX11_hold_34 ?_
        refine x_icmp_ne 44 dX11_hold_38 (fun h_38 => ?_) (fun h_38 => ?_)
        · refine x_aload_n dX11_hold_44 rfl ?_
          refine q_X11_167 (c_keepAct hC hW) dX11_hold_45 rfl ?_
          rintro _ M1 ⟨rfl, hC1, hM1⟩
          have hR1 : LkR M1 49 σ.v := hC1.lake
          refine x_aload_n dX11_hold_48 rfl ?_
          refine g_X11_58 dX11_hold_49 ?_
          refine x_dup dX11_hold_52 rfl ?_
          refine g_X11_189 dX11_hold_53 ?_
          rw [hR1.held]
          refine y_iconst (a := 1) dX11_hold_56 rfl ?_
          refine x_iload_n dX11_hold_57 rfl ?_
          refine y_ishl dX11_hold_58 (by omega) ?_
          try rw [Nat.one_mul]
          refine y_ixor dX11_hold_59 ?_
          refine p_X11_189 dX11_hold_60 ?_
          refine x_aload_n dX11_hold_63 rfl ?_
          refine g_X11_58 dX11_hold_64 ?_
          refine g_X11_189 dX11_hold_67 ?_
          rw [up1_at, if_pos ⟨rfl, rfl⟩]
          refine x_iret dX11_hold_70 ?_
          unfold R_hold
          first
            | (rw [if_pos ⟨h_5, h_14⟩, tg]
               first
                 | (rw [if_neg (by intro z; rw [z] at h_38; first | (obtain rfl : w0 = 1 := h_30; exact h_38 (by decide)) | (obtain rfl : w0 = 0 := (by omega); exact h_38 (by decide)))]
                    refine ⟨rfl, ?_, hM1.up (by omega)⟩
                    rw [← act_u]
                    exact hC1.setLk hR1.setHeld (Fr.rf.up (by omega)))
                 | (rw [if_pos (by first | (obtain rfl : w0 = 1 := h_30; revert h_38; cases hld σ.v g <;> decide) | (obtain rfl : w0 = 0 := (by omega); revert h_38; cases hld σ.v g <;> decide))]
                    exact ⟨rfl, hC, FrM.rf⟩))
            | (rw [if_neg (by simp [*])]
               exact ⟨rfl, hC, FrM.rf⟩)
        · refine x_ldc dX11_hold_41 k_X11_154 ?_
          refine x_iret dX11_hold_43 ?_
          unfold R_hold
          first
            | (rw [if_pos ⟨h_5, h_14⟩, tg]
               first
                 | (rw [if_neg (by intro z; rw [z] at h_38; first | (obtain rfl : w0 = 1 := h_30; exact h_38 (by decide)) | (obtain rfl : w0 = 0 := (by omega); exact h_38 (by decide)))]
                    refine ⟨rfl, ?_, hM1.up (by omega)⟩
                    rw [← act_u]
                    exact hC1.setLk hR1.setHeld (Fr.rf.up (by omega)))
                 | (rw [if_pos (by first | (obtain rfl : w0 = 1 := h_30; revert h_38; cases hld σ.v g <;> decide) | (obtain rfl : w0 = 0 := (by omega); revert h_38; cases hld σ.v g <;> decide))]
                    exact ⟨rfl, hC, FrM.rf⟩))
            | (rw [if_neg (by simp [*])]
               exact ⟨rfl, hC, FrM.rf⟩)
    · refine x_ldc dX11_hold_17 k_X11_81 ?_
      refine x_iret dX11_hold_19 ?_
      unfold R_hold
      first
        | (rw [if_pos ⟨h_5, h_14⟩, tg]
           first
             | (rw [if_neg (by intro z; rw [z] at h_38; first | (obtain rfl : w0 = 1 := h_30; exact h_38 (by decide)) | (obtain rfl : w0 = 0 := (by omega); exact h_38 (by decide)))]
                refine ⟨rfl, ?_, hM1.up (by omega)⟩
                rw [← act_u]
                exact hC1.setLk hR1.setHeld (Fr.rf.up (by omega)))
             | (rw [if_pos (by first | (obtain rfl : w0 = 1 := h_30; revert h_38; cases hld σ.v g <;> decide) | (obtain rfl : w0 = 0 := (by omega); revert h_38; cases hld σ.v g <;> decide))]
                exact ⟨rfl, hC, FrM.rf⟩))
        | (rw [if_neg (by simp [*])]
           exact ⟨rfl, hC, FrM.rf⟩)
set_option maxRecDepth 100000 in
set_option maxHeartbeats 4000000 in
theorem c_mend {Ω : Om} {l : Launch} {M : Mem} {σ : Sg} (hC : IC M σ) (hW : SgW σ) {x : Int32} : Ct Ω l yX11_mend cX11_mend 3 4 (some .int) [.ref (Ω.2.2 0), .int x] M (fun ro M' => ro = some (.int (R_mend σ x).1) ∧ IC M' (R_mend σ x).2 ∧ FrM M M') := by
  have hL49 : Lk 49 := Lk49
  have hL57 : Lk 57 := Lk57
  have hR := hC.lake
  have hLv : Lv σ.v := hW.2.2.1
  have hw := hLv.wv
  have hn := hw.nums
  have hL65 : Lk 65 := Lk65
  refine ct_of (by decide) (Nat.le_of_ble_eq_true rfl) ?_
  intro p e R s m args below meth c
  refine x_aload_n dX11_mend_0 rfl ?_
  refine x_iload_n dX11_mend_1 rfl ?_
  refine q_X11_192 (c_isRung hR hw) dX11_mend_2 rfl ?_
  rintro _ _ ⟨rfl, rfl⟩
  refine z_if_ne 11 dX11_mend_5 (fun h_5 => ?_) (fun h_5 => ?_)
  · obtain ⟨r, hr, rfl⟩ := inR_nI h_5 (by omega)
    obtain ⟨hI, h999⟩ := hLv.rung hr
    have tr := tN_nI (g := r) (by omega)
    have hst := hw.str (p := r + 1) (by omega)
    refine x_aload_n dX11_mend_11 rfl ?_
    refine g_X11_58 dX11_mend_12 ?_
    refine g_X11_195 dX11_mend_15 ?_
    refine x_iload_n dX11_mend_18 rfl ?_
    refine y_iconst (a := 1) dX11_mend_19 rfl ?_
    refine y_iadd dX11_mend_20 ?_
    refine x_ial dX11_mend_21 (ArL (by assumption) (Or.inl ⟨by decide, by decide, rfl⟩)) (by omega) ?_
    rw [hR.strength (by omega)]
    refine x_istore_n dX11_mend_22 ?_
    refine x_aload_n dX11_mend_23 rfl ?_
    refine q_X11_167 (c_keepAct hC hW) dX11_mend_24 rfl ?_
    rintro _ M1 ⟨rfl, hC1, hM1⟩
    have hR1 : LkR M1 49 σ.v := hC1.lake
    refine x_aload_n dX11_mend_27 rfl ?_
    refine g_X11_58 dX11_mend_28 ?_
    refine g_X11_195 dX11_mend_31 ?_
    refine x_iload_n dX11_mend_34 rfl ?_
    refine y_iconst (a := 1) dX11_mend_35 rfl ?_
    refine y_iadd dX11_mend_36 ?_
    refine x_bipush (v := nI 99) dX11_mend_37 rfl ?_
    refine x_ias dX11_mend_39 (ArL (by assumption) (Or.inl ⟨by decide, by decide, rfl⟩)) (by omega) ?_
    refine x_iload_n dX11_mend_40 rfl ?_
    refine x_iret dX11_mend_41 ?_
    unfold R_mend
    first
      | (rw [if_neg (by rw [h_5]; decide)]
         exact ⟨rfl, hC, FrM.rf⟩)
      | (rw [if_pos h_5, tr]
         refine ⟨by rw [show 5 + (r + 1) = 6 + r by omega], ?_, hM1.up (by omega)⟩
         rw [← act_u, show 6 + r = 5 + (r + 1) by omega]
         exact hC1.setLk (hR1.setStrength hw (by omega)) (Fr.rf.up (by omega)))
  · refine x_ldc dX11_mend_8 k_X11_81 ?_
    refine x_iret dX11_mend_10 ?_
    unfold R_mend
    first
      | (rw [if_neg (by rw [h_5]; decide)]
         exact ⟨rfl, hC, FrM.rf⟩)
      | (rw [if_pos h_5, tr]
         refine ⟨by rw [show 5 + (r + 1) = 6 + r by omega], ?_, hM1.up (by omega)⟩
         rw [← act_u, show 6 + r = 5 + (r + 1) by omega]
         exact hC1.setLk (hR1.setStrength hw (by omega)) (Fr.rf.up (by omega)))
set_option maxRecDepth 100000 in
set_option maxHeartbeats 4000000 in
theorem c_takeOut {Ω : Om} {l : Launch} {M : Mem} {σ : Sg} (hC : IC M σ) (hW : SgW σ) {x : Int32} : Ct Ω l yX11_takeOut cX11_takeOut 2 4 (some .int) [.ref (Ω.2.2 0), .int x] M (fun ro M' => ro = some (.int (R_takeOut σ x).1) ∧ IC M' (R_takeOut σ x).2 ∧ FrM M M') := by
  have hL49 : Lk 49 := Lk49
  have hL57 : Lk 57 := Lk57
  have hR := hC.lake
  have hLv : Lv σ.v := hW.2.2.1
  have hw := hLv.wv
  have hn := hw.nums
  have hL65 : Lk 65 := Lk65
  refine ct_of (by decide) (Nat.le_of_ble_eq_true rfl) ?_
  intro p e R s m args below meth c
  refine x_aload_n dX11_takeOut_0 rfl ?_
  refine x_iload_n dX11_takeOut_1 rfl ?_
  refine q_X11_192 (c_isRung hR hw) dX11_takeOut_2 rfl ?_
  rintro _ _ ⟨rfl, rfl⟩
  refine z_if_ne 11 dX11_takeOut_5 (fun h_5 => ?_) (fun h_5 => ?_)
  · obtain ⟨r, hr, rfl⟩ := inR_nI h_5 (by omega)
    obtain ⟨hI, h999⟩ := hLv.rung hr
    have tr := tN_nI (g := r) (by omega)
    have hst := hw.str (p := r + 1) (by omega)
    have hbr : brk σ.v (r + 1) = decide (σ.v (6 + r) = 0) := by unfold brk; rw [show 5 + (r + 1) = 6 + r by omega]; simp; omega
    refine x_aload_n dX11_takeOut_11 rfl ?_
    refine g_X11_58 dX11_takeOut_12 ?_
    refine x_iload_n dX11_takeOut_15 rfl ?_
    refine y_iconst (a := 1) dX11_takeOut_16 rfl ?_
    refine y_iadd dX11_takeOut_17 ?_
    refine q_X11_198 (c_isBroken Lk49 hR hw (by omega)) dX11_takeOut_18 rfl ?_
    rintro _ _ ⟨rfl, rfl⟩
    rw [hbr]
    refine z_if_eq 27 dX11_takeOut_21 (fun h_21 => ?_) (fun h_21 => ?_)
    · refine x_aload_n dX11_takeOut_27 rfl ?_
      refine q_X11_167 (c_keepAct hC hW) dX11_takeOut_28 rfl ?_
      rintro _ M1 ⟨rfl, hC1, hM1⟩
      have hR1 : LkR M1 49 σ.v := hC1.lake
      refine x_aload_n dX11_takeOut_31 rfl ?_
      refine g_X11_58 dX11_takeOut_32 ?_
      refine x_iload_n dX11_takeOut_35 rfl ?_
      refine y_iconst (a := 1) dX11_takeOut_36 rfl ?_
      refine y_iadd dX11_takeOut_37 ?_
      refine q_X11_201 (c_breakAt Lk49 hR1 hw (by omega)) dX11_takeOut_38 rfl ?_
      rintro _ M2 ⟨rfl, hR2, hF2, -⟩
      refine x_iret dX11_takeOut_41 ?_
      unfold R_takeOut
      first
        | (rw [if_neg (by rw [h_5]; decide)]
           exact ⟨rfl, hC, FrM.rf⟩)
        | (rw [if_pos h_5, tr]
           first
             | (rw [if_neg (by simpa using h_21)]
                refine ⟨rfl, ?_, hM1.tr (FrM.fr hF2 (by omega))⟩
                rw [← act_u]
                exact hC1.setLk hR2 hF2)
             | (rw [if_pos (by simpa using h_21)]
                exact ⟨rfl, hC, FrM.rf⟩))
    · refine x_ldc dX11_takeOut_24 k_X11_154 ?_
      refine x_iret dX11_takeOut_26 ?_
      unfold R_takeOut
      first
        | (rw [if_neg (by rw [h_5]; decide)]
           exact ⟨rfl, hC, FrM.rf⟩)
        | (rw [if_pos h_5, tr]
           first
             | (rw [if_neg (by simpa using h_21)]
                refine ⟨rfl, ?_, hM1.tr (FrM.fr hF2 (by omega))⟩
                rw [← act_u]
                exact hC1.setLk hR2 hF2)
             | (rw [if_pos (by simpa using h_21)]
                exact ⟨rfl, hC, FrM.rf⟩))
  · refine x_ldc dX11_takeOut_8 k_X11_81 ?_
    refine x_iret dX11_takeOut_10 ?_
    unfold R_takeOut
    first
      | (rw [if_neg (by rw [h_5]; decide)]
         exact ⟨rfl, hC, FrM.rf⟩)
      | (rw [if_pos h_5, tr]
         first
           | (rw [if_neg (by simpa using h_21)]
              refine ⟨rfl, ?_, hM1.tr (FrM.fr hF2 (by omega))⟩
              rw [← act_u]
              exact hC1.setLk hR2 hF2)
           | (rw [if_pos (by simpa using h_21)]
              exact ⟨rfl, hC, FrM.rf⟩))
set_option maxRecDepth 100000 in
set_option maxHeartbeats 4000000 in
theorem c_undo {Ω : Om} {l : Launch} {M : Mem} {σ : Sg} (hC : IC M σ) (hW : SgW σ)  : Ct Ω l yX11_undo cX11_undo 1 3 (some .int) [.ref (Ω.2.2 0)] M (fun ro M' => ro = some (.int (R_undo σ).1) ∧ IC M' (R_undo σ).2 ∧ FrM M M') := by
  have hL49 : Lk 49 := Lk49
  have hL57 : Lk 57 := Lk57
  have hR := hC.lake
  have hLv : Lv σ.v := hW.2.2.1
  have hw := hLv.wv
  have hn := hw.nums
  have hL65 : Lk 65 := Lk65
  obtain ⟨o, ho, ha1, ha2, ha3⟩ := hC.acts
  have ham : σ.am ≤ 24 := hW.2.2.2.1
  refine ct_of (by decide) (Nat.le_of_ble_eq_true rfl) ?_
  intro p e R s m args below meth c
  refine x_aload_n dX11_undo_0 rfl ?_
  refine g_X11_151 dX11_undo_1 ?_
  rw [ha2]
  refine y_if_gt 10 dX11_undo_4 (by omega) (fun h_4 => ?_) (fun h_4 => ?_)
  · refine x_aload_n dX11_undo_10 rfl ?_
    refine x_dup dX11_undo_11 rfl ?_
    refine g_X11_151 dX11_undo_12 ?_
    rw [ha2]
    refine y_iconst (a := 1) dX11_undo_15 rfl ?_
    refine y_isub dX11_undo_16 (by omega) ?_
    refine p_X11_151 dX11_undo_17 ?_
    refine x_aload_n dX11_undo_20 rfl ?_
    refine g_X11_58 dX11_undo_21 ?_
    refine x_aload_n dX11_undo_24 rfl ?_
    refine g_X11_24 dX11_undo_25 ?_
    refine x_aload_n dX11_undo_28 rfl ?_
    refine g_X11_155 dX11_undo_29 ?_
    rw [up1_at, if_neg (by omega), ha1]
    refine x_aload_n dX11_undo_32 rfl ?_
    refine g_X11_151 dX11_undo_33 ?_
    rw [up1_at, if_pos ⟨rfl, rfl⟩]
    refine y_iadd dX11_undo_36 ?_
    refine x_bipush (v := nI 24) dX11_undo_37 rfl ?_
    refine y_irem dX11_undo_39 (by omega) (by omega) (by omega) ?_
    have hmod : (o + (σ.am - 1)) % 24 < 24 := Nat.mod_lt _ (by decide)
    refine x_acts hmod dX11_undo_40 ?_
    have hRa := (ha3 (σ.am - 1) (by omega)).same (M' := up1 M 0 9 (nI (σ.am - 1))) (fun k hk => up1_ne _ _ _ (by omega))
    have hIa := (hW.2.2.2.2.1 (σ.am - 1) (by omega)).2
    refine q_X11_158 (c_become Lk49 (Lk81 hmod) (by omega) hRa hIa.1) dX11_undo_41 rfl ?_
    rintro _ M1 ⟨rfl, hR1, hF1⟩
    have e0 := hF1.2 0 (by omega)
    refine x_aload_n dX11_undo_44 rfl ?_
    refine g_X11_151 dX11_undo_45 ?_
    rw [e0, up1_at, if_pos ⟨rfl, rfl⟩]
    refine x_iret dX11_undo_48 ?_
    unfold R_undo
    first
      | (rw [if_neg (by omega)]
         refine ⟨rfl, hC.setLake hR1 ⟨o, ho, by rw [e0, up1_at, if_neg (by omega)]; exact ha1, by rw [e0, up1_at, if_pos ⟨rfl, rfl⟩]; rfl, fun i hi => ?_⟩ (fun k k1 k2 => by rw [e0, up1_at, if_neg (by omega)]) (fun d d1 d2 d3 => by rw [hF1.2 d (by omega), up1_ne _ _ _ d1]), (FrM.rf.up (by omega)).tr (FrM.fr hF1 (by omega))⟩
         have hi2 : i < σ.am - 1 := hi
         have him : (o + i) % 24 < 24 := Nat.mod_lt _ (by decide)
         exact (ha3 i (by omega)).same (fun k hk => by rw [hF1.2 _ (by omega), up1_ne _ _ _ (by omega)]))
      | (rw [if_pos (by omega)]
         exact ⟨rfl, hC, FrM.rf⟩)
  · refine x_ldc dX11_undo_7 k_X11_154 ?_
    refine x_iret dX11_undo_9 ?_
    unfold R_undo
    first
      | (rw [if_neg (by omega)]
         refine ⟨rfl, hC.setLake hR1 ⟨o, ho, by rw [e0, up1_at, if_neg (by omega)]; exact ha1, by rw [e0, up1_at, if_pos ⟨rfl, rfl⟩]; rfl, fun i hi => ?_⟩ (fun k k1 k2 => by rw [e0, up1_at, if_neg (by omega)]) (fun d d1 d2 d3 => by rw [hF1.2 d (by omega), up1_ne _ _ _ d1]), (FrM.rf.up (by omega)).tr (FrM.fr hF1 (by omega))⟩
         have hi2 : i < σ.am - 1 := hi
         have him : (o + i) % 24 < 24 := Nat.mod_lt _ (by decide)
         exact (ha3 i (by omega)).same (fun k hk => by rw [hF1.2 _ (by omega), up1_ne _ _ _ (by omega)]))
      | (rw [if_pos (by omega)]
         exact ⟨rfl, hC, FrM.rf⟩)
theorem bit01 : ∀ k, k < 4 → ∀ w, w < 2 → k ||| 2 ^ w < 4 ∧ ∀ i, i < 2 → (k ||| 2 ^ w).testBit i = (k.testBit i || decide (w = i)) := by decide +kernel
theorem IC.setIm {M M' : Mem} {σ : Sg} (h : IC M σ) {f : Nat → Option (Nat → Nat)} (hr : ImgC M' (σ.uIm f)) (e0 : ∀ k, k ≠ 10 → M'.1 0 k = M.1 0 k) (e : ∀ d, d ≠ 0 → ¬ (273 ≤ d ∧ d < 289) → M'.1 d = M.1 d) : IC M' (σ.uIm f) := by
  obtain ⟨h1, h2, h3, h4, h5, h6, h7, h8, h9⟩ := h
  have e14 := e 14 (by omega) (by omega)
  exact ⟨RowsC.keep (σ := σ) h1 (fun c a b => e c (by omega) (by omega)), (e0 12 (by decide)).trans h2, TapeC.keep (σ := σ) h3 (fun c a b => e c (by omega) (by omega)), (e0 11 (by decide)).trans h4, h5.same (fun k hk => e _ (by omega) (by omega)), ActsC.keep (σ := σ) h6 (e0 8 (by decide)) (e0 9 (by decide)) (fun c a b => e c (by omega) (by omega)), hr, TrC.keep (σ := σ) h8 (fun c a b => e c (by omega) (by omega)), h9.keep (by rw [e14]) (by rw [e14]) (by rw [e14]) (e 16 (by omega) (by omega)) (fun c a b => e c (by omega) (by omega))⟩
set_option maxRecDepth 100000 in
set_option maxHeartbeats 4000000 in
theorem c_image {Ω : Om} {l : Launch} {M : Mem} {σ : Sg} (hC : IC M σ) (hW : SgW σ) {x : Int32} : Ct Ω l yX11_image cX11_image 2 3 (some .int) [.ref (Ω.2.2 0), .int x] M (fun ro M' => ro = some (.int (R_image σ x).1) ∧ IC M' (R_image σ x).2 ∧ FrM M M') := by
  have hL49 : Lk 49 := Lk49
  have hL57 : Lk 57 := Lk57
  have hR := hC.lake
  have hLv : Lv σ.v := hW.2.2.1
  have hw := hLv.wv
  have hn := hw.nums
  have hL65 : Lk 65 := Lk65
  obtain ⟨ki, hk1, hk2, hk3⟩ := hC.img
  refine ct_of (by decide) (Nat.le_of_ble_eq_true rfl) ?_
  intro p e R s m args below meth c
  refine x_iload_n dX11_image_0 rfl ?_
  refine y_iconst (a := 0) dX11_image_1 rfl ?_
  refine y_iconst (a := 1) dX11_image_2 rfl ?_
  refine q_X11_77 (c_within (by omega) (by omega)) dX11_image_3 rfl ?_
  rintro _ _ ⟨rfl, rfl⟩
  refine z_if_ne 12 dX11_image_6 (fun h_6 => ?_) (fun h_6 => ?_)
  · obtain ⟨w0, hw0, hw1, rfl⟩ := inB_nI h_6 (by omega)
    have tw := tN_nI (g := w0) (by omega)
    refine x_aload_n dX11_image_12 rfl ?_
    refine q_X11_161 (c_hasNoLake hR hw) dX11_image_13 rfl ?_
    rintro _ _ ⟨rfl, rfl⟩
    refine z_if_eq 22 dX11_image_16 (fun h_16 => ?_) (fun h_16 => ?_)
    · refine x_aload_n dX11_image_22 rfl ?_
      refine g_X11_28 dX11_image_23 ?_
      refine x_iload_n dX11_image_26 rfl ?_
      refine x_imgs (by omega) dX11_image_27 ?_
      have hlw := Lk273 (k := w0) (by omega)
      refine x_aload_n dX11_image_28 rfl ?_
      refine g_X11_58 dX11_image_29 ?_
      refine q_X11_158 (c_become hlw Lk49 (by omega) hR hw) dX11_image_32 rfl ?_
      rintro _ M1 ⟨rfl, hR1, hF1⟩
      have e0 : M1.1 0 = M.1 0 := hF1.2 0 (by omega)
      refine x_aload_n dX11_image_35 rfl ?_
      refine x_dup dX11_image_36 rfl ?_
      refine g_X11_320 dX11_image_37 ?_
      rw [e0, hk2]
      refine y_iconst (a := 1) dX11_image_40 rfl ?_
      refine x_iload_n dX11_image_41 rfl ?_
      refine y_ishl dX11_image_42 (by omega) ?_
      try rw [Nat.one_mul]
      refine y_ior dX11_image_43 ?_
      refine p_X11_320 dX11_image_44 ?_
      refine y_iconst (a := 1) dX11_image_47 rfl ?_
      refine x_iret dX11_image_48 ?_
      unfold R_image
      first
        | (rw [if_neg (by rw [h_6]; decide)]
           exact ⟨rfl, hC, FrM.rf⟩)
        | (rw [if_pos h_6, tw]
           first
             | (rw [if_neg (by simpa using h_16)]
                obtain ⟨b1, b2⟩ := bit01 ki hk1 w0 (by omega)
                refine ⟨rfl, hC.setIm ⟨ki ||| 2 ^ w0, b1, by rw [up1_at, if_pos ⟨rfl, rfl⟩], fun i hi => ⟨?_, fun w hw2 => ?_⟩⟩ (fun k k1 => by rw [up1_at, if_neg (by omega), e0]) (fun d d1 d2 => by rw [up1_ne _ _ _ d1]; exact hF1.2 d (by omega)), (FrM.fr hF1 (by omega)).up (by omega)⟩
                · rw [b2 i hi, (hk3 i hi).1]
                  show _ = (if i = w0 then some σ.v else σ.im i).isSome
                  by_cases e1 : i = w0
                  · simp [e1]
                  · rw [if_neg e1, decide_eq_false (fun z => e1 z.symm), Bool.or_false]
                · have hw3 : (if i = w0 then some σ.v else σ.im i) = some w := hw2
                  by_cases e1 : i = w0
                  · rw [if_pos e1] at hw3
                    cases hw3
                    subst e1
                    exact hR1.same (fun k hk => up1_ne _ _ _ (by omega))
                  · rw [if_neg e1] at hw3
                    exact ((hk3 i hi).2 w hw3).same (fun k hk => by rw [up1_ne _ _ _ (by omega)]; exact hF1.2 _ (by omega)))
             | (rw [if_pos (by simpa using h_16)]
                exact ⟨rfl, hC, FrM.rf⟩))
    · refine x_ldc dX11_image_19 k_X11_154 ?_
      refine x_iret dX11_image_21 ?_
      unfold R_image
      first
        | (rw [if_neg (by rw [h_6]; decide)]
           exact ⟨rfl, hC, FrM.rf⟩)
        | (rw [if_pos h_6, tw]
           first
             | (rw [if_neg (by simpa using h_16)]
                obtain ⟨b1, b2⟩ := bit01 ki hk1 w0 (by omega)
                refine ⟨rfl, hC.setIm ⟨ki ||| 2 ^ w0, b1, by rw [up1_at, if_pos ⟨rfl, rfl⟩], fun i hi => ⟨?_, fun w hw2 => ?_⟩⟩ (fun k k1 => by rw [up1_at, if_neg (by omega), e0]) (fun d d1 d2 => by rw [up1_ne _ _ _ d1]; exact hF1.2 d (by omega)), (FrM.fr hF1 (by omega)).up (by omega)⟩
                · rw [b2 i hi, (hk3 i hi).1]
                  show _ = (if i = w0 then some σ.v else σ.im i).isSome
                  by_cases e1 : i = w0
                  · simp [e1]
                  · rw [if_neg e1, decide_eq_false (fun z => e1 z.symm), Bool.or_false]
                · have hw3 : (if i = w0 then some σ.v else σ.im i) = some w := hw2
                  by_cases e1 : i = w0
                  · rw [if_pos e1] at hw3
                    cases hw3
                    subst e1
                    exact hR1.same (fun k hk => up1_ne _ _ _ (by omega))
                  · rw [if_neg e1] at hw3
                    exact ((hk3 i hi).2 w hw3).same (fun k hk => by rw [up1_ne _ _ _ (by omega)]; exact hF1.2 _ (by omega)))
             | (rw [if_pos (by simpa using h_16)]
                exact ⟨rfl, hC, FrM.rf⟩))
  · refine x_ldc dX11_image_9 k_X11_81 ?_
    refine x_iret dX11_image_11 ?_
    unfold R_image
    first
      | (rw [if_neg (by rw [h_6]; decide)]
         exact ⟨rfl, hC, FrM.rf⟩)
      | (rw [if_pos h_6, tw]
         first
           | (rw [if_neg (by simpa using h_16)]
              obtain ⟨b1, b2⟩ := bit01 ki hk1 w0 (by omega)
              refine ⟨rfl, hC.setIm ⟨ki ||| 2 ^ w0, b1, by rw [up1_at, if_pos ⟨rfl, rfl⟩], fun i hi => ⟨?_, fun w hw2 => ?_⟩⟩ (fun k k1 => by rw [up1_at, if_neg (by omega), e0]) (fun d d1 d2 => by rw [up1_ne _ _ _ d1]; exact hF1.2 d (by omega)), (FrM.fr hF1 (by omega)).up (by omega)⟩
              · rw [b2 i hi, (hk3 i hi).1]
                show _ = (if i = w0 then some σ.v else σ.im i).isSome
                by_cases e1 : i = w0
                · simp [e1]
                · rw [if_neg e1, decide_eq_false (fun z => e1 z.symm), Bool.or_false]
              · have hw3 : (if i = w0 then some σ.v else σ.im i) = some w := hw2
                by_cases e1 : i = w0
                · rw [if_pos e1] at hw3
                  cases hw3
                  subst e1
                  exact hR1.same (fun k hk => up1_ne _ _ _ (by omega))
                · rw [if_neg e1] at hw3
                  exact ((hk3 i hi).2 w hw3).same (fun k hk => by rw [up1_ne _ _ _ (by omega)]; exact hF1.2 _ (by omega)))
           | (rw [if_pos (by simpa using h_16)]
              exact ⟨rfl, hC, FrM.rf⟩))
set_option maxRecDepth 100000 in
set_option maxHeartbeats 4000000 in
theorem c_restore {Ω : Om} {l : Launch} {M : Mem} {σ : Sg} (hC : IC M σ) (hW : SgW σ) {x : Int32} : Ct Ω l yX11_restore cX11_restore 2 4 (some .int) [.ref (Ω.2.2 0), .int x] M (fun ro M' => ro = some (.int (R_restore σ x).1) ∧ IC M' (R_restore σ x).2 ∧ FrM M M') := by
  have hL49 : Lk 49 := Lk49
  have hL57 : Lk 57 := Lk57
  have hR := hC.lake
  have hLv : Lv σ.v := hW.2.2.1
  have hw := hLv.wv
  have hn := hw.nums
  have hL65 : Lk 65 := Lk65
  obtain ⟨ki, hk1, hk2, hk3⟩ := hC.img
  refine ct_of (by decide) (Nat.le_of_ble_eq_true rfl) ?_
  intro p e R s m args below meth c
  refine x_iload_n dX11_restore_0 rfl ?_
  refine y_iconst (a := 0) dX11_restore_1 rfl ?_
  refine y_iconst (a := 1) dX11_restore_2 rfl ?_
  refine q_X11_77 (c_within (by omega) (by omega)) dX11_restore_3 rfl ?_
  rintro _ _ ⟨rfl, rfl⟩
  refine z_if_ne 12 dX11_restore_6 (fun h_6 => ?_) (fun h_6 => ?_)
  · obtain ⟨w0, hw0, hw1, rfl⟩ := inB_nI h_6 (by omega)
    have tw := tN_nI (g := w0) (by omega)
    refine x_aload_n dX11_restore_12 rfl ?_
    refine g_X11_320 dX11_restore_13 ?_
    rw [hk2]
    refine x_iload_n dX11_restore_16 rfl ?_
    refine y_ishr dX11_restore_17 (by omega) (by omega) ?_
    refine y_iconst (a := 1) dX11_restore_18 rfl ?_
    refine y_iand dX11_restore_19 ?_
    rw [and1]
    have hb1 := (hk3 w0 (by omega)).1
    have hb2 : (if ki.testBit w0 = true then 1 else 0) < 2 ^ 31 := by split <;> decide
    refine y_if_ne 26 dX11_restore_20 (by omega) (fun h_20 => ?_) (fun h_20 => ?_)
    · have hs : (σ.im w0).isSome = true := by rw [← hb1]; revert h_20; cases ki.testBit w0 <;> simp
      obtain ⟨w, hwm⟩ := Option.isSome_iff_exists.mp hs
      have hRb := (hk3 w0 (by omega)).2 w hwm
      have hIb := hW.2.2.2.2.2.1 w0 w (by omega) hwm
      refine x_aload_n dX11_restore_26 rfl ?_
      refine x_aload_n dX11_restore_27 rfl ?_
      refine g_X11_28 dX11_restore_28 ?_
      refine x_iload_n dX11_restore_31 rfl ?_
      refine x_imgs (by omega) dX11_restore_32 ?_
      have hlw := Lk273 (k := w0) (by omega)
      refine q_X11_144 (c_putLake hC hW hlw (by omega) hRb hIb.1.1) dX11_restore_33 rfl ?_
      rintro _ M1 ⟨rfl, hC1, hM1⟩
      refine y_iconst (a := 1) dX11_restore_36 rfl ?_
      refine x_iret dX11_restore_37 ?_
      unfold R_restore
      first
        | (rw [if_neg (by rw [h_6]; decide)]
           exact ⟨rfl, hC, FrM.rf⟩)
        | (rw [if_pos h_6, tw]
           first
             | (rw [hwm]
                exact ⟨rfl, hC1, hM1⟩)
             | (have hs : (σ.im w0).isSome = false := by rw [← hb1]; revert h_20; cases ki.testBit w0 <;> simp
                rw [Option.not_isSome_iff_eq_none.mp (show ¬ (σ.im w0).isSome = true by rw [hs]; decide)]
                exact ⟨rfl, hC, FrM.rf⟩))
    · refine x_ldc dX11_restore_23 k_X11_154 ?_
      refine x_iret dX11_restore_25 ?_
      unfold R_restore
      first
        | (rw [if_neg (by rw [h_6]; decide)]
           exact ⟨rfl, hC, FrM.rf⟩)
        | (rw [if_pos h_6, tw]
           first
             | (rw [hwm]
                exact ⟨rfl, hC1, hM1⟩)
             | (have hs : (σ.im w0).isSome = false := by rw [← hb1]; revert h_20; cases ki.testBit w0 <;> simp
                rw [Option.not_isSome_iff_eq_none.mp (show ¬ (σ.im w0).isSome = true by rw [hs]; decide)]
                exact ⟨rfl, hC, FrM.rf⟩))
  · refine x_ldc dX11_restore_9 k_X11_81 ?_
    refine x_iret dX11_restore_11 ?_
    unfold R_restore
    first
      | (rw [if_neg (by rw [h_6]; decide)]
         exact ⟨rfl, hC, FrM.rf⟩)
      | (rw [if_pos h_6, tw]
         first
           | (rw [hwm]
              exact ⟨rfl, hC1, hM1⟩)
           | (have hs : (σ.im w0).isSome = false := by rw [← hb1]; revert h_20; cases ki.testBit w0 <;> simp
              rw [Option.not_isSome_iff_eq_none.mp (show ¬ (σ.im w0).isSome = true by rw [hs]; decide)]
              exact ⟨rfl, hC, FrM.rf⟩))
theorem uRowW {σ : Sg} {w : Nat → Nat} {i : Nat} {j : Nat → Nat → Nat} (h : SgW σ) (hv : Iv w ∧ w 3 ≤ 999) (hi : i ≤ 24) (hj : ∀ k, k < i → Lv (j k) ∧ Iv (j k)) : SgW (σ.uLake w i j) := by
  obtain ⟨h1, h2, h3, h4, h5, h6, h7, h8⟩ := h
  refine ⟨h1, h2, Or.inl hv, hi, hj, h6, h7, fun z => ?_⟩
  have h0 : w 0 = 0 := z 0 (by decide)
  have := hv.1.2.1
  omega
theorem actW {σ : Sg} (h : SgW σ) (hI : Iv σ.v) (h9 : σ.v 3 ≤ 999) {w : Nat → Nat} (hv : Iv w ∧ w 3 ≤ 999) : SgW (σ.act w) := by
  have h4 : σ.am ≤ 24 := h.2.2.2.1
  refine uRowW h hv (by unfold nA; split <;> omega) (fun k hk => ?_)
  unfold nA at hk
  unfold nH
  split at hk
  · rename_i hl
    rw [if_pos hl]
    by_cases e : k = σ.am
    · simp only [e, if_true]; exact ⟨Or.inl ⟨hI, h9⟩, hI⟩
    · simp only [e, if_false]; exact h.2.2.2.2.1 k (by omega)
  · rename_i hl
    rw [if_neg hl]
    by_cases e : k = 23
    · simp only [e, if_true]; exact ⟨Or.inl ⟨hI, h9⟩, hI⟩
    · simp only [e, if_false]; exact h.2.2.2.2.1 (k + 1) (by omega)
theorem hsN_v (σ : Sg) : ∀ k, (hsN σ k).v = hrs σ.v k
  | 0 => rfl
  | k + 1 => by show hrV (hsN σ k).v = hrV (hrs σ.v k); rw [hsN_v σ k]
theorem hsN_W {σ : Sg} (h : SgW σ) (hI : Iv σ.v) : ∀ k, σ.v 3 + k ≤ 999 → SgW (hsN σ k)
  | 0, _ => h
  | k + 1, hk => by
    have hi := hrs_Iv hI k (by omega)
    have hi1 := hrs_Iv hI (k + 1) (by omega)
    have hn := hrs_ne hI.1 k (by omega)
    have hn1 := hrs_ne hI.1 (k + 1) (by omega)
    refine actW (hsN_W h hI k (by omega)) (by rw [hsN_v]; exact hi) (by rw [hsN_v, hn.2.2]; omega) ?_
    rw [hsN_v]
    exact ⟨hi1, by rw [show hrV (hrs σ.v k) = hrs σ.v (k + 1) from rfl, hn1.2.2]; omega⟩
set_option maxRecDepth 100000 in
set_option maxHeartbeats 4000000 in
theorem c_hours {Ω : Om} {l : Launch} {M : Mem} {σ : Sg} (hC : IC M σ) (hW : SgW σ) {n : Int32} : Ct Ω l yX11_hours cX11_hours 3 6 (some .int) [.ref (Ω.2.2 0), .int n] M (fun ro M' => ro = some (.int (R_hours σ n).1) ∧ IC M' (R_hours σ n).2 ∧ FrM M M') := by
  have hL49 : Lk 49 := Lk49
  have hL57 : Lk 57 := Lk57
  have hR := hC.lake
  have hLv : Lv σ.v := hW.2.2.1
  have hw := hLv.wv
  have hn := hw.nums
  have hL65 : Lk 65 := Lk65
  refine ct_of (by decide) (Nat.le_of_ble_eq_true rfl) ?_
  intro p e R s m args below meth c
  refine x_aload_n dX11_hours_0 rfl ?_
  refine q_X11_161 (c_hasNoLake hR hw) dX11_hours_1 rfl ?_
  rintro _ _ ⟨rfl, rfl⟩
  refine z_if_eq 10 dX11_hours_4 (fun h_4 => ?_) (fun h_4 => ?_)
  · have h0 : ¬ σ.v 0 = 0 := by simpa using h_4
    obtain ⟨hI, h999⟩ := hLv.rung (r := 0) (by omega)
    refine x_iload_n dX11_hours_10 rfl ?_
    refine y_iconst (a := 1) dX11_hours_11 rfl ?_
    refine x_bipush (v := nI 24) dX11_hours_12 rfl ?_
    refine q_X11_77 (c_within (by omega) (by omega)) dX11_hours_14 rfl ?_
    rintro _ _ ⟨rfl, rfl⟩
    refine z_if_ne 23 dX11_hours_17 (fun h_17 => ?_) (fun h_17 => ?_)
    · obtain ⟨n0, hn0, hn1, rfl⟩ := inB_nI h_17 (by omega)
      have tn := tN_nI (g := n0) (by omega)
      refine x_aload_n dX11_hours_23 rfl ?_
      refine g_X11_58 dX11_hours_24 ?_
      refine g_X11_164 dX11_hours_27 ?_
      rw [hR.hour]
      refine x_iload_n dX11_hours_30 rfl ?_
      refine y_iadd dX11_hours_31 ?_
      refine x_sipush (v := nI 999) dX11_hours_32 rfl ?_
      refine y_icmp_le 41 dX11_hours_35 (by omega) (by omega) (fun h_35 => ?_) (fun h_35 => ?_)
      · refine y_iconst (a := 0) dX11_hours_41 rfl ?_
        refine x_istore_n dX11_hours_42 ?_
        have key : ∀ (k : Nat) (h : Nat) (M1 : Mem), h + k = n0 ∧ IC M1 (hsN σ h) ∧ FrM M M1 → X (mkG p l e R s m args below meth c Ω (fun ro M' => ro = some (.int (R_hours σ (nI n0)).1) ∧ IC M' (R_hours σ (nI n0)).2 ∧ FrM M M')) Ω RX11 cX11_hours 3 6 (some .int) 43 [some (.ref (Ω.2.2 0)), some (.int (nI n0)), some (.int (nI h))] [] M1 := by
          intro k
          induction k with
          | zero =>
            intro h M1 hk
            obtain ⟨hk, hC1, hM1⟩ := hk
            have hi := hrs_Iv hI h (by omega)
            have hnn := hrs_ne hw h (by omega)
            have hW1 := hsN_W hW hI h (by omega)
            have hR1 : LkR M1 49 (hsN σ h).v := hC1.lake
            have hw1 : Wv (hsN σ h).v := by rw [hsN_v]; exact hnn.1
            have hne2 : (hsN σ h).v 0 = σ.v 0 := by rw [hsN_v]; exact hnn.2.1 0 (by omega) (by omega)
            refine x_iload_n dX11_hours_43 rfl ?_
            refine x_iload_n dX11_hours_44 rfl ?_
            refine y_icmp_ge 65 dX11_hours_45 (by omega) (by omega) (fun h_45 => ?_) (fun h_45 => ?_)
            · refine x_aload_n dX11_hours_65 rfl ?_
              refine g_X11_58 dX11_hours_66 ?_
              refine x_aload_n dX11_hours_69 rfl ?_
              refine g_X11_58 dX11_hours_70 ?_
              refine q_X11_173 (c_top Lk49 hR1 hw1) dX11_hours_73 rfl ?_
              rintro _ _ ⟨rfl, rfl⟩
              refine q_X11_177 (c_whoIsAt Lk49 hR1 hw1 (by omega)) dX11_hours_76 rfl ?_
              rintro _ _ ⟨rfl, rfl⟩
              refine x_iret dX11_hours_79 ?_
              unfold R_hours
              rw [if_neg h0, if_pos h_17, tn, if_neg (by omega)]
              obtain rfl : h = n0 := by omega
              exact ⟨by rw [hne2], hC1, hM1⟩
            · exfalso; omega
          | succ k ih =>
            intro h M1 hk
            obtain ⟨hk, hC1, hM1⟩ := hk
            have hi := hrs_Iv hI h (by omega)
            have hnn := hrs_ne hw h (by omega)
            have hW1 := hsN_W hW hI h (by omega)
            have hR1 : LkR M1 49 (hsN σ h).v := hC1.lake
            have hw1 : Wv (hsN σ h).v := by rw [hsN_v]; exact hnn.1
            have hne2 : (hsN σ h).v 0 = σ.v 0 := by rw [hsN_v]; exact hnn.2.1 0 (by omega) (by omega)
            refine x_iload_n dX11_hours_43 rfl ?_
            refine x_iload_n dX11_hours_44 rfl ?_
            refine y_icmp_ge 65 dX11_hours_45 (by omega) (by omega) (fun h_45 => ?_) (fun h_45 => ?_)
            · refine x_aload_n dX11_hours_65 rfl ?_
              refine g_X11_58 dX11_hours_66 ?_
              refine x_aload_n dX11_hours_69 rfl ?_
              refine g_X11_58 dX11_hours_70 ?_
              refine q_X11_173 (c_top Lk49 hR1 hw1) dX11_hours_73 rfl ?_
              rintro _ _ ⟨rfl, rfl⟩
              refine q_X11_177 (c_whoIsAt Lk49 hR1 hw1 (by omega)) dX11_hours_76 rfl ?_
              rintro _ _ ⟨rfl, rfl⟩
              refine x_iret dX11_hours_79 ?_
              unfold R_hours
              rw [if_neg h0, if_pos h_17, tn, if_neg (by omega)]
              obtain rfl : h = n0 := by omega
              exact ⟨by rw [hne2], hC1, hM1⟩
            · refine x_aload_n dX11_hours_48 rfl ?_
              refine q_X11_167 (c_keepAct hC1 hW1) dX11_hours_49 rfl ?_
              rintro _ M2 ⟨rfl, hC2, hM2⟩
              have hR2 : LkR M2 49 (hsN σ h).v := hC2.lake
              refine x_aload_n dX11_hours_52 rfl ?_
              refine g_X11_58 dX11_hours_53 ?_
              refine q_X11_170 (c_runHour Lk49 hR2 hw1) dX11_hours_56 rfl ?_
              rintro _ M3 ⟨rfl, hR3, hF3⟩
              refine y_iinc dX11_hours_59 rfl ?_
              refine x_goto 43 dX11_hours_62 ?_
              exact ih (h + 1) _ ⟨by omega, by exact hC2.setLk hR3 hF3, (hM1.tr hM2).tr (FrM.fr hF3 (by omega))⟩
        exact key n0 0 _ ⟨Nat.zero_add _, hC, FrM.rf⟩
      · refine x_ldc dX11_hours_38 k_X11_126 ?_
        refine x_iret dX11_hours_40 ?_
        unfold R_hours
        first
          | (rw [if_neg h0, if_pos h_17, tn, if_neg (by omega)]
             obtain rfl : h = n0 := by omega
             rw [hsN_v] at hne2
             exact ⟨by rw [hsN_v, hne2], hC1, hM1⟩)
          | (rw [if_neg h0, if_pos h_17, tn, if_pos (by omega)]
             exact ⟨rfl, hC, FrM.rf⟩)
          | (rw [if_neg h0, if_neg (by rw [h_17]; decide)]
             exact ⟨rfl, hC, FrM.rf⟩)
          | (rw [if_pos (by simpa using h_4)]
             exact ⟨rfl, hC, FrM.rf⟩)
    · refine x_ldc dX11_hours_20 k_X11_81 ?_
      refine x_iret dX11_hours_22 ?_
      unfold R_hours
      first
        | (rw [if_neg h0, if_pos h_17, tn, if_neg (by omega)]
           obtain rfl : h = n0 := by omega
           rw [hsN_v] at hne2
           exact ⟨by rw [hsN_v, hne2], hC1, hM1⟩)
        | (rw [if_neg h0, if_pos h_17, tn, if_pos (by omega)]
           exact ⟨rfl, hC, FrM.rf⟩)
        | (rw [if_neg h0, if_neg (by rw [h_17]; decide)]
           exact ⟨rfl, hC, FrM.rf⟩)
        | (rw [if_pos (by simpa using h_4)]
           exact ⟨rfl, hC, FrM.rf⟩)
  · refine x_ldc dX11_hours_7 k_X11_154 ?_
    refine x_iret dX11_hours_9 ?_
    unfold R_hours
    first
      | (rw [if_neg h0, if_pos h_17, tn, if_neg (by omega)]
         obtain rfl : h = n0 := by omega
         rw [hsN_v] at hne2
         exact ⟨by rw [hsN_v, hne2], hC1, hM1⟩)
      | (rw [if_neg h0, if_pos h_17, tn, if_pos (by omega)]
         exact ⟨rfl, hC, FrM.rf⟩)
      | (rw [if_neg h0, if_neg (by rw [h_17]; decide)]
         exact ⟨rfl, hC, FrM.rf⟩)
      | (rw [if_pos (by simpa using h_4)]
         exact ⟨rfl, hC, FrM.rf⟩)
