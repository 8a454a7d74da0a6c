/-! LADDERSPRINGS: what asks further (laid by gen_ls3.py) -/
theorem nI_none {b : Nat} (h : b < 2 ^ 31) : ¬ nI b = -1000000 := by
  intro z
  have := congrArg Int32.toInt z
  rw [nI_toInt h] at this
  have e : (-1000000 : Int32).toInt = -1000000 := rfl
  omega
theorem bst_lt {f : Nat → Bool} {m b : Nat} (h : bst f m = some b) : b < m := by
  rcases bst_best f m with ⟨e, -⟩ | ⟨c, hc, e, -⟩
  · rw [h] at e; cases e
  · rw [h] at e; cases e; exact hc
theorem fitN_congr {v : Nat → Nat} {g : Nat} {it it2 : Nat → Int32} : ∀ {n : Nat}, (∀ h, h < n → it h = it2 h) → fitN v g it n = fitN v g it2 n
  | 0, _ => rfl
  | n + 1, h => by simp only [fitN]; rw [fitN_congr (fun k hk => h k (by omega)), h n (by omega)]
theorem fitK_congr {base lo hi : Nat} {v : Nat → Nat} {g go n : Nat} {it it2 : Nat → Int32} (h : ∀ k, k < n → it k = it2 k) : fitK base lo hi v g go it n = fitK base lo hi v g go it2 n := by
  unfold fitK
  exact orN_congr (fun k _ => by rw [fitN_congr h])
theorem fitR_congr {v : Nat → Nat} {go n : Nat} {it it2 : Nat → Int32} (h : ∀ k, k < n → it k = it2 k) : fitR v go it n = fitR v go it2 n := by
  unfold fitR
  rw [fitN_congr h]
  congr 1
  exact orN_congr (fun k _ => by rw [fitN_congr h])
/-- a span of n items from place i on lies in a row of that size -/
def spn (z i n : Int32) : Bool := decide (0 ≤ i.toInt ∧ 0 ≤ n.toInt ∧ i.toInt ≤ (z - n).toInt)
def R_who (σ : Sg) (x w o r i n : Int32) : Int32 × Sg := if inR x (σ.v 2) = true ∧ inB w 0 2 = true ∧ inR o (σ.v 2) = true ∧ inR r 8 = true ∧ inB n 1 12 = true then
    (if σ.sz (tN r) = -1 then (-1000011, σ.uSt (nI 1)) else if spn (σ.sz (tN r)) i n = true then ((if w = nI 0 then nI (fitK 15 1 5 σ.v (tN x) (tN o) (fun h => σ.it (tN r) (tN i + h)) (tN n)) else if w = nI 1 then nI (fitK 21 1 30 σ.v (tN x) (tN o) (fun h => σ.it (tN r) (tN i + h)) (tN n)) else nI (fitK 27 0 30 σ.v (tN x) (tN o) (fun h => σ.it (tN r) (tN i + h)) (tN n))), σ.uSt (nI 0)) else (-1000012, σ.uSt (nI 2)))
  else (-1000001, σ)
def R_rotten (σ : Sg) (x r i n : Int32) : Int32 × Sg := if inR x (σ.v 2) = true ∧ inR r 8 = true ∧ inB n 1 12 = true then
    (if σ.sz (tN r) = -1 then (-1000011, σ.uSt (nI 1)) else if spn (σ.sz (tN r)) i n = true then (nI (fitR σ.v (tN x) (fun h => σ.it (tN r) (tN i + h)) (tN n)), σ.uSt (nI 0)) else (-1000012, σ.uSt (nI 2)))
  else (-1000001, σ)
def R_as (σ : Sg) (x k : Int32) : Int32 × Sg := if inR x (σ.v 2) = true ∧ inB k 0 5 = true then
    (if k = nI 0 ∨ k = nI (σ.v (15 + tN x)) ∨ (k = nI 1 ∧ σ.v (15 + tN x) ≤ 3) ∨ (k = nI 4 ∧ σ.v (15 + tN x) = 5) then (x, σ.uSt (nI 0)) else (-1000013, σ.uSt (nI 3)))
  else (-1000001, σ)
theorem Rw8 {r : Nat} (h : r < 8) : Rw (18 + 2 * r) := ⟨by omega, by omega, by omega⟩
theorem x_rows {Γ : Gx} {Ω : Om} {own : String} {cc : ByteArray} {nL lev : Nat} {ret : Option FieldType} {pc : Nat} {L : List (Option Value)} {st : List Value} {M : Mem} {r : Nat} (hr : r < 8) (d : decode cc pc = .ok (.aaload, 1)) (kk : X Γ Ω own cc nL lev ret (pc + 1) L (.ref (Ω.2.2 (18 + 2 * r)) :: st) M) : X Γ Ω own cc nL lev ret pc L (.int (nI r) :: .ref (Ω.2.2 1) :: st) M :=
  x_aaload d (by decide) (Or.inr (Or.inr rfl)) (vp_in_nI (N := 8) (by omega) (by decide)) (by rw [nI_clamp (by omega)]; show (if r < 8 then some (18 + 2 * r) else none) = _; rw [if_pos hr]) kk
theorem orN_31 {f : Nat → Nat} {n : Nat} (h : ∀ k, k < n → f k < 2 ^ 31) : orN f n < 2 ^ 31 := orN_lt h

set_option maxRecDepth 100000 in
set_option maxHeartbeats 4000000 in
theorem c_lowestOf {Ω : Om} {l : Launch} {M : Mem} {a : Nat} (ha : a < 512) (h0 : 0 < a) : Ct Ω l yX11_lowestOf cX11_lowestOf 1 2 (some .int) [.int (nI a)] M (fun ro M' => ro = some (.int (nI (lob a 9))) ∧ M = M') := by
  have hL49 : Lk 49 := Lk49
  have hL57 : Lk 57 := Lk57
  have hp := and_pos a ha h0
  have hl := lob_pop a ha h0
  refine ct_of (by decide) (Nat.le_of_ble_eq_true rfl) ?_
  intro p e R s m args below meth c
  refine x_iload_n dX11_lowestOf_0 rfl ?_
  refine x_iload_n dX11_lowestOf_1 rfl ?_
  refine x_ineg dX11_lowestOf_2 ?_
  refine x_iand dX11_lowestOf_3 ?_
  rw [neg_and a ha h0]
  refine y_iconst (a := 1) dX11_lowestOf_4 rfl ?_
  refine y_isub dX11_lowestOf_5 (by omega) ?_
  refine q_X11_360 (c_bitCount (by omega)) dX11_lowestOf_6 rfl ?_
  rintro _ _ ⟨rfl, rfl⟩
  refine x_iret dX11_lowestOf_9 ?_
  exact ⟨by rw [hl], rfl⟩
set_option maxRecDepth 100000 in
set_option maxHeartbeats 4000000 in
theorem c_countOrSet {Ω : Om} {l : Launch} {M : Mem} {o : Option Nat} (ho : ∀ b, o = some b → b < 1024) {w : Nat} (hw1 : w ≤ 1) : Ct Ω l yX11_countOrSet cX11_countOrSet 2 2 (some .int) [.int (nO o), .int (nI w)] M (fun ro M' => ro = some (.int (cOS o (nI w))) ∧ M = M') := by
  have hL49 : Lk 49 := Lk49
  have hL57 : Lk 57 := Lk57
  refine ct_of (by decide) (Nat.le_of_ble_eq_true rfl) ?_
  intro p e R s m args below meth c
  rcases o with _ | b
  · refine x_iload_n dX11_countOrSet_0 rfl ?_
    refine x_ldc dX11_countOrSet_1 k_X11_242 ?_
    refine x_icmp_ne 9 dX11_countOrSet_3 (fun h_3 => ?_) (fun h_3 => ?_)
    · exact absurd rfl h_3
    · refine x_ldc dX11_countOrSet_6 k_X11_242 ?_
      refine x_iret dX11_countOrSet_8 ?_
      exact ⟨rfl, rfl⟩
  · have hb := ho b rfl
    show X _ _ _ _ _ _ _ _ (entN [.int (nI b), .int (nI w)] 2) _ _
    refine x_iload_n dX11_countOrSet_0 rfl ?_
    refine x_ldc dX11_countOrSet_1 k_X11_242 ?_
    refine x_icmp_ne 9 dX11_countOrSet_3 (fun h_3 => ?_) (fun h_3 => ?_)
    · refine x_iload_n dX11_countOrSet_9 rfl ?_
      refine y_if_ne 20 dX11_countOrSet_10 (by omega) (fun h_10 => ?_) (fun h_10 => ?_)
      · refine x_iload_n dX11_countOrSet_20 rfl ?_
        refine x_iret dX11_countOrSet_21 ?_
        refine ⟨congrArg (fun z => some (Value.int z)) ?_, rfl⟩
        first
          | (obtain rfl : w = 0 := h_10; rfl)
          | (obtain rfl : w = 1 := (by omega); rfl)
      · refine x_iload_n dX11_countOrSet_13 rfl ?_
        refine q_X11_360 (c_bitCount hb) dX11_countOrSet_14 rfl ?_
        rintro _ _ ⟨rfl, rfl⟩
        refine x_goto 21 dX11_countOrSet_17 ?_
        refine x_iret dX11_countOrSet_21 ?_
        refine ⟨congrArg (fun z => some (Value.int z)) ?_, rfl⟩
        first
          | (obtain rfl : w = 0 := h_10; rfl)
          | (obtain rfl : w = 1 := (by omega); rfl)
    · exact absurd h_3 (nI_none (by omega))
theorem RowsC.at {M : Mem} {σ : Sg} (h : RowsC M σ) {r : Nat} (hr : r < 8) : M.1 (18 + 2 * r) 2 = σ.sz r := (h r hr).2.1
set_option maxRecDepth 100000 in
set_option maxHeartbeats 4000000 in
theorem c_howManyRows {Ω : Om} {l : Launch} {M : Mem} {σ : Sg} (hRo : RowsC M σ) : Ct Ω l yX11_howManyRows cX11_howManyRows 3 2 (some .int) [.ref (Ω.2.2 0)] M (fun ro M' => ro = some (.int (nI (cntN (fun r => !decide (σ.sz r = -1)) 8))) ∧ M = M') := by
  have hL49 : Lk 49 := Lk49
  have hL57 : Lk 57 := Lk57
  refine ct_of (by decide) (Nat.le_of_ble_eq_true rfl) ?_
  intro p e R s m args below meth c
  have key : ∀ (k : Nat) (h : Nat), h + k = 8 → X (mkG p l e R s m args below meth c Ω (fun ro M' => ro = some (.int (nI (cntN (fun r => !decide (σ.sz r = -1)) 8))) ∧ M = M')) Ω RX11 cX11_howManyRows 3 2 (some .int) 4 [some (.ref (Ω.2.2 0)), some (.int (nI (cntN (fun r => !decide (σ.sz r = -1)) h))), some (.int (nI h))] [] M := by
    intro k
    induction k with
    | zero =>
      intro h hk
      refine x_iload_n dX11_howManyRows_4 rfl ?_
      refine x_bipush (v := nI 8) dX11_howManyRows_5 rfl ?_
      refine y_icmp_ge 31 dX11_howManyRows_7 (by omega) (by omega) (fun h_7 => ?_) (fun h_7 => ?_)
      · refine x_iload_n dX11_howManyRows_31 rfl ?_
        refine x_iret dX11_howManyRows_32 ?_
        obtain rfl : h = 8 := by omega
        exact ⟨rfl, rfl⟩
      · exfalso; omega
    | succ k ih =>
      intro h hk
      refine x_iload_n dX11_howManyRows_4 rfl ?_
      refine x_bipush (v := nI 8) dX11_howManyRows_5 rfl ?_
      refine y_icmp_ge 31 dX11_howManyRows_7 (by omega) (by omega) (fun h_7 => ?_) (fun h_7 => ?_)
      · refine x_iload_n dX11_howManyRows_31 rfl ?_
        refine x_iret dX11_howManyRows_32 ?_
        obtain rfl : h = 8 := by omega
        exact ⟨rfl, rfl⟩
      · refine x_aload_n dX11_howManyRows_10 rfl ?_
        refine g_X11_11 dX11_howManyRows_11 ?_
        refine x_iload_n dX11_howManyRows_14 rfl ?_
        refine x_rows (by omega) dX11_howManyRows_15 ?_
        have hrw := Rw8 (r := h) (by omega)
        refine q_X11_93 (c_isMissing (Rw8 (by omega))) dX11_howManyRows_16 rfl ?_
        rintro _ _ ⟨rfl, rfl⟩
        rw [hRo.at (by omega)]
        have h_19x := hk
        refine z_if_ne 25 dX11_howManyRows_19 (fun h_19 => ?_) (fun h_19 => ?_)
        · refine y_iinc dX11_howManyRows_25 rfl ?_
          refine x_goto 4 dX11_howManyRows_28 ?_
          have hh2 := ih (h + 1) (by omega)
          first
            | (rw [show cntN (fun r => !decide (σ.sz r = -1)) (h + 1) = cntN (fun r => !decide (σ.sz r = -1)) h by simp [cntN, h_19]] at hh2
               exact hh2)
            | (rw [show cntN (fun r => !decide (σ.sz r = -1)) (h + 1) = cntN (fun r => !decide (σ.sz r = -1)) h + 1 by simp [cntN, h_19]] at hh2
               exact hh2)
        · refine y_iinc dX11_howManyRows_22 rfl ?_
          refine y_iinc dX11_howManyRows_25 rfl ?_
          refine x_goto 4 dX11_howManyRows_28 ?_
          have hh2 := ih (h + 1) (by omega)
          first
            | (rw [show cntN (fun r => !decide (σ.sz r = -1)) (h + 1) = cntN (fun r => !decide (σ.sz r = -1)) h by simp [cntN, h_19]] at hh2
               exact hh2)
            | (rw [show cntN (fun r => !decide (σ.sz r = -1)) (h + 1) = cntN (fun r => !decide (σ.sz r = -1)) h + 1 by simp [cntN, h_19]] at hh2
               exact hh2)
  refine y_iconst (a := 0) dX11_howManyRows_0 rfl ?_
  refine x_istore_n dX11_howManyRows_1 ?_
  refine y_iconst (a := 0) dX11_howManyRows_2 rfl ?_
  refine x_istore_n dX11_howManyRows_3 ?_
  exact key 8 0 rfl
theorem fnd_in {f : Nat → Bool} : ∀ {m k j : Nat}, fnd f m k = some j → j ≤ k + m ∧ f j = true
  | 0, k, j, h => by
    simp only [fnd] at h
    split at h
    · next c => cases h; exact ⟨by omega, c⟩
    · cases h
  | m + 1, k, j, h => by
    simp only [fnd] at h
    split at h
    · next c => cases h; exact ⟨by omega, c⟩
    · obtain ⟨h1, h2⟩ := fnd_in (f := f) h
      exact ⟨by omega, h2⟩
set_option maxRecDepth 100000 in
set_option maxHeartbeats 4000000 in
theorem c_first {Ω : Om} {l : Launch} {M : Mem} {σ : Sg} (hC : IC M σ) (hW : SgW σ) {w : Int32} : Ct Ω l yX11_first cX11_first 4 7 (some .int) [.ref (Ω.2.2 0), .int w] M (fun ro M' => ro = some (.int (R_first σ.v w)) ∧ IC M' σ ∧ FrM M M') := by
  have hL49 : Lk 49 := Lk49
  have hL57 : Lk 57 := Lk57
  have hR := hC.lake
  have hLv : Lv σ.v := hW.2.2.1
  have hw := hLv.wv
  have hn := hw.nums
  have hL65 : Lk 65 := Lk65
  refine ct_of (by decide) (Nat.le_of_ble_eq_true rfl) ?_
  intro p e R s m args below meth c
  refine x_aload_n dX11_first_0 rfl ?_
  refine q_X11_161 (c_hasNoLake hR hw) dX11_first_1 rfl ?_
  rintro _ _ ⟨rfl, rfl⟩
  refine z_if_eq 10 dX11_first_4 (fun h_4 => ?_) (fun h_4 => ?_)
  · have h0 : ¬ σ.v 0 = 0 := by simpa using h_4
    obtain ⟨hI, h999⟩ := hLv.rung (r := 0) (by omega)
    refine x_iload_n dX11_first_10 rfl ?_
    refine y_iconst (a := 0) dX11_first_11 rfl ?_
    refine y_iconst (a := 1) dX11_first_12 rfl ?_
    refine q_X11_77 (c_within (by omega) (by omega)) dX11_first_13 rfl ?_
    rintro _ _ ⟨rfl, rfl⟩
    refine z_if_ne 22 dX11_first_16 (fun h_16 => ?_) (fun h_16 => ?_)
    · obtain ⟨n0, hn0, hn1, rfl⟩ := inB_nI h_16 (by omega)
      have tn := tN_nI (g := n0) (by omega)
      refine x_aload_n dX11_first_22 rfl ?_
      refine g_X11_58 dX11_first_23 ?_
      refine q_X11_239 (c_allRungs Lk49 hR hw) dX11_first_26 rfl ?_
      rintro _ _ ⟨rfl, rfl⟩
      refine x_aload_n dX11_first_29 rfl ?_
      refine g_X11_58 dX11_first_30 ?_
      refine q_X11_225 (c_brokenRungs Lk49 hR hw) dX11_first_33 rfl ?_
      rintro _ _ ⟨rfl, rfl⟩
      refine x_iconst (v := -1) dX11_first_36 rfl ?_
      refine x_ixor dX11_first_37 ?_
      refine x_iand dX11_first_38 ?_
      have hpw := pow9 (n := σ.v 0) (by omega)
      have hpp := Nat.two_pow_pos (σ.v 0)
      rw [snd_and (by omega), show (2 ^ σ.v 0 - 1) &&& (511 ^^^ brkS σ.v) = snd σ.v from rfl]
      have hsl : snd σ.v < 512 := Nat.lt_of_le_of_lt Nat.and_le_left (by omega)
      refine x_istore_n dX11_first_39 ?_
      refine x_aload_n dX11_first_40 rfl ?_
      refine g_X11_68 dX11_first_41 ?_
      refine x_aload_n dX11_first_44 rfl ?_
      refine g_X11_58 dX11_first_45 ?_
      refine x_iload_n dX11_first_48 rfl ?_
      refine q_X11_236 (c_whenBroken Lk49 (by decide) hR hI (by omega) (by omega)) dX11_first_49 rfl ?_
      rintro _ M1 ⟨rfl, hRw, hF1⟩
      obtain ⟨hC1, hM1⟩ := hC.fr65 hF1
      refine x_istore_n dX11_first_52 ?_
      rcases hf : fnd (fun n => !decide (brkS (hrs σ.v n) &&& snd σ.v = 0)) 60 0 with _ | h
      · skip
        refine x_iload_n dX11_first_53 rfl ?_
        refine x_ldc dX11_first_54 k_X11_242 ?_
        refine x_icmp_eq 64 dX11_first_56 (fun h_56 => ?_) (fun h_56 => ?_)
        · refine x_iload_n dX11_first_64 rfl ?_
          refine x_iret dX11_first_65 ?_
          refine ⟨congrArg (fun z => some (Value.int z)) ?_, hC1, hM1⟩
          unfold R_first
          rw [if_neg h0, if_pos h_16, hf]
          rfl
        · exact absurd rfl h_56
      · have hh60 : h ≤ 60 ∧ (fun n => !decide (brkS (hrs σ.v n) &&& snd σ.v = 0)) h = true := fnd_in hf
        have hne := hrs_ne hw h (by omega)
        have hbl := brkS_lt hne.1
        refine x_iload_n dX11_first_53 rfl ?_
        refine x_ldc dX11_first_54 k_X11_242 ?_
        refine x_icmp_eq 64 dX11_first_56 (fun h_56 => ?_) (fun h_56 => ?_)
        · first
            | exact absurd h_56 (nI_none (by omega))
            | (refine x_iload_n dX11_first_64 rfl ?_
               refine x_iret dX11_first_65 ?_
               refine ⟨congrArg (fun z => some (Value.int z)) ?_, hC1, hM1⟩
               unfold R_first
               rw [if_neg h0, if_pos h_16, hf]
               obtain rfl : n0 = 1 := by omega
               rfl)
        · refine x_iload_n dX11_first_59 rfl ?_
          refine y_iconst (a := 1) dX11_first_60 rfl ?_
          refine y_icmp_ne 66 dX11_first_61 (by omega) (by omega) (fun h_61 => ?_) (fun h_61 => ?_)
          · refine x_aload_n dX11_first_66 rfl ?_
            refine g_X11_68 dX11_first_67 ?_
            refine g_X11_243 dX11_first_70 ?_
            have hRh := hRw h hf
            refine q_X11_225 (c_brokenRungs Lk65 hRh hne.1) dX11_first_73 rfl ?_
            rintro _ _ ⟨rfl, rfl⟩
            refine x_iload_n dX11_first_76 rfl ?_
            refine y_iand dX11_first_77 ?_
            have hal : brkS (hrs σ.v h) &&& snd σ.v ≤ snd σ.v := Nat.and_le_right
            have hap : 0 < brkS (hrs σ.v h) &&& snd σ.v := by
              have h2 := hh60.2
              simp at h2
              omega
            refine q_X11_246 (c_lowestOf (by omega) hap) dX11_first_78 rfl ?_
            rintro _ _ ⟨rfl, rfl⟩
            refine x_iret dX11_first_81 ?_
            refine ⟨congrArg (fun z => some (Value.int z)) ?_, hC1, hM1⟩
            unfold R_first
            rw [if_neg h0, if_pos h_16, hf]
            show _ = (if nI n0 = nI 1 then _ else _)
            rw [if_neg (fun z => h_61 ((nI_eq (by omega) (by omega)).mp z))]
          · first
              | exact absurd h_56 (nI_none (by omega))
              | (refine x_iload_n dX11_first_64 rfl ?_
                 refine x_iret dX11_first_65 ?_
                 refine ⟨congrArg (fun z => some (Value.int z)) ?_, hC1, hM1⟩
                 unfold R_first
                 rw [if_neg h0, if_pos h_16, hf]
                 obtain rfl : n0 = 1 := by omega
                 rfl)
    · refine x_ldc dX11_first_19 k_X11_81 ?_
      refine x_iret dX11_first_21 ?_
      first
        | (refine ⟨congrArg (fun z => some (Value.int z)) ?_, hC1, hM1⟩
           simp [R_first, *]; done)
        | (refine ⟨congrArg (fun z => some (Value.int z)) ?_, hC, FrM.rf⟩
           simp [R_first, *]; done)
        | (refine ⟨congrArg (fun z => some (Value.int z)) ?_, hC, FrM.rf⟩
           simp at h_4; simp [R_first, h_4]; done)
  · refine x_ldc dX11_first_7 k_X11_154 ?_
    refine x_iret dX11_first_9 ?_
    first
      | (refine ⟨congrArg (fun z => some (Value.int z)) ?_, hC1, hM1⟩
         simp [R_first, *]; done)
      | (refine ⟨congrArg (fun z => some (Value.int z)) ?_, hC, FrM.rf⟩
         simp [R_first, *]; done)
      | (refine ⟨congrArg (fun z => some (Value.int z)) ?_, hC, FrM.rf⟩
         simp at h_4; simp [R_first, h_4]; done)
set_option maxRecDepth 100000 in
set_option maxHeartbeats 4000000 in
theorem c_mends {Ω : Om} {l : Launch} {M : Mem} {σ : Sg} (hC : IC M σ) (hW : SgW σ) {x n w : Int32} : Ct Ω l yX11_mends cX11_mends 4 8 (some .int) [.ref (Ω.2.2 0), .int x, .int n, .int w] M (fun ro M' => ro = some (.int (R_mends σ.v x n w)) ∧ IC M' σ ∧ FrM M M') := by
  have hL49 : Lk 49 := Lk49
  have hL57 : Lk 57 := Lk57
  have hR := hC.lake
  have hLv : Lv σ.v := hW.2.2.1
  have hw := hLv.wv
  have hn := hw.nums
  have hL65 : Lk 65 := Lk65
  refine ct_of (by decide) (Nat.le_of_ble_eq_true rfl) ?_
  intro p e R s m args below meth c
  refine x_aload_n dX11_mends_0 rfl ?_
  refine x_iload_n dX11_mends_1 rfl ?_
  refine q_X11_180 (c_isGoer hR hw) dX11_mends_2 rfl ?_
  rintro _ _ ⟨rfl, rfl⟩
  refine z_if_eq 27 dX11_mends_5 (fun h_5 => ?_) (fun h_5 => ?_)
  · refine x_ldc dX11_mends_27 k_X11_81 ?_
    refine x_iret dX11_mends_29 ?_
    first
      | (refine ⟨congrArg (fun z => some (Value.int z)) ?_, hC1, hM1⟩
         simp [R_mends, *]; done)
      | (refine ⟨congrArg (fun z => some (Value.int z)) ?_, hC, FrM.rf⟩
         simp [R_mends, *]; done)
  · refine x_iload_n dX11_mends_8 rfl ?_
    refine y_iconst (a := 1) dX11_mends_9 rfl ?_
    refine x_bipush (v := nI 30) dX11_mends_10 rfl ?_
    refine q_X11_77 (c_within (by omega) (by omega)) dX11_mends_12 rfl ?_
    rintro _ _ ⟨rfl, rfl⟩
    refine z_if_eq 27 dX11_mends_15 (fun h_15 => ?_) (fun h_15 => ?_)
    · refine x_ldc dX11_mends_27 k_X11_81 ?_
      refine x_iret dX11_mends_29 ?_
      first
        | (refine ⟨congrArg (fun z => some (Value.int z)) ?_, hC1, hM1⟩
           simp [R_mends, *]; done)
        | (refine ⟨congrArg (fun z => some (Value.int z)) ?_, hC, FrM.rf⟩
           simp [R_mends, *]; done)
    · refine x_iload_n dX11_mends_18 rfl ?_
      refine y_iconst (a := 0) dX11_mends_19 rfl ?_
      refine y_iconst (a := 1) dX11_mends_20 rfl ?_
      refine q_X11_77 (c_within (by omega) (by omega)) dX11_mends_21 rfl ?_
      rintro _ _ ⟨rfl, rfl⟩
      refine z_if_ne 30 dX11_mends_24 (fun h_24 => ?_) (fun h_24 => ?_)
      · obtain ⟨g, hg, rfl⟩ := inR_nI h_5 (by omega)
        obtain ⟨hI, h999⟩ := hLv.goer hg
        have tg := tN_nI (g := g) (by omega)
        have hgo := hw.goer hg
        obtain ⟨n0, hn0, hn1, rfl⟩ := inB_nI h_15 (by omega)
        have tn := tN_nI (g := n0) (by omega)
        obtain ⟨w0, hw0, hw1, rfl⟩ := inB_nI h_24 (by omega)
        have hpw := pow9 (n := σ.v 0) (by omega)
        have hp6 := pow6 (n := σ.v 2) (by omega)
        refine x_aload_n dX11_mends_30 rfl ?_
        refine g_X11_68 dX11_mends_31 ?_
        refine x_aload_n dX11_mends_34 rfl ?_
        refine g_X11_58 dX11_mends_35 ?_
        refine x_iload_n dX11_mends_38 rfl ?_
        refine x_iload_n dX11_mends_39 rfl ?_
        refine q_X11_252 (c_fewestMended Lk49 (by decide) hR hI hg (by omega) (by omega)) dX11_mends_40 rfl ?_
        rintro _ M1 ⟨rfl, hF1⟩
        obtain ⟨hC1, hM1⟩ := hC.fr65 hF1
        refine x_iload_n dX11_mends_43 rfl ?_
        refine q_X11_256 (c_countOrSet (fun b hb => by have := bst_lt hb; omega) hw1) dX11_mends_44 rfl ?_
        rintro _ _ ⟨rfl, rfl⟩
        refine x_iret dX11_mends_47 ?_
        first
          | (refine ⟨congrArg (fun z => some (Value.int z)) ?_, hC1, hM1⟩
             simp [R_mends, *]; done)
          | (refine ⟨congrArg (fun z => some (Value.int z)) ?_, hC, FrM.rf⟩
             simp [R_mends, *]; done)
      · refine x_ldc dX11_mends_27 k_X11_81 ?_
        refine x_iret dX11_mends_29 ?_
        first
          | (refine ⟨congrArg (fun z => some (Value.int z)) ?_, hC1, hM1⟩
             simp [R_mends, *]; done)
          | (refine ⟨congrArg (fun z => some (Value.int z)) ?_, hC, FrM.rf⟩
             simp [R_mends, *]; done)
set_option maxRecDepth 100000 in
set_option maxHeartbeats 4000000 in
theorem c_holds {Ω : Om} {l : Launch} {M : Mem} {σ : Sg} (hC : IC M σ) (hW : SgW σ) {x n w : Int32} : Ct Ω l yX11_holds cX11_holds 4 8 (some .int) [.ref (Ω.2.2 0), .int x, .int n, .int w] M (fun ro M' => ro = some (.int (R_holds σ.v x n w)) ∧ IC M' σ ∧ FrM M M') := by
  have hL49 : Lk 49 := Lk49
  have hL57 : Lk 57 := Lk57
  have hR := hC.lake
  have hLv : Lv σ.v := hW.2.2.1
  have hw := hLv.wv
  have hn := hw.nums
  have hL65 : Lk 65 := Lk65
  refine ct_of (by decide) (Nat.le_of_ble_eq_true rfl) ?_
  intro p e R s m args below meth c
  refine x_aload_n dX11_holds_0 rfl ?_
  refine x_iload_n dX11_holds_1 rfl ?_
  refine q_X11_180 (c_isGoer hR hw) dX11_holds_2 rfl ?_
  rintro _ _ ⟨rfl, rfl⟩
  refine z_if_eq 27 dX11_holds_5 (fun h_5 => ?_) (fun h_5 => ?_)
  · refine x_ldc dX11_holds_27 k_X11_81 ?_
    refine x_iret dX11_holds_29 ?_
    first
      | (refine ⟨congrArg (fun z => some (Value.int z)) ?_, hC1, hM1⟩
         simp [R_holds, *]; done)
      | (refine ⟨congrArg (fun z => some (Value.int z)) ?_, hC, FrM.rf⟩
         simp [R_holds, *]; done)
  · refine x_iload_n dX11_holds_8 rfl ?_
    refine y_iconst (a := 1) dX11_holds_9 rfl ?_
    refine x_bipush (v := nI 30) dX11_holds_10 rfl ?_
    refine q_X11_77 (c_within (by omega) (by omega)) dX11_holds_12 rfl ?_
    rintro _ _ ⟨rfl, rfl⟩
    refine z_if_eq 27 dX11_holds_15 (fun h_15 => ?_) (fun h_15 => ?_)
    · refine x_ldc dX11_holds_27 k_X11_81 ?_
      refine x_iret dX11_holds_29 ?_
      first
        | (refine ⟨congrArg (fun z => some (Value.int z)) ?_, hC1, hM1⟩
           simp [R_holds, *]; done)
        | (refine ⟨congrArg (fun z => some (Value.int z)) ?_, hC, FrM.rf⟩
           simp [R_holds, *]; done)
    · refine x_iload_n dX11_holds_18 rfl ?_
      refine y_iconst (a := 0) dX11_holds_19 rfl ?_
      refine y_iconst (a := 1) dX11_holds_20 rfl ?_
      refine q_X11_77 (c_within (by omega) (by omega)) dX11_holds_21 rfl ?_
      rintro _ _ ⟨rfl, rfl⟩
      refine z_if_ne 30 dX11_holds_24 (fun h_24 => ?_) (fun h_24 => ?_)
      · obtain ⟨g, hg, rfl⟩ := inR_nI h_5 (by omega)
        obtain ⟨hI, h999⟩ := hLv.goer hg
        have tg := tN_nI (g := g) (by omega)
        have hgo := hw.goer hg
        obtain ⟨n0, hn0, hn1, rfl⟩ := inB_nI h_15 (by omega)
        have tn := tN_nI (g := n0) (by omega)
        obtain ⟨w0, hw0, hw1, rfl⟩ := inB_nI h_24 (by omega)
        have hpw := pow9 (n := σ.v 0) (by omega)
        have hp6 := pow6 (n := σ.v 2) (by omega)
        refine x_aload_n dX11_holds_30 rfl ?_
        refine g_X11_68 dX11_holds_31 ?_
        refine x_aload_n dX11_holds_34 rfl ?_
        refine g_X11_58 dX11_holds_35 ?_
        refine x_iload_n dX11_holds_38 rfl ?_
        refine x_iload_n dX11_holds_39 rfl ?_
        refine q_X11_259 (c_fewestHeld Lk49 (by decide) hR hI hg (by omega) (by omega)) dX11_holds_40 rfl ?_
        rintro _ M1 ⟨rfl, hF1⟩
        obtain ⟨hC1, hM1⟩ := hC.fr65 hF1
        refine x_iload_n dX11_holds_43 rfl ?_
        refine q_X11_256 (c_countOrSet (fun b hb => by have := bst_lt hb; omega) hw1) dX11_holds_44 rfl ?_
        rintro _ _ ⟨rfl, rfl⟩
        refine x_iret dX11_holds_47 ?_
        first
          | (refine ⟨congrArg (fun z => some (Value.int z)) ?_, hC1, hM1⟩
             simp [R_holds, *]; done)
          | (refine ⟨congrArg (fun z => some (Value.int z)) ?_, hC, FrM.rf⟩
             simp [R_holds, *]; done)
      · refine x_ldc dX11_holds_27 k_X11_81 ?_
        refine x_iret dX11_holds_29 ?_
        first
          | (refine ⟨congrArg (fun z => some (Value.int z)) ?_, hC1, hM1⟩
             simp [R_holds, *]; done)
          | (refine ⟨congrArg (fun z => some (Value.int z)) ?_, hC, FrM.rf⟩
             simp [R_holds, *]; done)
set_option maxRecDepth 100000 in
set_option maxHeartbeats 4000000 in
theorem c_heavy {Ω : Om} {l : Launch} {M : Mem} {σ : Sg} (hC : IC M σ) (hW : SgW σ) {n : Int32} : Ct Ω l yX11_heavy cX11_heavy 2 8 (some .int) [.ref (Ω.2.2 0), .int n] M (fun ro M' => ro = some (.int (R_heavy σ.v n)) ∧ IC M' σ ∧ FrM M M') := by
  have hL49 : Lk 49 := Lk49
  have hL57 : Lk 57 := Lk57
  have hR := hC.lake
  have hLv : Lv σ.v := hW.2.2.1
  have hw := hLv.wv
  have hn := hw.nums
  have hL65 : Lk 65 := Lk65
  refine ct_of (by decide) (Nat.le_of_ble_eq_true rfl) ?_
  intro p e R s m args below meth c
  refine x_aload_n dX11_heavy_0 rfl ?_
  refine q_X11_161 (c_hasNoLake hR hw) dX11_heavy_1 rfl ?_
  rintro _ _ ⟨rfl, rfl⟩
  refine z_if_eq 10 dX11_heavy_4 (fun h_4 => ?_) (fun h_4 => ?_)
  · have h0 : ¬ σ.v 0 = 0 := by simpa using h_4
    obtain ⟨hI, h999⟩ := hLv.rung (r := 0) (by omega)
    refine x_iload_n dX11_heavy_10 rfl ?_
    refine y_iconst (a := 1) dX11_heavy_11 rfl ?_
    refine x_bipush (v := nI 60) dX11_heavy_12 rfl ?_
    refine q_X11_77 (c_within (by omega) (by omega)) dX11_heavy_14 rfl ?_
    rintro _ _ ⟨rfl, rfl⟩
    refine z_if_ne 23 dX11_heavy_17 (fun h_17 => ?_) (fun h_17 => ?_)
    · obtain ⟨n0, hn0, hn1, rfl⟩ := inB_nI h_17 (by omega)
      have tn := tN_nI (g := n0) (by omega)
      refine x_aload_n dX11_heavy_23 rfl ?_
      refine g_X11_68 dX11_heavy_24 ?_
      refine x_aload_n dX11_heavy_27 rfl ?_
      refine g_X11_58 dX11_heavy_28 ?_
      refine x_iload_n dX11_heavy_31 rfl ?_
      refine q_X11_275 (c_greatestWeight Lk49 (by decide) hR hI (by omega) (by omega)) dX11_heavy_32 rfl ?_
      rintro _ M1 ⟨rfl, hF1⟩
      obtain ⟨hC1, hM1⟩ := hC.fr65 hF1
      refine x_iret dX11_heavy_35 ?_
      first
        | (refine ⟨congrArg (fun z => some (Value.int z)) ?_, hC1, hM1⟩
           simp [R_heavy, *]; done)
        | (refine ⟨congrArg (fun z => some (Value.int z)) ?_, hC, FrM.rf⟩
           simp [R_heavy, *]; done)
        | (refine ⟨congrArg (fun z => some (Value.int z)) ?_, hC, FrM.rf⟩
           simp at h_4; simp [R_heavy, h_4]; done)
    · refine x_ldc dX11_heavy_20 k_X11_81 ?_
      refine x_iret dX11_heavy_22 ?_
      first
        | (refine ⟨congrArg (fun z => some (Value.int z)) ?_, hC1, hM1⟩
           simp [R_heavy, *]; done)
        | (refine ⟨congrArg (fun z => some (Value.int z)) ?_, hC, FrM.rf⟩
           simp [R_heavy, *]; done)
        | (refine ⟨congrArg (fun z => some (Value.int z)) ?_, hC, FrM.rf⟩
           simp at h_4; simp [R_heavy, h_4]; done)
  · refine x_ldc dX11_heavy_7 k_X11_154 ?_
    refine x_iret dX11_heavy_9 ?_
    first
      | (refine ⟨congrArg (fun z => some (Value.int z)) ?_, hC1, hM1⟩
         simp [R_heavy, *]; done)
      | (refine ⟨congrArg (fun z => some (Value.int z)) ?_, hC, FrM.rf⟩
         simp [R_heavy, *]; done)
      | (refine ⟨congrArg (fun z => some (Value.int z)) ?_, hC, FrM.rf⟩
         simp at h_4; simp [R_heavy, h_4]; done)
