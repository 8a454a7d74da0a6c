/-! THE REFERENCE, second part (laid by gen_m2.py): an hour -/
theorem bit_or : ∀ u, u < 64 → ∀ g, g < 6 → u.testBit g = true → u ||| 2 ^ g = u := by decide +kernel
theorem bit_clr : ∀ u, u < 64 → ∀ g, g < 6 → u.testBit g = false → clr u g = u := by decide +kernel
theorem clr_or : ∀ u, u < 64 → ∀ g, g < 6 → clr u g ||| 2 ^ g = u ||| 2 ^ g := by decide +kernel
theorem clr_I : ∀ u, u < 64 → ∀ g, g < 6 → nI u &&& (nI (2 ^ g) ^^^ (-1)) = nI (clr u g) := by decide +kernel
theorem brk_sv5 (v : Nat → Nat) (x p : Nat) : brk (sv v 5 x) p = brk v p := by
  unfold brk
  rw [sv_ne v x (show 0 ≠ 5 by decide)]
  by_cases h : p = 0
  · subst h; simp
  · rw [sv_ne v x (show 5 + p ≠ 5 by omega)]
theorem dnF_sv5 (v : Nat → Nat) (x p : Nat) : dnF (sv v 5 x) p = dnF v p := by
  unfold dnF
  simp only [brk_sv5]
theorem dpV_none {v : Nat → Nat} {g : Nat} (h : dnF v (v (33 + g)) = none) : dpV v g = v := by unfold dpV; rw [h]
theorem dpV_some {v : Nat → Nat} {g q : Nat} (h : dnF v (v (33 + g)) = some q) : dpV v g = sv v (33 + g) q := by unfold dpV; rw [h]
section
variable {v : Nat → Nat} {g : Nat}
theorem mv1 (h : v (15 + g) = 1) : mvV v g = suV v g := by unfold mvV; rw [if_pos h]
theorem mv2 (h : v (15 + g) = 2) : mvV v g = if (suP v g).isSome = true then suV (suV v g) g else v := by unfold mvV; rw [if_neg (by omega), if_pos h]
theorem mv3 (h : v (15 + g) = 3) : mvV v g = if v 3 % 2 = 0 then suV v g else v := by unfold mvV; rw [if_neg (by omega), if_neg (by omega), if_pos h]
theorem mv4 (h : 4 ≤ v (15 + g)) : mvV v g = if upw (tiV v g) g = true then suV (tiV v g) g else sdV (tiV v g) g := by unfold mvV; rw [if_neg (by omega), if_neg (by omega), if_neg (by omega)]
theorem suV_abv (h : v 0 < v (33 + g)) : suV v g = v := by
  have : suP v g = none := by unfold suP upF; rw [if_pos h]
  exact suV_none this
theorem suP_rung (h : ¬ v (33 + g) = 0) : suP v g = upF v (v (33 + g)) := by
  unfold suP
  split
  · next e => exact e.symm
  · next q e => rw [if_neg (fun z => h z.1)]; exact e.symm
theorem fe_up (hw : Wv v) (hg : g < v 2) (hk : 4 ≤ v (15 + g)) (hu : upw v g = true) (hc : v (33 + g) = 0 ∨ ¬ (v (33 + g) = hiS v ∨ upF v (v (33 + g)) = none)) : mvV v g = sv (suV v g) 5 (suV v g 5 ||| 2 ^ g) := by
  have h6 := hw.nums
  have e : tiV v g = v := by unfold tiV; rw [if_neg (by rcases hc with h | h; exact fun z => z.1 h; exact fun z => h z.2)]
  rw [mv4 hk, e, if_pos hu]
  rw [suV_ne (show (5 : Nat) ≠ 33 + g by omega), bit_or _ hw.up64 g (by omega) hu]
  funext j
  by_cases hj : j = 5
  · subst hj; rw [sv_eq, suV_ne (by omega)]
  · rw [sv_ne _ _ hj]
theorem fe_dn (hw : Wv v) (hg : g < v 2) (hk : 4 ≤ v (15 + g)) (hp : 1 ≤ v (33 + g)) (hd : upw v g = false ∨ (v (33 + g) = hiS v ∨ upF v (v (33 + g)) = none)) : mvV v g = if dpV v g (33 + g) = 0 then sv (dpV v g) 5 (dpV v g 5 ||| 2 ^ g) else sv (dpV v g) 5 (clr (dpV v g 5) g) := by
  have h6 := hw.nums
  have hu := hw.up64
  have e : tiV v g = sv v 5 (clr (v 5) g) := by
    unfold tiV
    by_cases c : v (33 + g) = hiS v ∨ upF v (v (33 + g)) = none
    · rw [if_pos ⟨by omega, c⟩]
    · rw [if_neg (fun z => c z.2)]
      have := hd.resolve_right c
      rw [bit_clr _ hu g (by omega) this]
      funext j
      by_cases hj : j = 5
      · subst hj; rw [sv_eq]
      · rw [sv_ne _ _ hj]
  have e2 : upw (tiV v g) g = false := by
    rw [e]; unfold upw; rw [sv_eq, clr_bit _ hu g (by omega) g (by omega)]; simp
  rw [mv4 hk, if_neg (by rw [e2]; exact Bool.false_ne_true), e]
  unfold sdV
  rw [dnF_sv5, sv_ne _ _ (show 33 + g ≠ 5 by omega)]
  rcases eq : dnF v (v (33 + g)) with _ | q
  · rw [dpV_none eq, if_neg (by omega)]
  · rw [dpV_some eq]
    simp only []
    rw [sv_eq, sv_ne _ _ (show (5 : Nat) ≠ 33 + g by omega), sv_eq]
    by_cases hq : q = 0
    · rw [if_pos hq, if_pos hq, clr_or _ hu g (by omega)]
      subst hq
      funext j
      by_cases hj : j = 5
      · subst hj; rw [sv_eq, sv_eq]
      · rw [sv_ne _ _ hj, sv_ne _ _ hj]
        by_cases hj2 : j = 33 + g
        · subst hj2; rw [sv_eq, sv_eq]
        · rw [sv_ne _ _ hj2, sv_ne _ _ hj2, sv_ne _ _ hj]
    · rw [if_neg hq, if_neg hq]
      funext j
      by_cases hj : j = 5
      · subst hj; rw [sv_eq, sv_ne _ _ (by omega), sv_eq]
      · rw [sv_ne _ _ hj]
        by_cases hj2 : j = 33 + g
        · subst hj2; rw [sv_eq, sv_eq]
        · rw [sv_ne _ _ hj2, sv_ne _ _ hj2, sv_ne _ _ hj]
def bqN (v : Nat → Nat) (p k : Nat) : Nat → Nat := sv (bkN v p k) 5 (v 5 ||| orN (fun g => if v (33 + g) = p then 2 ^ g else 0) k)
theorem bqN_0 (p : Nat) (hp : 1 ≤ p) {j : Nat} : bqN v p 0 j = sv v (5 + p) 0 j := by
  unfold bqN bkN orN
  by_cases hj : j = 5
  · subst hj; rw [sv_eq, sv_ne _ _ (by omega), Nat.or_zero]
  · rw [sv_ne _ _ hj]
theorem bqN_at {p k j : Nat} (h5 : j ≠ 5) (h : j ≠ 5 + p) (h1 : j < 33 ∨ 33 + k ≤ j) (h2 : j < 39 ∨ 39 + k ≤ j) : bqN v p k j = v j := by
  unfold bqN
  rw [sv_ne _ _ h5, bkN_ne p k h h1 h2]
theorem bqN_skip {p k : Nat} (hp : 1 ≤ p) (hp9 : p ≤ 9) (hk : k < 6) (h : ¬ v (33 + k) = p) {j : Nat} : bqN v p (k + 1) j = bqN v p k j := by
  unfold bqN
  have e : bkN v p k (33 + k) = v (33 + k) := bkN_ne p k (by omega) (by omega) (by omega)
  simp only [bkN, orN]
  rw [e, if_neg h, if_neg h, Nat.or_zero]
theorem bqN_take {p k : Nat} (hp : 1 ≤ p) (hp9 : p ≤ 9) (hk : k < 6) (h : v (33 + k) = p) {j : Nat} : bqN v p (k + 1) j = sv (sv (sv (bqN v p k) (33 + k) 0) 5 (bqN v p k 5 ||| 2 ^ k)) (39 + k) (bqN v p k (39 + k) + 1) j := by
  have e : bkN v p k (33 + k) = v (33 + k) := bkN_ne p k (by omega) (by omega) (by omega)
  have e39 : bqN v p k (39 + k) = bkN v p k (39 + k) := by unfold bqN; rw [sv_ne _ _ (by omega)]
  rw [e39]
  unfold bqN
  simp only [bkN, orN]
  rw [e, if_pos h, if_pos h]
  by_cases hj : j = 5
  · subst hj
    rw [sv_eq, sv_ne _ _ (by omega), sv_eq, sv_eq, Nat.or_assoc]
  · rw [sv_ne _ _ hj]
    by_cases hj2 : j = 39 + k
    · subst hj2; rw [sv_eq, sv_eq]
    · rw [sv_ne _ _ hj2, sv_ne _ _ hj2, sv_ne _ _ hj]
      by_cases hj3 : j = 33 + k
      · subst hj3; rw [sv_eq, sv_eq]
      · rw [sv_ne _ _ hj3, sv_ne _ _ hj3, sv_ne _ _ hj]
end

theorem dpV_ne {v : Nat → Nat} {g j : Nat} (h : j ≠ 33 + g) : dpV v g j = v j := by
  rcases e : dnF v (v (33 + g)) with _ | q
  · rw [dpV_none e]
  · rw [dpV_some e, sv_ne _ _ h]
theorem dpV_le {v : Nat → Nat} (hw : Wv v) {g : Nat} (hg : g < v 2) : dpV v g (33 + g) ≤ 10 := by
  have h1 := hw.goer hg
  have h2 := hw.nums
  rcases e : dnF v (v (33 + g)) with _ | q
  · rw [dpV_none e]; omega
  · have := dnF_le v e
    rw [dpV_some e, sv_eq]; omega
theorem hiS_le (v : Nat → Nat) : ∀ n, hiN v n ≤ n
  | 0 => Nat.le_refl _
  | n + 1 => by
    have := hiS_le v n
    simp only [hiN]
    split <;> omega
set_option maxRecDepth 100000 in
set_option maxHeartbeats 4000000 in
theorem m_fetches {Ω : Om} {l : Launch} {M : Mem} {v : Nat → Nat} (hS : MsR M v) (hI : Iv v) {g : Nat} (hg : g < v 2) (hk : 4 ≤ v (15 + g)) (hp : v (33 + g) ≤ v 0) : Ct Ω l yX12_fetches cX12_fetches 4 6 none [.ref (Ω.2.2 34), .int (nI g)] M (fun ro M' => ro = none ∧ MsR M' (mvV v g) ∧ FS M M') := by
  have hw := hI.1
  have hn := hw.nums
  have hgo := hw.goer hg
  have h5 := hw.up64
  have hq : ∀ q, suP v g = some q → q < 2 ^ 31 := fun q h => by have := suP_le v h; omega
  have hne := nO_neg hq
  have hpl : upw v g = false → 1 ≤ v (33 + g) := fun h => by
    rcases Nat.eq_zero_or_pos (v (33 + g)) with z | z
    · have := (hI.2.2 g hg).1 z; rw [h] at this; cases this
    · exact z
  have hhi := hiS_le v (v 0)
  have hhi2 : hiS v ≤ v 0 := hhi
  refine ct_of (by decide) (Nat.le_of_ble_eq_true rfl) ?_
  intro p e R s m args below meth c
  refine x_aload_n dX12_fetches_0 rfl ?_
  refine g_X12_19 dX12_fetches_1 ?_
  refine x_bipush (v := nI 33) dX12_fetches_4 rfl ?_
  refine x_iload_n dX12_fetches_6 rfl ?_
  refine y_iadd dX12_fetches_7 ?_
  refine x_ial dX12_fetches_8 (⟨by decide, rfl, rfl, by decide⟩ : Ar 38 45) (by omega) ?_
  rw [hS.at (by omega)]
  refine x_istore_n dX12_fetches_9 ?_
  refine x_aload_n dX12_fetches_10 rfl ?_
  refine g_X12_19 dX12_fetches_11 ?_
  refine y_iconst (a := 5) dX12_fetches_14 rfl ?_
  refine x_ial dX12_fetches_15 (⟨by decide, rfl, rfl, by decide⟩ : Ar 38 45) (by omega) ?_
  rw [hS.at (by omega)]
  refine x_iload_n dX12_fetches_16 rfl ?_
  refine q_X12_174 (m_has (by omega) (by omega)) dX12_fetches_17 rfl ?_
  rintro _ _ ⟨rfl, rfl⟩
  rcases hu0 : (v 5).testBit g with _ | _
  · have hu : upw v g = false := hu0
    refine x_istore_n dX12_fetches_20 ?_
    refine x_iload_n dX12_fetches_21 rfl ?_
    refine z_if_eq 48 dX12_fetches_22 (fun _ => ?_) (fun h => absurd h (by decide))
    show X _ _ _ _ _ _ _ _ [some (.ref (Ω.2.2 34)), some (.int (nI g)), some (.int (nI (v (33 + g)))), some (.int _)] _ _
    refine x_aload_n dX12_fetches_48 rfl ?_
    refine x_iload_n dX12_fetches_49 rfl ?_
    refine x_iload_n dX12_fetches_50 rfl ?_
    refine z_if_eq 58 dX12_fetches_51 (fun _ => ?_) (fun h => absurd h (by decide))
    have hp1 : 1 ≤ v (33 + g) := by
      first
        | omega
        | exact hpl hu
    refine x_iconst (v := -1) dX12_fetches_58 rfl ?_
    refine q_X12_181 (m_goDown hS hw hg hp1) dX12_fetches_59 rfl ?_
    rintro _ M1 ⟨rfl, hS, hF⟩
    have hdp := dpV_le hw hg
    have hd5 : dpV v g 5 < 64 := by rw [dpV_ne (by omega)]; exact hw.up64
    refine x_pop dX12_fetches_62 rfl ?_
    refine x_iload_n dX12_fetches_63 rfl ?_
    refine z_if_ne 79 dX12_fetches_64 (fun h => absurd h (by decide)) (fun _ => ?_)
    refine x_aload_n dX12_fetches_67 rfl ?_
    refine g_X12_19 dX12_fetches_68 ?_
    refine x_bipush (v := nI 33) dX12_fetches_71 rfl ?_
    refine x_iload_n dX12_fetches_73 rfl ?_
    refine y_iadd dX12_fetches_74 ?_
    refine x_ial dX12_fetches_75 (⟨by decide, rfl, rfl, by decide⟩ : Ar 38 45) (by omega) ?_
    rw [hS.at (by omega)]
    refine y_if_ne 83 dX12_fetches_76 (by omega) (fun h_76 => ?_) (fun h_76 => ?_)
    · refine x_iconst (v := bI false) dX12_fetches_83 rfl ?_
      refine x_istore_n dX12_fetches_84 ?_
      show X _ _ _ _ _ _ _ _ [some (.ref (Ω.2.2 34)), some (.int (nI g)), some (.int (nI (v (33 + g)))), some (.int _)] _ _
      refine x_aload_n dX12_fetches_85 rfl ?_
      refine g_X12_19 dX12_fetches_86 ?_
      refine y_iconst (a := 5) dX12_fetches_89 rfl ?_
      refine x_iload_n dX12_fetches_90 rfl ?_
      refine z_if_eq 107 dX12_fetches_91 (fun _ => ?_) (fun h => absurd h (by decide))
      refine x_aload_n dX12_fetches_107 rfl ?_
      refine g_X12_19 dX12_fetches_108 ?_
      refine y_iconst (a := 5) dX12_fetches_111 rfl ?_
      refine x_ial dX12_fetches_112 (⟨by decide, rfl, rfl, by decide⟩ : Ar 38 45) (by omega) ?_
      rw [hS.at (by omega)]
      refine y_iconst (a := 1) dX12_fetches_113 rfl ?_
      refine x_iload_n dX12_fetches_114 rfl ?_
      refine y_ishl dX12_fetches_115 (by omega) ?_
      try rw [Nat.one_mul]
      refine x_iconst (v := -1) dX12_fetches_116 rfl ?_
      refine x_ixor dX12_fetches_117 ?_
      refine x_iand dX12_fetches_118 ?_
      rw [clr_I _ hd5 g (by omega)]
      refine x_ias dX12_fetches_119 (⟨by decide, rfl, rfl, by decide⟩ : Ar 38 45) (by omega) ?_
      refine x_vret dX12_fetches_120 ?_
      first
        | (have e := fe_up hw hg hk hu (by first | (left; omega) | (right; rintro (z | z); (exact absurd z (by omega)); (rw [← suP_rung (by omega)] at z; have := hne.mpr z; omega)))
           rw [e]
           exact ⟨rfl, hS.set _ _, hF.up⟩)
        | (have e := fe_dn hw hg hk hp1 (by first | (left; assumption) | (right; left; assumption) | (right; right; rw [← suP_rung (by omega)]; exact hne.mp (by omega)))
           rw [e]
           first
             | (rw [if_pos (by assumption)]; exact ⟨rfl, hS.set _ _, hF.up⟩)
             | (rw [if_neg (by assumption)]; exact ⟨rfl, hS.set _ _, hF.up⟩))
    · refine x_iconst (v := bI true) dX12_fetches_79 rfl ?_
      refine x_goto 84 dX12_fetches_80 ?_
      refine x_istore_n dX12_fetches_84 ?_
      show X _ _ _ _ _ _ _ _ [some (.ref (Ω.2.2 34)), some (.int (nI g)), some (.int (nI (v (33 + g)))), some (.int _)] _ _
      refine x_aload_n dX12_fetches_85 rfl ?_
      refine g_X12_19 dX12_fetches_86 ?_
      refine y_iconst (a := 5) dX12_fetches_89 rfl ?_
      refine x_iload_n dX12_fetches_90 rfl ?_
      refine z_if_eq 107 dX12_fetches_91 (fun h => absurd h (by decide)) (fun _ => ?_)
      refine x_aload_n dX12_fetches_94 rfl ?_
      refine g_X12_19 dX12_fetches_95 ?_
      refine y_iconst (a := 5) dX12_fetches_98 rfl ?_
      refine x_ial dX12_fetches_99 (⟨by decide, rfl, rfl, by decide⟩ : Ar 38 45) (by omega) ?_
      rw [hS.at (by omega)]
      refine y_iconst (a := 1) dX12_fetches_100 rfl ?_
      refine x_iload_n dX12_fetches_101 rfl ?_
      refine y_ishl dX12_fetches_102 (by omega) ?_
      try rw [Nat.one_mul]
      refine y_ior dX12_fetches_103 ?_
      refine x_goto 119 dX12_fetches_104 ?_
      refine x_ias dX12_fetches_119 (⟨by decide, rfl, rfl, by decide⟩ : Ar 38 45) (by omega) ?_
      refine x_vret dX12_fetches_120 ?_
      first
        | (have e := fe_up hw hg hk hu (by first | (left; omega) | (right; rintro (z | z); (exact absurd z (by omega)); (rw [← suP_rung (by omega)] at z; have := hne.mpr z; omega)))
           rw [e]
           exact ⟨rfl, hS.set _ _, hF.up⟩)
        | (have e := fe_dn hw hg hk hp1 (by first | (left; assumption) | (right; left; assumption) | (right; right; rw [← suP_rung (by omega)]; exact hne.mp (by omega)))
           rw [e]
           first
             | (rw [if_pos (by assumption)]; exact ⟨rfl, hS.set _ _, hF.up⟩)
             | (rw [if_neg (by assumption)]; exact ⟨rfl, hS.set _ _, hF.up⟩))
  · have hu : upw v g = true := hu0
    refine x_istore_n dX12_fetches_20 ?_
    refine x_iload_n dX12_fetches_21 rfl ?_
    refine z_if_eq 48 dX12_fetches_22 (fun h => absurd h (by decide)) (fun _ => ?_)
    refine x_iload_n dX12_fetches_25 rfl ?_
    refine y_if_le 48 dX12_fetches_26 (by omega) (fun h_26 => ?_) (fun h_26 => ?_)
    · show X _ _ _ _ _ _ _ _ [some (.ref (Ω.2.2 34)), some (.int (nI g)), some (.int (nI (v (33 + g)))), some (.int _)] _ _
      refine x_aload_n dX12_fetches_48 rfl ?_
      refine x_iload_n dX12_fetches_49 rfl ?_
      refine x_iload_n dX12_fetches_50 rfl ?_
      refine z_if_eq 58 dX12_fetches_51 (fun h => absurd h (by decide)) (fun _ => ?_)
      refine y_iconst (a := 1) dX12_fetches_54 rfl ?_
      refine x_goto 59 dX12_fetches_55 ?_
      refine q_X12_181 (m_goUp hS hw hg hp) dX12_fetches_59 rfl ?_
      rintro _ M1 ⟨rfl, hS, hF⟩
      have hd5 : suV v g 5 < 64 := by rw [suV_ne (by omega)]; exact hw.up64
      refine x_pop dX12_fetches_62 rfl ?_
      refine x_iload_n dX12_fetches_63 rfl ?_
      refine z_if_ne 79 dX12_fetches_64 (fun _ => ?_) (fun h => absurd h (by decide))
      refine x_iconst (v := bI true) dX12_fetches_79 rfl ?_
      refine x_goto 84 dX12_fetches_80 ?_
      refine x_istore_n dX12_fetches_84 ?_
      show X _ _ _ _ _ _ _ _ [some (.ref (Ω.2.2 34)), some (.int (nI g)), some (.int (nI (v (33 + g)))), some (.int _)] _ _
      refine x_aload_n dX12_fetches_85 rfl ?_
      refine g_X12_19 dX12_fetches_86 ?_
      refine y_iconst (a := 5) dX12_fetches_89 rfl ?_
      refine x_iload_n dX12_fetches_90 rfl ?_
      refine z_if_eq 107 dX12_fetches_91 (fun h => absurd h (by decide)) (fun _ => ?_)
      refine x_aload_n dX12_fetches_94 rfl ?_
      refine g_X12_19 dX12_fetches_95 ?_
      refine y_iconst (a := 5) dX12_fetches_98 rfl ?_
      refine x_ial dX12_fetches_99 (⟨by decide, rfl, rfl, by decide⟩ : Ar 38 45) (by omega) ?_
      rw [hS.at (by omega)]
      refine y_iconst (a := 1) dX12_fetches_100 rfl ?_
      refine x_iload_n dX12_fetches_101 rfl ?_
      refine y_ishl dX12_fetches_102 (by omega) ?_
      try rw [Nat.one_mul]
      refine y_ior dX12_fetches_103 ?_
      refine x_goto 119 dX12_fetches_104 ?_
      refine x_ias dX12_fetches_119 (⟨by decide, rfl, rfl, by decide⟩ : Ar 38 45) (by omega) ?_
      refine x_vret dX12_fetches_120 ?_
      first
        | (have e := fe_up hw hg hk hu (by first | (left; omega) | (right; rintro (z | z); (exact absurd z (by omega)); (rw [← suP_rung (by omega)] at z; have := hne.mpr z; omega)))
           rw [e]
           exact ⟨rfl, hS.set _ _, hF.up⟩)
        | (have e := fe_dn hw hg hk hp1 (by first | (left; assumption) | (right; left; assumption) | (right; right; rw [← suP_rung (by omega)]; exact hne.mp (by omega)))
           rw [e]
           first
             | (rw [if_pos (by assumption)]; exact ⟨rfl, hS.set _ _, hF.up⟩)
             | (rw [if_neg (by assumption)]; exact ⟨rfl, hS.set _ _, hF.up⟩))
    · refine x_iload_n dX12_fetches_29 rfl ?_
      refine x_aload_n dX12_fetches_30 rfl ?_
      refine q_X12_178 (m_highest hS hw) dX12_fetches_31 rfl ?_
      rintro _ _ ⟨rfl, rfl⟩
      refine y_icmp_eq 46 dX12_fetches_34 (by omega) (by omega) (fun h_34 => ?_) (fun h_34 => ?_)
      · refine x_iconst (v := bI false) dX12_fetches_46 rfl ?_
        refine x_istore_n dX12_fetches_47 ?_
        show X _ _ _ _ _ _ _ _ [some (.ref (Ω.2.2 34)), some (.int (nI g)), some (.int (nI (v (33 + g)))), some (.int _)] _ _
        refine x_aload_n dX12_fetches_48 rfl ?_
        refine x_iload_n dX12_fetches_49 rfl ?_
        refine x_iload_n dX12_fetches_50 rfl ?_
        refine z_if_eq 58 dX12_fetches_51 (fun _ => ?_) (fun h => absurd h (by decide))
        have hp1 : 1 ≤ v (33 + g) := by
          first
            | omega
            | exact hpl hu
        refine x_iconst (v := -1) dX12_fetches_58 rfl ?_
        refine q_X12_181 (m_goDown hS hw hg hp1) dX12_fetches_59 rfl ?_
        rintro _ M1 ⟨rfl, hS, hF⟩
        have hdp := dpV_le hw hg
        have hd5 : dpV v g 5 < 64 := by rw [dpV_ne (by omega)]; exact hw.up64
        refine x_pop dX12_fetches_62 rfl ?_
        refine x_iload_n dX12_fetches_63 rfl ?_
        refine z_if_ne 79 dX12_fetches_64 (fun h => absurd h (by decide)) (fun _ => ?_)
        refine x_aload_n dX12_fetches_67 rfl ?_
        refine g_X12_19 dX12_fetches_68 ?_
        refine x_bipush (v := nI 33) dX12_fetches_71 rfl ?_
        refine x_iload_n dX12_fetches_73 rfl ?_
        refine y_iadd dX12_fetches_74 ?_
        refine x_ial dX12_fetches_75 (⟨by decide, rfl, rfl, by decide⟩ : Ar 38 45) (by omega) ?_
        rw [hS.at (by omega)]
        refine y_if_ne 83 dX12_fetches_76 (by omega) (fun h_76 => ?_) (fun h_76 => ?_)
        · refine x_iconst (v := bI false) dX12_fetches_83 rfl ?_
          refine x_istore_n dX12_fetches_84 ?_
          show X _ _ _ _ _ _ _ _ [some (.ref (Ω.2.2 34)), some (.int (nI g)), some (.int (nI (v (33 + g)))), some (.int _)] _ _
          refine x_aload_n dX12_fetches_85 rfl ?_
          refine g_X12_19 dX12_fetches_86 ?_
          refine y_iconst (a := 5) dX12_fetches_89 rfl ?_
          refine x_iload_n dX12_fetches_90 rfl ?_
          refine z_if_eq 107 dX12_fetches_91 (fun _ => ?_) (fun h => absurd h (by decide))
          refine x_aload_n dX12_fetches_107 rfl ?_
          refine g_X12_19 dX12_fetches_108 ?_
          refine y_iconst (a := 5) dX12_fetches_111 rfl ?_
          refine x_ial dX12_fetches_112 (⟨by decide, rfl, rfl, by decide⟩ : Ar 38 45) (by omega) ?_
          rw [hS.at (by omega)]
          refine y_iconst (a := 1) dX12_fetches_113 rfl ?_
          refine x_iload_n dX12_fetches_114 rfl ?_
          refine y_ishl dX12_fetches_115 (by omega) ?_
          try rw [Nat.one_mul]
          refine x_iconst (v := -1) dX12_fetches_116 rfl ?_
          refine x_ixor dX12_fetches_117 ?_
          refine x_iand dX12_fetches_118 ?_
          rw [clr_I _ hd5 g (by omega)]
          refine x_ias dX12_fetches_119 (⟨by decide, rfl, rfl, by decide⟩ : Ar 38 45) (by omega) ?_
          refine x_vret dX12_fetches_120 ?_
          first
            | (have e := fe_up hw hg hk hu (by first | (left; omega) | (right; rintro (z | z); (exact absurd z (by omega)); (rw [← suP_rung (by omega)] at z; have := hne.mpr z; omega)))
               rw [e]
               exact ⟨rfl, hS.set _ _, hF.up⟩)
            | (have e := fe_dn hw hg hk hp1 (by first | (left; assumption) | (right; left; assumption) | (right; right; rw [← suP_rung (by omega)]; exact hne.mp (by omega)))
               rw [e]
               first
                 | (rw [if_pos (by assumption)]; exact ⟨rfl, hS.set _ _, hF.up⟩)
                 | (rw [if_neg (by assumption)]; exact ⟨rfl, hS.set _ _, hF.up⟩))
        · refine x_iconst (v := bI true) dX12_fetches_79 rfl ?_
          refine x_goto 84 dX12_fetches_80 ?_
          refine x_istore_n dX12_fetches_84 ?_
          show X _ _ _ _ _ _ _ _ [some (.ref (Ω.2.2 34)), some (.int (nI g)), some (.int (nI (v (33 + g)))), some (.int _)] _ _
          refine x_aload_n dX12_fetches_85 rfl ?_
          refine g_X12_19 dX12_fetches_86 ?_
          refine y_iconst (a := 5) dX12_fetches_89 rfl ?_
          refine x_iload_n dX12_fetches_90 rfl ?_
          refine z_if_eq 107 dX12_fetches_91 (fun h => absurd h (by decide)) (fun _ => ?_)
          refine x_aload_n dX12_fetches_94 rfl ?_
          refine g_X12_19 dX12_fetches_95 ?_
          refine y_iconst (a := 5) dX12_fetches_98 rfl ?_
          refine x_ial dX12_fetches_99 (⟨by decide, rfl, rfl, by decide⟩ : Ar 38 45) (by omega) ?_
          rw [hS.at (by omega)]
          refine y_iconst (a := 1) dX12_fetches_100 rfl ?_
          refine x_iload_n dX12_fetches_101 rfl ?_
          refine y_ishl dX12_fetches_102 (by omega) ?_
          try rw [Nat.one_mul]
          refine y_ior dX12_fetches_103 ?_
          refine x_goto 119 dX12_fetches_104 ?_
          refine x_ias dX12_fetches_119 (⟨by decide, rfl, rfl, by decide⟩ : Ar 38 45) (by omega) ?_
          refine x_vret dX12_fetches_120 ?_
          first
            | (have e := fe_up hw hg hk hu (by first | (left; omega) | (right; rintro (z | z); (exact absurd z (by omega)); (rw [← suP_rung (by omega)] at z; have := hne.mpr z; omega)))
               rw [e]
               exact ⟨rfl, hS.set _ _, hF.up⟩)
            | (have e := fe_dn hw hg hk hp1 (by first | (left; assumption) | (right; left; assumption) | (right; right; rw [← suP_rung (by omega)]; exact hne.mp (by omega)))
               rw [e]
               first
                 | (rw [if_pos (by assumption)]; exact ⟨rfl, hS.set _ _, hF.up⟩)
                 | (rw [if_neg (by assumption)]; exact ⟨rfl, hS.set _ _, hF.up⟩))
      · refine x_aload_n dX12_fetches_37 rfl ?_
        refine x_iload_n dX12_fetches_38 rfl ?_
        refine y_iconst (a := 1) dX12_fetches_39 rfl ?_
        refine q_X12_171 (m_stepUp hS hw hg hp) dX12_fetches_40 rfl ?_
        rintro _ _ ⟨rfl, rfl⟩
        refine x_if_ge 48 dX12_fetches_43 (fun h_43 => ?_) (fun h_43 => ?_)
        · show X _ _ _ _ _ _ _ _ [some (.ref (Ω.2.2 34)), some (.int (nI g)), some (.int (nI (v (33 + g)))), some (.int _)] _ _
          refine x_aload_n dX12_fetches_48 rfl ?_
          refine x_iload_n dX12_fetches_49 rfl ?_
          refine x_iload_n dX12_fetches_50 rfl ?_
          refine z_if_eq 58 dX12_fetches_51 (fun h => absurd h (by decide)) (fun _ => ?_)
          refine y_iconst (a := 1) dX12_fetches_54 rfl ?_
          refine x_goto 59 dX12_fetches_55 ?_
          refine q_X12_181 (m_goUp hS hw hg hp) dX12_fetches_59 rfl ?_
          rintro _ M1 ⟨rfl, hS, hF⟩
          have hd5 : suV v g 5 < 64 := by rw [suV_ne (by omega)]; exact hw.up64
          refine x_pop dX12_fetches_62 rfl ?_
          refine x_iload_n dX12_fetches_63 rfl ?_
          refine z_if_ne 79 dX12_fetches_64 (fun _ => ?_) (fun h => absurd h (by decide))
          refine x_iconst (v := bI true) dX12_fetches_79 rfl ?_
          refine x_goto 84 dX12_fetches_80 ?_
          refine x_istore_n dX12_fetches_84 ?_
          show X _ _ _ _ _ _ _ _ [some (.ref (Ω.2.2 34)), some (.int (nI g)), some (.int (nI (v (33 + g)))), some (.int _)] _ _
          refine x_aload_n dX12_fetches_85 rfl ?_
          refine g_X12_19 dX12_fetches_86 ?_
          refine y_iconst (a := 5) dX12_fetches_89 rfl ?_
          refine x_iload_n dX12_fetches_90 rfl ?_
          refine z_if_eq 107 dX12_fetches_91 (fun h => absurd h (by decide)) (fun _ => ?_)
          refine x_aload_n dX12_fetches_94 rfl ?_
          refine g_X12_19 dX12_fetches_95 ?_
          refine y_iconst (a := 5) dX12_fetches_98 rfl ?_
          refine x_ial dX12_fetches_99 (⟨by decide, rfl, rfl, by decide⟩ : Ar 38 45) (by omega) ?_
          rw [hS.at (by omega)]
          refine y_iconst (a := 1) dX12_fetches_100 rfl ?_
          refine x_iload_n dX12_fetches_101 rfl ?_
          refine y_ishl dX12_fetches_102 (by omega) ?_
          try rw [Nat.one_mul]
          refine y_ior dX12_fetches_103 ?_
          refine x_goto 119 dX12_fetches_104 ?_
          refine x_ias dX12_fetches_119 (⟨by decide, rfl, rfl, by decide⟩ : Ar 38 45) (by omega) ?_
          refine x_vret dX12_fetches_120 ?_
          first
            | (have e := fe_up hw hg hk hu (by first | (left; omega) | (right; rintro (z | z); (exact absurd z (by omega)); (rw [← suP_rung (by omega)] at z; have := hne.mpr z; omega)))
               rw [e]
               exact ⟨rfl, hS.set _ _, hF.up⟩)
            | (have e := fe_dn hw hg hk hp1 (by first | (left; assumption) | (right; left; assumption) | (right; right; rw [← suP_rung (by omega)]; exact hne.mp (by omega)))
               rw [e]
               first
                 | (rw [if_pos (by assumption)]; exact ⟨rfl, hS.set _ _, hF.up⟩)
                 | (rw [if_neg (by assumption)]; exact ⟨rfl, hS.set _ _, hF.up⟩))
        · refine x_iconst (v := bI false) dX12_fetches_46 rfl ?_
          refine x_istore_n dX12_fetches_47 ?_
          show X _ _ _ _ _ _ _ _ [some (.ref (Ω.2.2 34)), some (.int (nI g)), some (.int (nI (v (33 + g)))), some (.int _)] _ _
          refine x_aload_n dX12_fetches_48 rfl ?_
          refine x_iload_n dX12_fetches_49 rfl ?_
          refine x_iload_n dX12_fetches_50 rfl ?_
          refine z_if_eq 58 dX12_fetches_51 (fun _ => ?_) (fun h => absurd h (by decide))
          have hp1 : 1 ≤ v (33 + g) := by
            first
              | omega
              | exact hpl hu
          refine x_iconst (v := -1) dX12_fetches_58 rfl ?_
          refine q_X12_181 (m_goDown hS hw hg hp1) dX12_fetches_59 rfl ?_
          rintro _ M1 ⟨rfl, hS, hF⟩
          have hdp := dpV_le hw hg
          have hd5 : dpV v g 5 < 64 := by rw [dpV_ne (by omega)]; exact hw.up64
          refine x_pop dX12_fetches_62 rfl ?_
          refine x_iload_n dX12_fetches_63 rfl ?_
          refine z_if_ne 79 dX12_fetches_64 (fun h => absurd h (by decide)) (fun _ => ?_)
          refine x_aload_n dX12_fetches_67 rfl ?_
          refine g_X12_19 dX12_fetches_68 ?_
          refine x_bipush (v := nI 33) dX12_fetches_71 rfl ?_
          refine x_iload_n dX12_fetches_73 rfl ?_
          refine y_iadd dX12_fetches_74 ?_
          refine x_ial dX12_fetches_75 (⟨by decide, rfl, rfl, by decide⟩ : Ar 38 45) (by omega) ?_
          rw [hS.at (by omega)]
          refine y_if_ne 83 dX12_fetches_76 (by omega) (fun h_76 => ?_) (fun h_76 => ?_)
          · refine x_iconst (v := bI false) dX12_fetches_83 rfl ?_
            refine x_istore_n dX12_fetches_84 ?_
            show X _ _ _ _ _ _ _ _ [some (.ref (Ω.2.2 34)), some (.int (nI g)), some (.int (nI (v (33 + g)))), some (.int _)] _ _
            refine x_aload_n dX12_fetches_85 rfl ?_
            refine g_X12_19 dX12_fetches_86 ?_
            refine y_iconst (a := 5) dX12_fetches_89 rfl ?_
            refine x_iload_n dX12_fetches_90 rfl ?_
            refine z_if_eq 107 dX12_fetches_91 (fun _ => ?_) (fun h => absurd h (by decide))
            refine x_aload_n dX12_fetches_107 rfl ?_
            refine g_X12_19 dX12_fetches_108 ?_
            refine y_iconst (a := 5) dX12_fetches_111 rfl ?_
            refine x_ial dX12_fetches_112 (⟨by decide, rfl, rfl, by decide⟩ : Ar 38 45) (by omega) ?_
            rw [hS.at (by omega)]
            refine y_iconst (a := 1) dX12_fetches_113 rfl ?_
            refine x_iload_n dX12_fetches_114 rfl ?_
            refine y_ishl dX12_fetches_115 (by omega) ?_
            try rw [Nat.one_mul]
            refine x_iconst (v := -1) dX12_fetches_116 rfl ?_
            refine x_ixor dX12_fetches_117 ?_
            refine x_iand dX12_fetches_118 ?_
            rw [clr_I _ hd5 g (by omega)]
            refine x_ias dX12_fetches_119 (⟨by decide, rfl, rfl, by decide⟩ : Ar 38 45) (by omega) ?_
            refine x_vret dX12_fetches_120 ?_
            first
              | (have e := fe_up hw hg hk hu (by first | (left; omega) | (right; rintro (z | z); (exact absurd z (by omega)); (rw [← suP_rung (by omega)] at z; have := hne.mpr z; omega)))
                 rw [e]
                 exact ⟨rfl, hS.set _ _, hF.up⟩)
              | (have e := fe_dn hw hg hk hp1 (by first | (left; assumption) | (right; left; assumption) | (right; right; rw [← suP_rung (by omega)]; exact hne.mp (by omega)))
                 rw [e]
                 first
                   | (rw [if_pos (by assumption)]; exact ⟨rfl, hS.set _ _, hF.up⟩)
                   | (rw [if_neg (by assumption)]; exact ⟨rfl, hS.set _ _, hF.up⟩))
          · refine x_iconst (v := bI true) dX12_fetches_79 rfl ?_
            refine x_goto 84 dX12_fetches_80 ?_
            refine x_istore_n dX12_fetches_84 ?_
            show X _ _ _ _ _ _ _ _ [some (.ref (Ω.2.2 34)), some (.int (nI g)), some (.int (nI (v (33 + g)))), some (.int _)] _ _
            refine x_aload_n dX12_fetches_85 rfl ?_
            refine g_X12_19 dX12_fetches_86 ?_
            refine y_iconst (a := 5) dX12_fetches_89 rfl ?_
            refine x_iload_n dX12_fetches_90 rfl ?_
            refine z_if_eq 107 dX12_fetches_91 (fun h => absurd h (by decide)) (fun _ => ?_)
            refine x_aload_n dX12_fetches_94 rfl ?_
            refine g_X12_19 dX12_fetches_95 ?_
            refine y_iconst (a := 5) dX12_fetches_98 rfl ?_
            refine x_ial dX12_fetches_99 (⟨by decide, rfl, rfl, by decide⟩ : Ar 38 45) (by omega) ?_
            rw [hS.at (by omega)]
            refine y_iconst (a := 1) dX12_fetches_100 rfl ?_
            refine x_iload_n dX12_fetches_101 rfl ?_
            refine y_ishl dX12_fetches_102 (by omega) ?_
            try rw [Nat.one_mul]
            refine y_ior dX12_fetches_103 ?_
            refine x_goto 119 dX12_fetches_104 ?_
            refine x_ias dX12_fetches_119 (⟨by decide, rfl, rfl, by decide⟩ : Ar 38 45) (by omega) ?_
            refine x_vret dX12_fetches_120 ?_
            first
              | (have e := fe_up hw hg hk hu (by first | (left; omega) | (right; rintro (z | z); (exact absurd z (by omega)); (rw [← suP_rung (by omega)] at z; have := hne.mpr z; omega)))
                 rw [e]
                 exact ⟨rfl, hS.set _ _, hF.up⟩)
              | (have e := fe_dn hw hg hk hp1 (by first | (left; assumption) | (right; left; assumption) | (right; right; rw [← suP_rung (by omega)]; exact hne.mp (by omega)))
                 rw [e]
                 first
                   | (rw [if_pos (by assumption)]; exact ⟨rfl, hS.set _ _, hF.up⟩)
                   | (rw [if_neg (by assumption)]; exact ⟨rfl, hS.set _ _, hF.up⟩))
set_option maxRecDepth 100000 in
set_option maxHeartbeats 4000000 in
theorem m_move {Ω : Om} {l : Launch} {M : Mem} {v : Nat → Nat} (hS : MsR M v) (hI : Iv v) {g : Nat} (hg : g < v 2) (hp : v (33 + g) ≤ v 0) : Ct Ω l yX12_move cX12_move 2 7 none [.ref (Ω.2.2 34), .int (nI g)] M (fun ro M' => ro = none ∧ MsR M' (mvV v g) ∧ FS M M') := by
  have hw := hI.1
  have hn := hw.nums
  have hgo := hw.goer hg
  have hkd : v (15 + g) = 1 ∨ v (15 + g) = 2 ∨ v (15 + g) = 3 ∨ 4 ≤ v (15 + g) := by omega
  refine ct_of (by decide) (Nat.le_of_ble_eq_true rfl) ?_
  intro p e R s m args below meth c
  refine x_aload_n dX12_move_0 rfl ?_
  refine g_X12_19 dX12_move_1 ?_
  refine x_bipush (v := nI 15) dX12_move_4 rfl ?_
  refine x_iload_n dX12_move_6 rfl ?_
  refine y_iadd dX12_move_7 ?_
  refine x_ial dX12_move_8 (⟨by decide, rfl, rfl, by decide⟩ : Ar 38 45) (by omega) ?_
  rw [hS.at (by omega)]
  rcases hkd with hk | hk | hk | hk
  · rw [hk]
    refine x_tableIn 36 dX12_move_9 (by decide) (by decide) rfl ?_
    refine x_aload_n dX12_move_36 rfl ?_
    refine x_iload_n dX12_move_37 rfl ?_
    refine y_iconst (a := 1) dX12_move_38 rfl ?_
    refine q_X12_181 (m_goUp hS hw hg hp) dX12_move_39 rfl ?_
    rintro _ M1 ⟨rfl, hS1, hF1⟩
    refine x_pop dX12_move_42 rfl ?_
    refine x_goto 99 dX12_move_43 ?_
    refine x_vret dX12_move_99 ?_
    rw [mv1 hk]
    exact ⟨rfl, hS1, hF1⟩
  · rw [hk]
    refine x_tableIn 46 dX12_move_9 (by decide) (by decide) rfl ?_
    refine x_aload_n dX12_move_46 rfl ?_
    refine x_iload_n dX12_move_47 rfl ?_
    refine y_iconst (a := 1) dX12_move_48 rfl ?_
    refine q_X12_181 (m_goUp hS hw hg hp) dX12_move_49 rfl ?_
    rintro _ M1 ⟨rfl, hS1, hF1⟩
    refine z_if_eq 99 dX12_move_52 (fun h_52 => ?_) (fun h_52 => ?_)
    · refine x_vret dX12_move_99 ?_
      rw [mv2 hk]
      first
        | (rw [if_pos h_52]; exact ⟨rfl, hS2, hF1.tr hF2⟩)
        | (rw [if_pos h_52, suV_abv (by simpa only [abv, decide_eq_true_eq] using h_60)]; exact ⟨rfl, hS1, hF1⟩)
        | (rw [if_neg (by rw [h_52]; exact Bool.false_ne_true)]
           rw [suV_none (Option.isNone_iff_eq_none.mp (by rw [← Option.not_isSome, h_52]; rfl))] at hS1
           exact ⟨rfl, hS1, hF1⟩)
    · refine x_aload_n dX12_move_55 rfl ?_
      refine x_iload_n dX12_move_56 rfl ?_
      refine q_X12_184 (m_isAbove hS1 (hw.su hg) (by rw [suV_2]; exact hg)) dX12_move_57 rfl ?_
      rintro _ _ ⟨rfl, rfl⟩
      refine z_if_ne 99 dX12_move_60 (fun h_60 => ?_) (fun h_60 => ?_)
      · refine x_vret dX12_move_99 ?_
        rw [mv2 hk]
        first
          | (rw [if_pos h_52]; exact ⟨rfl, hS2, hF1.tr hF2⟩)
          | (rw [if_pos h_52, suV_abv (by simpa only [abv, decide_eq_true_eq] using h_60)]; exact ⟨rfl, hS1, hF1⟩)
          | (rw [if_neg (by rw [h_52]; exact Bool.false_ne_true)]
             rw [suV_none (Option.isNone_iff_eq_none.mp (by rw [← Option.not_isSome, h_52]; rfl))] at hS1
             exact ⟨rfl, hS1, hF1⟩)
      · refine x_aload_n dX12_move_63 rfl ?_
        refine x_iload_n dX12_move_64 rfl ?_
        refine y_iconst (a := 1) dX12_move_65 rfl ?_
        refine q_X12_181 (m_goUp hS1 (hw.su hg) (by rw [suV_2]; exact hg) (by simp only [abv, decide_eq_false_iff_not] at h_60; omega)) dX12_move_66 rfl ?_
        rintro _ M2 ⟨rfl, hS2, hF2⟩
        refine x_pop dX12_move_69 rfl ?_
        refine x_goto 99 dX12_move_70 ?_
        refine x_vret dX12_move_99 ?_
        rw [mv2 hk]
        first
          | (rw [if_pos h_52]; exact ⟨rfl, hS2, hF1.tr hF2⟩)
          | (rw [if_pos h_52, suV_abv (by simpa only [abv, decide_eq_true_eq] using h_60)]; exact ⟨rfl, hS1, hF1⟩)
          | (rw [if_neg (by rw [h_52]; exact Bool.false_ne_true)]
             rw [suV_none (Option.isNone_iff_eq_none.mp (by rw [← Option.not_isSome, h_52]; rfl))] at hS1
             exact ⟨rfl, hS1, hF1⟩)
  · rw [hk]
    refine x_tableIn 73 dX12_move_9 (by decide) (by decide) rfl ?_
    refine x_aload_n dX12_move_73 rfl ?_
    refine g_X12_19 dX12_move_74 ?_
    refine y_iconst (a := 3) dX12_move_77 rfl ?_
    refine x_ial dX12_move_78 (⟨by decide, rfl, rfl, by decide⟩ : Ar 38 45) (by omega) ?_
    rw [hS.at (by omega)]
    refine y_iconst (a := 2) dX12_move_79 rfl ?_
    refine y_irem dX12_move_80 (by omega) (by omega) (by omega) ?_
    refine y_if_ne 99 dX12_move_81 (by omega) (fun h_81 => ?_) (fun h_81 => ?_)
    · refine x_vret dX12_move_99 ?_
      rw [mv3 hk]
      first
        | (rw [if_pos (by omega)]; exact ⟨rfl, hS1, hF1⟩)
        | (rw [if_neg (by omega)]; exact ⟨rfl, hS, FS.rf⟩)
    · refine x_aload_n dX12_move_84 rfl ?_
      refine x_iload_n dX12_move_85 rfl ?_
      refine y_iconst (a := 1) dX12_move_86 rfl ?_
      refine q_X12_181 (m_goUp hS hw hg hp) dX12_move_87 rfl ?_
      rintro _ M1 ⟨rfl, hS1, hF1⟩
      refine x_pop dX12_move_90 rfl ?_
      refine x_goto 99 dX12_move_91 ?_
      refine x_vret dX12_move_99 ?_
      rw [mv3 hk]
      first
        | (rw [if_pos (by omega)]; exact ⟨rfl, hS1, hF1⟩)
        | (rw [if_neg (by omega)]; exact ⟨rfl, hS, FS.rf⟩)
  · refine x_tableOut 94 dX12_move_9 (Or.inr (by rw [nI_toInt (by omega)]; omega)) ?_
    refine x_aload_n dX12_move_94 rfl ?_
    refine x_iload_n dX12_move_95 rfl ?_
    refine q_X12_187 (m_fetches hS hI hg hk hp) dX12_move_96 rfl ?_
    rintro _ M1 ⟨rfl, hS1, hF1⟩
    refine x_vret dX12_move_99 ?_
    exact ⟨rfl, hS1, hF1⟩
set_option maxRecDepth 100000 in
set_option maxHeartbeats 4000000 in
theorem m_breaks {Ω : Om} {l : Launch} {M : Mem} {v : Nat → Nat} (hS : MsR M v) (hw : Wv v) {q : Nat} (h1 : 1 ≤ q) (hq : q ≤ v 0) : Ct Ω l yX12_breaks cX12_breaks 3 1 none [.ref (Ω.2.2 34), .int (nI q)] M (fun ro M' => ro = none ∧ MsR M' (bkV v q) ∧ FS M M') := by
  have hn := hw.nums
  refine ct_of (by decide) (Nat.le_of_ble_eq_true rfl) ?_
  intro p e R s m args below meth c
  have key : ∀ (k : Nat) (g : Nat) (M1 : Mem), g + k = v 2 ∧ MsR M1 (bqN v q g) ∧ FS M M1 → X (mkG p l e R s m args below meth c Ω (fun ro M' => ro = none ∧ MsR M' (bkV v q) ∧ FS M M')) Ω RX12 cX12_breaks 3 1 none 14 [some (.ref (Ω.2.2 34)), some (.int (nI q)), some (.int (nI g))] [] M1 := by
    intro k
    induction k with
    | zero =>
      intro g M1 hk
      obtain ⟨hk, hS1, hF1⟩ := hk
      have e2 : bqN v q g 2 = v 2 := bqN_at (by omega) (by omega) (by omega) (by omega)
      refine x_iload_n dX12_breaks_14 rfl ?_
      refine x_aload_n dX12_breaks_15 rfl ?_
      refine g_X12_19 dX12_breaks_16 ?_
      refine y_iconst (a := 2) dX12_breaks_19 rfl ?_
      refine x_ial dX12_breaks_20 (⟨by decide, rfl, rfl, by decide⟩ : Ar 38 45) (by omega) ?_
      rw [hS1.at (by omega), e2]
      refine y_icmp_ge 78 dX12_breaks_21 (by omega) (by omega) (fun h_21 => ?_) (fun h_21 => ?_)
      · refine x_vret dX12_breaks_78 ?_
        obtain rfl : g = v 2 := by omega
        exact ⟨rfl, hS1, hF1⟩
      · exfalso; omega
    | succ k ih =>
      intro g M1 hk
      obtain ⟨hk, hS1, hF1⟩ := hk
      have e2 : bqN v q g 2 = v 2 := bqN_at (by omega) (by omega) (by omega) (by omega)
      refine x_iload_n dX12_breaks_14 rfl ?_
      refine x_aload_n dX12_breaks_15 rfl ?_
      refine g_X12_19 dX12_breaks_16 ?_
      refine y_iconst (a := 2) dX12_breaks_19 rfl ?_
      refine x_ial dX12_breaks_20 (⟨by decide, rfl, rfl, by decide⟩ : Ar 38 45) (by omega) ?_
      rw [hS1.at (by omega), e2]
      refine y_icmp_ge 78 dX12_breaks_21 (by omega) (by omega) (fun h_21 => ?_) (fun h_21 => ?_)
      · refine x_vret dX12_breaks_78 ?_
        obtain rfl : g = v 2 := by omega
        exact ⟨rfl, hS1, hF1⟩
      · have e33 : bqN v q g (33 + g) = v (33 + g) := bqN_at (by omega) (by omega) (by omega) (by omega)
        have hgo := hw.goer (g := g) (by omega)
        refine x_aload_n dX12_breaks_24 rfl ?_
        refine g_X12_19 dX12_breaks_25 ?_
        refine x_bipush (v := nI 33) dX12_breaks_28 rfl ?_
        refine x_iload_n dX12_breaks_30 rfl ?_
        refine y_iadd dX12_breaks_31 ?_
        refine x_ial dX12_breaks_32 (⟨by decide, rfl, rfl, by decide⟩ : Ar 38 45) (by omega) ?_
        rw [hS1.at (by omega), e33]
        refine x_iload_n dX12_breaks_33 rfl ?_
        refine y_icmp_ne 72 dX12_breaks_34 (by omega) (by omega) (fun h_34 => ?_) (fun h_34 => ?_)
        · try have hS4 := hS3.set (39 + g) (bqN v q g (39 + g) + 1)
          refine y_iinc dX12_breaks_72 rfl ?_
          refine x_goto 14 dX12_breaks_75 ?_
          first
            | exact ih (g + 1) _ ⟨by omega, hS4.congr (fun j _ => bqN_take h1 (by omega) (by omega) h_34), hF1.up.up.up⟩
            | exact ih (g + 1) _ ⟨by omega, hS1.congr (fun j _ => bqN_skip h1 (by omega) (by omega) h_34), hF1⟩
        · refine x_aload_n dX12_breaks_37 rfl ?_
          refine g_X12_19 dX12_breaks_38 ?_
          refine x_bipush (v := nI 33) dX12_breaks_41 rfl ?_
          refine x_iload_n dX12_breaks_43 rfl ?_
          refine y_iadd dX12_breaks_44 ?_
          refine y_iconst (a := 0) dX12_breaks_45 rfl ?_
          refine x_ias dX12_breaks_46 (⟨by decide, rfl, rfl, by decide⟩ : Ar 38 45) (by omega) ?_
          have hS2 := hS1.set (33 + g) 0
          refine x_aload_n dX12_breaks_47 rfl ?_
          refine g_X12_19 dX12_breaks_48 ?_
          refine y_iconst (a := 5) dX12_breaks_51 rfl ?_
          refine x_dup2 dX12_breaks_52 rfl rfl ?_
          refine x_ial dX12_breaks_53 (⟨by decide, rfl, rfl, by decide⟩ : Ar 38 45) (by omega) ?_
          rw [hS2.at (by omega), sv_ne _ _ (by omega)]
          refine y_iconst (a := 1) dX12_breaks_54 rfl ?_
          refine x_iload_n dX12_breaks_55 rfl ?_
          refine y_ishl dX12_breaks_56 (by omega) ?_
          try rw [Nat.one_mul]
          refine y_ior dX12_breaks_57 ?_
          refine x_ias dX12_breaks_58 (⟨by decide, rfl, rfl, by decide⟩ : Ar 38 45) (by omega) ?_
          have hS3 := hS2.set 5 (bqN v q g 5 ||| 2 ^ g)
          refine x_aload_n dX12_breaks_59 rfl ?_
          refine g_X12_19 dX12_breaks_60 ?_
          refine x_bipush (v := nI 39) dX12_breaks_63 rfl ?_
          refine x_iload_n dX12_breaks_65 rfl ?_
          refine y_iadd dX12_breaks_66 ?_
          refine x_dup2 dX12_breaks_67 rfl rfl ?_
          refine x_ial dX12_breaks_68 (⟨by decide, rfl, rfl, by decide⟩ : Ar 38 45) (by omega) ?_
          rw [hS3.at (by omega), sv_ne _ _ (by omega), sv_ne _ _ (by omega)]
          refine y_iconst (a := 1) dX12_breaks_69 rfl ?_
          refine y_iadd dX12_breaks_70 ?_
          refine x_ias dX12_breaks_71 (⟨by decide, rfl, rfl, by decide⟩ : Ar 38 45) (by omega) ?_
          try have hS4 := hS3.set (39 + g) (bqN v q g (39 + g) + 1)
          refine y_iinc dX12_breaks_72 rfl ?_
          refine x_goto 14 dX12_breaks_75 ?_
          first
            | exact ih (g + 1) _ ⟨by omega, hS4.congr (fun j _ => bqN_take h1 (by omega) (by omega) h_34), hF1.up.up.up⟩
            | exact ih (g + 1) _ ⟨by omega, hS1.congr (fun j _ => bqN_skip h1 (by omega) (by omega) h_34), hF1⟩
  refine x_aload_n dX12_breaks_0 rfl ?_
  refine g_X12_19 dX12_breaks_1 ?_
  refine x_bipush (v := nI 6) dX12_breaks_4 rfl ?_
  refine x_iload_n dX12_breaks_6 rfl ?_
  refine y_iadd dX12_breaks_7 ?_
  refine y_iconst (a := 1) dX12_breaks_8 rfl ?_
  refine y_isub dX12_breaks_9 (by omega) ?_
  refine y_iconst (a := 0) dX12_breaks_10 rfl ?_
  refine x_ias dX12_breaks_11 (⟨by decide, rfl, rfl, by decide⟩ : Ar 38 45) (by omega) ?_
  rw [show 6 + q - 1 = 5 + q by omega]
  have hS0 := hS.set (5 + q) 0
  refine y_iconst (a := 0) dX12_breaks_12 rfl ?_
  refine x_istore_n dX12_breaks_13 ?_
  exact key _ 0 _ ⟨Nat.zero_add _, hS0.congr (fun j _ => bqN_0 q h1), FS.rf.up⟩
