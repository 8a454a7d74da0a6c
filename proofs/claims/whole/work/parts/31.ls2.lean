/-! LADDERSPRINGS: what only asks (laid by gen_ls2.py): what each call must answer, then its contract -/
def tN (x : Int32) : Nat := x.toNatClampNeg
theorem tN_nI {g : Nat} (h : g < 2 ^ 31) : tN (nI g) = g := nI_clamp h
/-- x is one of a .. b -/
def inB (x : Int32) (a b : Nat) : Bool := decide ((a : Int) ≤ x.toInt ∧ x.toInt ≤ (b : Int))
theorem inB_nI {x : Int32} {a b : Nat} (h : inB x a b = true) (hb : b < 2 ^ 30) : ∃ g, a ≤ g ∧ g ≤ b ∧ x = nI g := by
  simp only [inB, decide_eq_true_eq] at h
  obtain ⟨g, h1, h2⟩ := vp_in_of (x := x) (n := b + 1) (vp_in_iff.mpr (by omega)) (by omega)
  subst h2
  rw [nI_toInt (by omega)] at h
  exact ⟨g, by omega, by omega, rfl⟩
def cOS (o : Option Nat) (w : Int32) : Int32 := match o with
  | none => -1000000
  | some b => if w = nI 0 then nI (pop b) else nI b
def snd (v : Nat → Nat) : Nat := (2 ^ v 0 - 1) &&& (511 ^^^ brkS v)
/-- the lowest bit's place -/
def lob (a : Nat) : Nat → Nat
  | 0 => 0
  | n + 1 => if a.testBit 0 = true then 0 else lob (a / 2) n + 1
def R_goer (v : Nat → Nat) (x w : Int32) : Int32 := if inR x (v 2) = true then (if w = nI 0 then nI (v (33 + tN x)) else if w = nI 1 then nI (v (21 + tN x)) else if w = nI 2 then nI (v (27 + tN x)) else if w = nI 3 then nI (lo v (tN x)) else if w = nI 4 then bI (upw v (tN x)) else if w = nI 5 then bI (hld v (tN x)) else if w = nI 6 then nI (v (39 + tN x)) else -1000001) else -1000001
def R_rung (v : Nat → Nat) (x w : Int32) : Int32 := if inR x (v 0) = true then (if w = nI 0 then nI (v (6 + tN x)) else if w = nI 1 then nI (loadA v (tN x + 1)) else if w = nI 2 then nI (whoA v (tN x + 1)) else -1000001) else -1000001
def R_stand (v : Nat → Nat) (w : Int32) : Int32 := if v 0 = 0 then -1000002 else if w = nI 0 then nI (whoA v (v 0 + 1)) else if w = nI 1 then nI (whoA v 0) else if w = nI 2 then nI (loadR v) else if w = nI 3 then nI (brkS v) else if w = nI 4 then nI (v 4) else -1000001
def R_ahead (v : Nat → Nat) (x n : Int32) : Int32 := if inR x (v 2) = true ∧ inB n 0 60 = true then nI (hrs v (tN n) (33 + tN x)) else -1000001
def R_strength (v : Nat → Nat) (x n : Int32) : Int32 := if inR x (v 0) = true ∧ inB n 0 60 = true then nI (hrs v (tN n) (6 + tN x)) else -1000001
def R_above (v : Nat → Nat) (x : Int32) : Int32 := if inR x (v 2) = true then nO (fnd (fun n => abv (hrs v n) (tN x)) 60 0) else -1000001
def R_broken (v : Nat → Nat) (x : Int32) : Int32 := if inR x (v 0) = true then nO (fnd (fun n => !decide (brkS (hrs v n) &&& 2 ^ tN x = 0)) 60 0) else -1000001
def R_first (v : Nat → Nat) (w : Int32) : Int32 := if v 0 = 0 then -1000002 else if inB w 0 1 = true then (match fnd (fun n => !decide (brkS (hrs v n) &&& snd v = 0)) 60 0 with
  | none => -1000000
  | some h => if w = nI 1 then nI h else nI (lob (brkS (hrs v h) &&& snd v) 9)) else -1000001
def R_falls (v : Nat → Nat) (n : Int32) : Int32 := if v 0 = 0 then -1000002 else if inB n 0 60 = true then nI (fal (hrs v (tN n))) - nI (fal v) else -1000001
def R_mends (v : Nat → Nat) (x n w : Int32) : Int32 := if inR x (v 2) = true ∧ inB n 1 30 = true ∧ inB w 0 1 = true then cOS (bst (fun s => abv (hrs (mdV v s) (tN n)) (tN x)) (2 ^ v 0)) w else -1000001
def R_holds (v : Nat → Nat) (x n w : Int32) : Int32 := if inR x (v 2) = true ∧ inB n 1 30 = true ∧ inB w 0 1 = true then cOS (bst (hdF v (tN x) (tN n)) (2 ^ v 2)) w else -1000001
def R_heavy (v : Nat → Nat) (n : Int32) : Int32 := if v 0 = 0 then -1000002 else if inB n 1 60 = true then nO (gwV v (tN n)) else -1000001
def R_drawn (v : Nat → Nat) (n x w : Int32) : Int32 := if v 0 = 0 then -1000002 else if inB n 0 60 = true ∧ inB x 1 999999 = true ∧ inB w 0 1 = true then (if w = nI 0 then nI (pop (whoA (dwV v (tN x) (tN n)) (v 0 + 1))) else nI (fal (dwV v (tN x) (tN n))) - nI (fal v)) else -1000001
def R_risk (v : Nat → Nat) (x n q w : Int32) : Int64 := if inR x (v 2) = true ∧ inB n 0 30 = true ∧ inB q 0 10 = true ∧ inB w 0 1 = true then (if w = nI 0 then lN (rkA v (tN x) (tN n) (tN q) / Nat.gcd (rkA v (tN x) (tN n) (tN q)) (10 ^ frC v)) else lN (10 ^ frC v / Nat.gcd (rkA v (tN x) (tN n) (tN q)) (10 ^ frC v))) else -1000001
def R_kind (v : Nat → Nat) (x : Int32) : Int32 := if inR x (v 2) = true then nI (v (15 + tN x)) else -1000001
def R_trace (σ : Sg) (x : Int32) : Int32 := if inR x σ.rn = true then σ.rt (tN x) else -1000000
def R_count (σ : Sg) (w : Int32) : Int32 := if w = nI 0 then nI (cntN (fun r => !decide (σ.sz r = -1)) 8) else if w = nI 1 then nI (σ.v 0) else if w = nI 2 then nI (σ.v 2) else if w = nI 3 then nI (σ.v 3) else if w = nI 4 then nI (pop (whoA σ.v (σ.v 0 + 1))) else if w = nI 5 then nI (fal σ.v) else if w = nI 6 then nI σ.am else if w = nI 7 then nI σ.tn else -1000001
theorem lob_pop : ∀ a, a < 512 → 0 < a → pop ((a &&& (512 - a)) - 1) = lob a 9 := by decide +kernel
theorem neg_and : ∀ a, a < 512 → 0 < a → nI a &&& (-nI a) = nI (a &&& (512 - a)) := by decide +kernel
theorem and_pos : ∀ a, a < 512 → 0 < a → 0 < a &&& (512 - a) ∧ a &&& (512 - a) < 512 := by decide +kernel
theorem snd_and {d w : Nat} (hd : d < 512) : nI d &&& (nI w ^^^ (-1)) = nI (d &&& (511 ^^^ w)) := by
  have e : (-1 : Int32) = nI (2 ^ 32 - 1) := by decide +kernel
  rw [e, nx_xor, nx_and]
  congr 1
  apply Nat.eq_of_testBit_eq
  intro i
  rw [Nat.testBit_and, Nat.testBit_and, Nat.testBit_xor, Nat.testBit_xor, Nat.testBit_two_pow_sub_one, show 511 = 2 ^ 9 - 1 from rfl, Nat.testBit_two_pow_sub_one]
  by_cases h : i < 9
  · have h2 : i < 32 := by omega
    simp [h, h2, Bool.xor_comm]
  · have : d.testBit i = false := Nat.testBit_lt_two_pow (Nat.lt_of_lt_of_le hd (Nat.pow_le_pow_right (n := 2) (by decide) (show 9 ≤ i by omega)))
    simp [this]

theorem c_within {Ω : Om} {l : Launch} {M : Mem} {x : Int32} {a b : Nat} (ha : a < 2 ^ 31) (hb : b < 2 ^ 31) : Ct Ω l yX11_isWithin cX11_isWithin 3 1 (some .boolean) [.int x, .int (nI a), .int (nI b)] M (fun ro M' => ro = some (.int (bI (inB x a b))) ∧ M = M') := by
  have h := c_isWithin (Ω := Ω) (l := l) (M := M) (x := x) (a := nI a) (b := nI b)
  rw [nI_toInt ha, nI_toInt hb] at h
  exact h
theorem nIe {i j : Nat} (a : i < 2 ^ 31) (b : j < 2 ^ 31) : (nI i = nI j) = (i = j) := propext (nI_eq a b)
theorem nid : ¬ nI 1 = nI 0 ∧ ¬ nI 2 = nI 0 ∧ ¬ nI 3 = nI 0 ∧ ¬ nI 4 = nI 0 ∧ ¬ nI 5 = nI 0 ∧ ¬ nI 6 = nI 0 ∧ ¬ nI 7 = nI 0 ∧ ¬ nI 2 = nI 1 ∧ ¬ nI 3 = nI 1 ∧ ¬ nI 4 = nI 1 ∧ ¬ nI 5 = nI 1 ∧ ¬ nI 6 = nI 1 ∧ ¬ nI 7 = nI 1 ∧ ¬ nI 3 = nI 2 ∧ ¬ nI 4 = nI 2 ∧ ¬ nI 5 = nI 2 ∧ ¬ nI 6 = nI 2 ∧ ¬ nI 7 = nI 2 ∧ ¬ nI 4 = nI 3 ∧ ¬ nI 5 = nI 3 ∧ ¬ nI 6 = nI 3 ∧ ¬ nI 7 = nI 3 ∧ ¬ nI 5 = nI 4 ∧ ¬ nI 6 = nI 4 ∧ ¬ nI 7 = nI 4 ∧ ¬ nI 6 = nI 5 ∧ ¬ nI 7 = nI 5 ∧ ¬ nI 7 = nI 6 := by decide +kernel
set_option maxRecDepth 100000 in
set_option maxHeartbeats 4000000 in
theorem c_goer {Ω : Om} {l : Launch} {M : Mem} {σ : Sg} (hC : IC M σ) (hW : SgW σ) {x w : Int32} : Ct Ω l yX11_goer cX11_goer 3 3 (some .int) [.ref (Ω.2.2 0), .int x, .int w] M (fun ro M' => ro = some (.int (R_goer σ.v x w)) ∧ IC M' σ ∧ FrM M M') := by
  have hL49 : Lk 49 := Lk49
  have hL57 : Lk 57 := Lk57
  have hR := hC.lake
  have hLv : Lv σ.v := hW.2.2.1
  have hw := hLv.wv
  have hn := hw.nums
  have hL65 : Lk 65 := Lk65
  refine ct_of (by decide) (Nat.le_of_ble_eq_true rfl) ?_
  intro p e R s m args below meth c
  refine x_aload_n dX11_goer_0 rfl ?_
  refine x_iload_n dX11_goer_1 rfl ?_
  refine q_X11_180 (c_isGoer hR hw) dX11_goer_2 rfl ?_
  rintro _ _ ⟨rfl, rfl⟩
  refine z_if_ne 11 dX11_goer_5 (fun h_5 => ?_) (fun h_5 => ?_)
  · obtain ⟨g, hg, rfl⟩ := inR_nI h_5 (by omega)
    obtain ⟨hI, h999⟩ := hLv.goer hg
    have tg := tN_nI (g := g) (by omega)
    have hgo := hw.goer hg
    refine x_iload_n dX11_goer_11 rfl ?_
    rcases sw6 w with rfl | rfl | rfl | rfl | rfl | rfl | rfl | hsw
    · refine x_tableIn 56 dX11_goer_12 (by decide) (by decide) rfl ?_
      refine x_aload_n dX11_goer_56 rfl ?_
      refine g_X11_58 dX11_goer_57 ?_
      refine g_X11_204 dX11_goer_60 ?_
      refine x_iload_n dX11_goer_63 rfl ?_
      refine x_ial dX11_goer_64 (ArL (by assumption) (Or.inr ⟨by decide, by decide, rfl⟩)) (by omega) ?_
      rw [hR.place (by omega)]
      refine x_iret dX11_goer_65 ?_
      refine ⟨congrArg (fun z => some (Value.int z)) ?_, hC, FrM.rf⟩
      first
        | (simp [R_goer, nid, bI, *]; done)
        | (simp [R_goer, nid, bI, *]; rfl)
    · refine x_tableIn 66 dX11_goer_12 (by decide) (by decide) rfl ?_
      refine x_aload_n dX11_goer_66 rfl ?_
      refine g_X11_58 dX11_goer_67 ?_
      refine g_X11_207 dX11_goer_70 ?_
      refine x_iload_n dX11_goer_73 rfl ?_
      refine x_ial dX11_goer_74 (ArL (by assumption) (Or.inr ⟨by decide, by decide, rfl⟩)) (by omega) ?_
      rw [hR.weight (by omega)]
      refine x_iret dX11_goer_75 ?_
      refine ⟨congrArg (fun z => some (Value.int z)) ?_, hC, FrM.rf⟩
      first
        | (simp [R_goer, nid, bI, *]; done)
        | (simp [R_goer, nid, bI, *]; rfl)
    · refine x_tableIn 76 dX11_goer_12 (by decide) (by decide) rfl ?_
      refine x_aload_n dX11_goer_76 rfl ?_
      refine g_X11_58 dX11_goer_77 ?_
      refine g_X11_183 dX11_goer_80 ?_
      refine x_iload_n dX11_goer_83 rfl ?_
      refine x_ial dX11_goer_84 (ArL (by assumption) (Or.inr ⟨by decide, by decide, rfl⟩)) (by omega) ?_
      rw [hR.start (by omega)]
      refine x_iret dX11_goer_85 ?_
      refine ⟨congrArg (fun z => some (Value.int z)) ?_, hC, FrM.rf⟩
      first
        | (simp [R_goer, nid, bI, *]; done)
        | (simp [R_goer, nid, bI, *]; rfl)
    · refine x_tableIn 86 dX11_goer_12 (by decide) (by decide) rfl ?_
      refine x_aload_n dX11_goer_86 rfl ?_
      refine g_X11_58 dX11_goer_87 ?_
      refine x_iload_n dX11_goer_90 rfl ?_
      refine q_X11_210 (c_loadOf Lk49 hR hw hg) dX11_goer_91 rfl ?_
      rintro _ _ ⟨rfl, rfl⟩
      refine x_iret dX11_goer_94 ?_
      refine ⟨congrArg (fun z => some (Value.int z)) ?_, hC, FrM.rf⟩
      first
        | (simp [R_goer, nid, bI, *]; done)
        | (simp [R_goer, nid, bI, *]; rfl)
    · refine x_tableIn 95 dX11_goer_12 (by decide) (by decide) rfl ?_
      refine x_aload_n dX11_goer_95 rfl ?_
      refine g_X11_58 dX11_goer_96 ?_
      refine x_iload_n dX11_goer_99 rfl ?_
      refine q_X11_213 (c_isOnWayUp Lk49 hR hw hg) dX11_goer_100 rfl ?_
      rintro _ _ ⟨rfl, rfl⟩
      refine z_if_eq 110 dX11_goer_103 (fun h_103 => ?_) (fun h_103 => ?_)
      · refine y_iconst (a := 0) dX11_goer_110 rfl ?_
        refine x_iret dX11_goer_111 ?_
        refine ⟨congrArg (fun z => some (Value.int z)) ?_, hC, FrM.rf⟩
        first
          | (simp [R_goer, nid, bI, *]; done)
          | (simp [R_goer, nid, bI, *]; rfl)
      · refine y_iconst (a := 1) dX11_goer_106 rfl ?_
        refine x_goto 111 dX11_goer_107 ?_
        refine x_iret dX11_goer_111 ?_
        refine ⟨congrArg (fun z => some (Value.int z)) ?_, hC, FrM.rf⟩
        first
          | (simp [R_goer, nid, bI, *]; done)
          | (simp [R_goer, nid, bI, *]; rfl)
    · refine x_tableIn 112 dX11_goer_12 (by decide) (by decide) rfl ?_
      refine x_aload_n dX11_goer_112 rfl ?_
      refine g_X11_58 dX11_goer_113 ?_
      refine x_iload_n dX11_goer_116 rfl ?_
      refine q_X11_186 (c_isHeld Lk49 hR hw hg) dX11_goer_117 rfl ?_
      rintro _ _ ⟨rfl, rfl⟩
      refine z_if_eq 127 dX11_goer_120 (fun h_120 => ?_) (fun h_120 => ?_)
      · refine y_iconst (a := 0) dX11_goer_127 rfl ?_
        refine x_iret dX11_goer_128 ?_
        refine ⟨congrArg (fun z => some (Value.int z)) ?_, hC, FrM.rf⟩
        first
          | (simp [R_goer, nid, bI, *]; done)
          | (simp [R_goer, nid, bI, *]; rfl)
      · refine y_iconst (a := 1) dX11_goer_123 rfl ?_
        refine x_goto 128 dX11_goer_124 ?_
        refine x_iret dX11_goer_128 ?_
        refine ⟨congrArg (fun z => some (Value.int z)) ?_, hC, FrM.rf⟩
        first
          | (simp [R_goer, nid, bI, *]; done)
          | (simp [R_goer, nid, bI, *]; rfl)
    · refine x_tableIn 129 dX11_goer_12 (by decide) (by decide) rfl ?_
      refine x_aload_n dX11_goer_129 rfl ?_
      refine g_X11_58 dX11_goer_130 ?_
      refine g_X11_216 dX11_goer_133 ?_
      refine x_iload_n dX11_goer_136 rfl ?_
      refine x_ial dX11_goer_137 (ArL (by assumption) (Or.inr ⟨by decide, by decide, rfl⟩)) (by omega) ?_
      rw [hR.fell (by omega)]
      refine x_iret dX11_goer_138 ?_
      refine ⟨congrArg (fun z => some (Value.int z)) ?_, hC, FrM.rf⟩
      first
        | (simp [R_goer, nid, bI, *]; done)
        | (simp [R_goer, nid, bI, *]; rfl)
    · have n0 := sw_ne (i := 0) hsw (by decide) (by decide)
      have n1 := sw_ne (i := 1) hsw (by decide) (by decide)
      have n2 := sw_ne (i := 2) hsw (by decide) (by decide)
      have n3 := sw_ne (i := 3) hsw (by decide) (by decide)
      have n4 := sw_ne (i := 4) hsw (by decide) (by decide)
      have n5 := sw_ne (i := 5) hsw (by decide) (by decide)
      have n6 := sw_ne (i := 6) hsw (by decide) (by decide)
      refine x_tableOut 139 dX11_goer_12 hsw ?_
      refine x_ldc dX11_goer_139 k_X11_81 ?_
      refine x_iret dX11_goer_141 ?_
      refine ⟨congrArg (fun z => some (Value.int z)) ?_, hC, FrM.rf⟩
      first
        | (simp [R_goer, nid, bI, *]; done)
        | (simp [R_goer, nid, bI, *]; rfl)
  · refine x_ldc dX11_goer_8 k_X11_81 ?_
    refine x_iret dX11_goer_10 ?_
    refine ⟨congrArg (fun z => some (Value.int z)) ?_, hC, FrM.rf⟩
    first
      | (simp [R_goer, nid, bI, *]; done)
      | (simp [R_goer, nid, bI, *]; rfl)
set_option maxRecDepth 100000 in
set_option maxHeartbeats 4000000 in
theorem c_rung {Ω : Om} {l : Launch} {M : Mem} {σ : Sg} (hC : IC M σ) (hW : SgW σ) {x w : Int32} : Ct Ω l yX11_rung cX11_rung 3 3 (some .int) [.ref (Ω.2.2 0), .int x, .int w] M (fun ro M' => ro = some (.int (R_rung σ.v x w)) ∧ IC M' σ ∧ FrM M M') := by
  have hL49 : Lk 49 := Lk49
  have hL57 : Lk 57 := Lk57
  have hR := hC.lake
  have hLv : Lv σ.v := hW.2.2.1
  have hw := hLv.wv
  have hn := hw.nums
  have hL65 : Lk 65 := Lk65
  refine ct_of (by decide) (Nat.le_of_ble_eq_true rfl) ?_
  intro p e R s m args below meth c
  refine x_aload_n dX11_rung_0 rfl ?_
  refine x_iload_n dX11_rung_1 rfl ?_
  refine q_X11_192 (c_isRung hR hw) dX11_rung_2 rfl ?_
  rintro _ _ ⟨rfl, rfl⟩
  refine z_if_ne 11 dX11_rung_5 (fun h_5 => ?_) (fun h_5 => ?_)
  · obtain ⟨r, hr, rfl⟩ := inR_nI h_5 (by omega)
    obtain ⟨hI, h999⟩ := hLv.rung hr
    have tr := tN_nI (g := r) (by omega)
    have hst := hw.str (p := r + 1) (by omega)
    refine x_iload_n dX11_rung_11 rfl ?_
    rcases sw2 w with rfl | rfl | rfl | hsw
    · refine x_tableIn 40 dX11_rung_12 (by decide) (by decide) rfl ?_
      refine x_aload_n dX11_rung_40 rfl ?_
      refine g_X11_58 dX11_rung_41 ?_
      refine g_X11_195 dX11_rung_44 ?_
      refine x_iload_n dX11_rung_47 rfl ?_
      refine y_iconst (a := 1) dX11_rung_48 rfl ?_
      refine y_iadd dX11_rung_49 ?_
      refine x_ial dX11_rung_50 (ArL (by assumption) (Or.inl ⟨by decide, by decide, rfl⟩)) (by omega) ?_
      rw [hR.strength (by omega)]
      rw [show 5 + (r + 1) = 6 + r by omega]
      refine x_iret dX11_rung_51 ?_
      refine ⟨congrArg (fun z => some (Value.int z)) ?_, hC, FrM.rf⟩
      simp [R_rung, nid, *]
    · refine x_tableIn 52 dX11_rung_12 (by decide) (by decide) rfl ?_
      refine x_aload_n dX11_rung_52 rfl ?_
      refine g_X11_58 dX11_rung_53 ?_
      refine x_iload_n dX11_rung_56 rfl ?_
      refine y_iconst (a := 1) dX11_rung_57 rfl ?_
      refine y_iadd dX11_rung_58 ?_
      refine q_X11_219 (c_loadAt Lk49 hR hw (by omega)) dX11_rung_59 rfl ?_
      rintro _ _ ⟨rfl, rfl⟩
      refine x_iret dX11_rung_62 ?_
      refine ⟨congrArg (fun z => some (Value.int z)) ?_, hC, FrM.rf⟩
      simp [R_rung, nid, *]
    · refine x_tableIn 63 dX11_rung_12 (by decide) (by decide) rfl ?_
      refine x_aload_n dX11_rung_63 rfl ?_
      refine g_X11_58 dX11_rung_64 ?_
      refine x_iload_n dX11_rung_67 rfl ?_
      refine y_iconst (a := 1) dX11_rung_68 rfl ?_
      refine y_iadd dX11_rung_69 ?_
      refine q_X11_177 (c_whoIsAt Lk49 hR hw (by omega)) dX11_rung_70 rfl ?_
      rintro _ _ ⟨rfl, rfl⟩
      refine x_iret dX11_rung_73 ?_
      refine ⟨congrArg (fun z => some (Value.int z)) ?_, hC, FrM.rf⟩
      simp [R_rung, nid, *]
    · have n0 := sw_ne (i := 0) hsw (by decide) (by decide)
      have n1 := sw_ne (i := 1) hsw (by decide) (by decide)
      have n2 := sw_ne (i := 2) hsw (by decide) (by decide)
      refine x_tableOut 74 dX11_rung_12 hsw ?_
      refine x_ldc dX11_rung_74 k_X11_81 ?_
      refine x_iret dX11_rung_76 ?_
      refine ⟨congrArg (fun z => some (Value.int z)) ?_, hC, FrM.rf⟩
      simp [R_rung, nid, *]
  · refine x_ldc dX11_rung_8 k_X11_81 ?_
    refine x_iret dX11_rung_10 ?_
    refine ⟨congrArg (fun z => some (Value.int z)) ?_, hC, FrM.rf⟩
    simp [R_rung, nid, *]
set_option maxRecDepth 100000 in
set_option maxHeartbeats 4000000 in
theorem c_stand {Ω : Om} {l : Launch} {M : Mem} {σ : Sg} (hC : IC M σ) (hW : SgW σ) {w : Int32} : Ct Ω l yX11_stand cX11_stand 2 3 (some .int) [.ref (Ω.2.2 0), .int w] M (fun ro M' => ro = some (.int (R_stand σ.v w)) ∧ IC M' σ ∧ FrM M M') := by
  have hL49 : Lk 49 := Lk49
  have hL57 : Lk 57 := Lk57
  have hR := hC.lake
  have hLv : Lv σ.v := hW.2.2.1
  have hw := hLv.wv
  have hn := hw.nums
  have hL65 : Lk 65 := Lk65
  refine ct_of (by decide) (Nat.le_of_ble_eq_true rfl) ?_
  intro p e R s m args below meth c
  refine x_aload_n dX11_stand_0 rfl ?_
  refine q_X11_161 (c_hasNoLake hR hw) dX11_stand_1 rfl ?_
  rintro _ _ ⟨rfl, rfl⟩
  refine z_if_eq 10 dX11_stand_4 (fun h_4 => ?_) (fun h_4 => ?_)
  · have h0 : ¬ σ.v 0 = 0 := by simpa using h_4
    refine x_iload_n dX11_stand_10 rfl ?_
    rcases sw4 w with rfl | rfl | rfl | rfl | rfl | hsw
    · refine x_tableIn 44 dX11_stand_11 (by decide) (by decide) rfl ?_
      refine x_aload_n dX11_stand_44 rfl ?_
      refine g_X11_58 dX11_stand_45 ?_
      refine x_aload_n dX11_stand_48 rfl ?_
      refine g_X11_58 dX11_stand_49 ?_
      refine q_X11_173 (c_top Lk49 hR hw) dX11_stand_52 rfl ?_
      rintro _ _ ⟨rfl, rfl⟩
      refine q_X11_177 (c_whoIsAt Lk49 hR hw (by omega)) dX11_stand_55 rfl ?_
      rintro _ _ ⟨rfl, rfl⟩
      refine x_iret dX11_stand_58 ?_
      refine ⟨congrArg (fun z => some (Value.int z)) ?_, hC, FrM.rf⟩
      first
        | (simp [R_stand, nid, *]; done)
        | (simp at h_4; simp [R_stand, h_4]; done)
    · refine x_tableIn 59 dX11_stand_11 (by decide) (by decide) rfl ?_
      refine x_aload_n dX11_stand_59 rfl ?_
      refine g_X11_58 dX11_stand_60 ?_
      refine y_iconst (a := 0) dX11_stand_63 rfl ?_
      refine q_X11_177 (c_whoIsAt Lk49 hR hw (by omega)) dX11_stand_64 rfl ?_
      rintro _ _ ⟨rfl, rfl⟩
      refine x_iret dX11_stand_67 ?_
      refine ⟨congrArg (fun z => some (Value.int z)) ?_, hC, FrM.rf⟩
      first
        | (simp [R_stand, nid, *]; done)
        | (simp at h_4; simp [R_stand, h_4]; done)
    · refine x_tableIn 68 dX11_stand_11 (by decide) (by decide) rfl ?_
      refine x_aload_n dX11_stand_68 rfl ?_
      refine g_X11_58 dX11_stand_69 ?_
      refine q_X11_222 (c_loadOnRungs Lk49 hR hw) dX11_stand_72 rfl ?_
      rintro _ _ ⟨rfl, rfl⟩
      refine x_iret dX11_stand_75 ?_
      refine ⟨congrArg (fun z => some (Value.int z)) ?_, hC, FrM.rf⟩
      first
        | (simp [R_stand, nid, *]; done)
        | (simp at h_4; simp [R_stand, h_4]; done)
    · refine x_tableIn 76 dX11_stand_11 (by decide) (by decide) rfl ?_
      refine x_aload_n dX11_stand_76 rfl ?_
      refine g_X11_58 dX11_stand_77 ?_
      refine q_X11_225 (c_brokenRungs Lk49 hR hw) dX11_stand_80 rfl ?_
      rintro _ _ ⟨rfl, rfl⟩
      refine x_iret dX11_stand_83 ?_
      refine ⟨congrArg (fun z => some (Value.int z)) ?_, hC, FrM.rf⟩
      first
        | (simp [R_stand, nid, *]; done)
        | (simp at h_4; simp [R_stand, h_4]; done)
    · refine x_tableIn 84 dX11_stand_11 (by decide) (by decide) rfl ?_
      refine x_aload_n dX11_stand_84 rfl ?_
      refine g_X11_58 dX11_stand_85 ?_
      refine g_X11_189 dX11_stand_88 ?_
      rw [hR.held]
      refine x_iret dX11_stand_91 ?_
      refine ⟨congrArg (fun z => some (Value.int z)) ?_, hC, FrM.rf⟩
      first
        | (simp [R_stand, nid, *]; done)
        | (simp at h_4; simp [R_stand, h_4]; done)
    · have n0 := sw_ne (i := 0) hsw (by decide) (by decide)
      have n1 := sw_ne (i := 1) hsw (by decide) (by decide)
      have n2 := sw_ne (i := 2) hsw (by decide) (by decide)
      have n3 := sw_ne (i := 3) hsw (by decide) (by decide)
      have n4 := sw_ne (i := 4) hsw (by decide) (by decide)
      refine x_tableOut 92 dX11_stand_11 hsw ?_
      refine x_ldc dX11_stand_92 k_X11_81 ?_
      refine x_iret dX11_stand_94 ?_
      refine ⟨congrArg (fun z => some (Value.int z)) ?_, hC, FrM.rf⟩
      first
        | (simp [R_stand, nid, *]; done)
        | (simp at h_4; simp [R_stand, h_4]; done)
  · refine x_ldc dX11_stand_7 k_X11_154 ?_
    refine x_iret dX11_stand_9 ?_
    refine ⟨congrArg (fun z => some (Value.int z)) ?_, hC, FrM.rf⟩
    first
      | (simp [R_stand, nid, *]; done)
      | (simp at h_4; simp [R_stand, h_4]; done)
set_option maxRecDepth 100000 in
set_option maxHeartbeats 4000000 in
theorem c_kind {Ω : Om} {l : Launch} {M : Mem} {σ : Sg} (hC : IC M σ) (hW : SgW σ) {x : Int32} : Ct Ω l yX11_kind cX11_kind 2 3 (some .int) [.ref (Ω.2.2 0), .int x] M (fun ro M' => ro = some (.int (R_kind σ.v x)) ∧ IC M' σ ∧ FrM M M') := by
  have hL49 : Lk 49 := Lk49
  have hL57 : Lk 57 := Lk57
  have hR := hC.lake
  have hLv : Lv σ.v := hW.2.2.1
  have hw := hLv.wv
  have hn := hw.nums
  have hL65 : Lk 65 := Lk65
  refine ct_of (by decide) (Nat.le_of_ble_eq_true rfl) ?_
  intro p e R s m args below meth c
  refine x_aload_n dX11_kind_0 rfl ?_
  refine x_iload_n dX11_kind_1 rfl ?_
  refine q_X11_180 (c_isGoer hR hw) dX11_kind_2 rfl ?_
  rintro _ _ ⟨rfl, rfl⟩
  refine z_if_eq 20 dX11_kind_5 (fun h_5 => ?_) (fun h_5 => ?_)
  · refine x_ldc dX11_kind_20 k_X11_81 ?_
    refine x_iret dX11_kind_22 ?_
    refine ⟨congrArg (fun z => some (Value.int z)) ?_, hC, FrM.rf⟩
    simp [R_kind, nid, *]
  · obtain ⟨g, hg, rfl⟩ := inR_nI h_5 (by omega)
    obtain ⟨hI, h999⟩ := hLv.goer hg
    have tg := tN_nI (g := g) (by omega)
    have hgo := hw.goer hg
    refine x_aload_n dX11_kind_8 rfl ?_
    refine g_X11_58 dX11_kind_9 ?_
    refine g_X11_323 dX11_kind_12 ?_
    refine x_iload_n dX11_kind_15 rfl ?_
    refine x_ial dX11_kind_16 (ArL (by assumption) (Or.inr ⟨by decide, by decide, rfl⟩)) (by omega) ?_
    rw [hR.kind (by omega)]
    refine x_goto 22 dX11_kind_17 ?_
    refine x_iret dX11_kind_22 ?_
    refine ⟨congrArg (fun z => some (Value.int z)) ?_, hC, FrM.rf⟩
    simp [R_kind, nid, *]
set_option maxRecDepth 100000 in
set_option maxHeartbeats 4000000 in
theorem c_status {Ω : Om} {l : Launch} {M : Mem} {σ : Sg} (hC : IC M σ) (hW : SgW σ)  : Ct Ω l yX11_status cX11_status 1 1 (some .int) [.ref (Ω.2.2 0)] M (fun ro M' => ro = some (.int (σ.st)) ∧ IC M' σ ∧ FrM M M') := by
  have hL49 : Lk 49 := Lk49
  have hL57 : Lk 57 := Lk57
  have hR := hC.lake
  have hLv : Lv σ.v := hW.2.2.1
  have hw := hLv.wv
  have hn := hw.nums
  have hL65 : Lk 65 := Lk65
  refine ct_of (by decide) (Nat.le_of_ble_eq_true rfl) ?_
  intro p e R s m args below meth c
  refine x_aload_n dX11_status_0 rfl ?_
  refine g_X11_356 dX11_status_1 ?_
  refine x_iret dX11_status_4 ?_
  exact ⟨by rw [hC.st], hC, FrM.rf⟩
set_option maxRecDepth 100000 in
set_option maxHeartbeats 4000000 in
theorem c_fault {Ω : Om} {l : Launch} {M : Mem} {σ : Sg} (hC : IC M σ) (hW : SgW σ)  : Ct Ω l yX11_fault cX11_fault 1 1 (some .int) [.ref (Ω.2.2 0)] M (fun ro M' => ro = some (.int (σ.fl)) ∧ IC M' σ ∧ FrM M M') := by
  have hL49 : Lk 49 := Lk49
  have hL57 : Lk 57 := Lk57
  have hR := hC.lake
  have hLv : Lv σ.v := hW.2.2.1
  have hw := hLv.wv
  have hn := hw.nums
  have hL65 : Lk 65 := Lk65
  refine ct_of (by decide) (Nat.le_of_ble_eq_true rfl) ?_
  intro p e R s m args below meth c
  refine x_aload_n dX11_fault_0 rfl ?_
  refine g_X11_137 dX11_fault_1 ?_
  refine x_iret dX11_fault_4 ?_
  exact ⟨by rw [hC.fl], hC, FrM.rf⟩
set_option maxRecDepth 100000 in
set_option maxHeartbeats 4000000 in
theorem c_ahead {Ω : Om} {l : Launch} {M : Mem} {σ : Sg} (hC : IC M σ) (hW : SgW σ) {x n : Int32} : Ct Ω l yX11_ahead cX11_ahead 3 7 (some .int) [.ref (Ω.2.2 0), .int x, .int n] M (fun ro M' => ro = some (.int (R_ahead σ.v x n)) ∧ IC M' σ ∧ FrM M M') := by
  have hL49 : Lk 49 := Lk49
  have hL57 : Lk 57 := Lk57
  have hR := hC.lake
  have hLv : Lv σ.v := hW.2.2.1
  have hw := hLv.wv
  have hn := hw.nums
  have hL65 : Lk 65 := Lk65
  refine ct_of (by decide) (Nat.le_of_ble_eq_true rfl) ?_
  intro p e R s m args below meth c
  refine x_aload_n dX11_ahead_0 rfl ?_
  refine x_iload_n dX11_ahead_1 rfl ?_
  refine q_X11_180 (c_isGoer hR hw) dX11_ahead_2 rfl ?_
  rintro _ _ ⟨rfl, rfl⟩
  refine z_if_eq 18 dX11_ahead_5 (fun h_5 => ?_) (fun h_5 => ?_)
  · refine x_ldc dX11_ahead_18 k_X11_81 ?_
    refine x_iret dX11_ahead_20 ?_
    first
      | (refine ⟨congrArg (fun z => some (Value.int z)) ?_, hC1, hM1⟩
         simp [R_ahead, *]; done)
      | (refine ⟨congrArg (fun z => some (Value.int z)) ?_, hC, FrM.rf⟩
         simp [R_ahead, *]; done)
  · refine x_iload_n dX11_ahead_8 rfl ?_
    refine y_iconst (a := 0) dX11_ahead_9 rfl ?_
    refine x_bipush (v := nI 60) dX11_ahead_10 rfl ?_
    refine q_X11_77 (c_within (by omega) (by omega)) dX11_ahead_12 rfl ?_
    rintro _ _ ⟨rfl, rfl⟩
    refine z_if_ne 21 dX11_ahead_15 (fun h_15 => ?_) (fun h_15 => ?_)
    · obtain ⟨g, hg, rfl⟩ := inR_nI h_5 (by omega)
      obtain ⟨hI, h999⟩ := hLv.goer hg
      have tg := tN_nI (g := g) (by omega)
      have hgo := hw.goer hg
      obtain ⟨n0, hn0, hn1, rfl⟩ := inB_nI h_15 (by omega)
      have tn := tN_nI (g := n0) (by omega)
      have hne := hrs_ne hw n0 (by omega)
      refine x_aload_n dX11_ahead_21 rfl ?_
      refine g_X11_68 dX11_ahead_22 ?_
      refine x_aload_n dX11_ahead_25 rfl ?_
      refine g_X11_58 dX11_ahead_26 ?_
      refine x_iload_n dX11_ahead_29 rfl ?_
      refine q_X11_228 (c_after Lk49 (by decide) hR hI (by omega) (by omega)) dX11_ahead_30 rfl ?_
      rintro _ M1 ⟨rfl, hR1, hF1⟩
      obtain ⟨hC1, hM1⟩ := hC.fr65 hF1
      refine g_X11_204 dX11_ahead_33 ?_
      refine x_iload_n dX11_ahead_36 rfl ?_
      refine x_ial dX11_ahead_37 (ArL (by assumption) (Or.inr ⟨by decide, by decide, rfl⟩)) (by omega) ?_
      rw [hR1.place (by rw [hne.2.1 2 (by omega) (by omega)]; exact hg)]
      refine x_iret dX11_ahead_38 ?_
      first
        | (refine ⟨congrArg (fun z => some (Value.int z)) ?_, hC1, hM1⟩
           simp [R_ahead, *]; done)
        | (refine ⟨congrArg (fun z => some (Value.int z)) ?_, hC, FrM.rf⟩
           simp [R_ahead, *]; done)
    · refine x_ldc dX11_ahead_18 k_X11_81 ?_
      refine x_iret dX11_ahead_20 ?_
      first
        | (refine ⟨congrArg (fun z => some (Value.int z)) ?_, hC1, hM1⟩
           simp [R_ahead, *]; done)
        | (refine ⟨congrArg (fun z => some (Value.int z)) ?_, hC, FrM.rf⟩
           simp [R_ahead, *]; done)
set_option maxRecDepth 100000 in
set_option maxHeartbeats 4000000 in
theorem c_strength {Ω : Om} {l : Launch} {M : Mem} {σ : Sg} (hC : IC M σ) (hW : SgW σ) {x n : Int32} : Ct Ω l yX11_strength cX11_strength 3 7 (some .int) [.ref (Ω.2.2 0), .int x, .int n] M (fun ro M' => ro = some (.int (R_strength σ.v x n)) ∧ IC M' σ ∧ FrM M M') := by
  have hL49 : Lk 49 := Lk49
  have hL57 : Lk 57 := Lk57
  have hR := hC.lake
  have hLv : Lv σ.v := hW.2.2.1
  have hw := hLv.wv
  have hn := hw.nums
  have hL65 : Lk 65 := Lk65
  refine ct_of (by decide) (Nat.le_of_ble_eq_true rfl) ?_
  intro p e R s m args below meth c
  refine x_aload_n dX11_strength_0 rfl ?_
  refine x_iload_n dX11_strength_1 rfl ?_
  refine q_X11_192 (c_isRung hR hw) dX11_strength_2 rfl ?_
  rintro _ _ ⟨rfl, rfl⟩
  refine z_if_eq 18 dX11_strength_5 (fun h_5 => ?_) (fun h_5 => ?_)
  · refine x_ldc dX11_strength_18 k_X11_81 ?_
    refine x_iret dX11_strength_20 ?_
    first
      | (refine ⟨congrArg (fun z => some (Value.int z)) ?_, hC1, hM1⟩
         simp [R_strength, *]; done)
      | (refine ⟨congrArg (fun z => some (Value.int z)) ?_, hC, FrM.rf⟩
         simp [R_strength, *]; done)
  · refine x_iload_n dX11_strength_8 rfl ?_
    refine y_iconst (a := 0) dX11_strength_9 rfl ?_
    refine x_bipush (v := nI 60) dX11_strength_10 rfl ?_
    refine q_X11_77 (c_within (by omega) (by omega)) dX11_strength_12 rfl ?_
    rintro _ _ ⟨rfl, rfl⟩
    refine z_if_ne 21 dX11_strength_15 (fun h_15 => ?_) (fun h_15 => ?_)
    · obtain ⟨r, hr, rfl⟩ := inR_nI h_5 (by omega)
      obtain ⟨hI, h999⟩ := hLv.rung hr
      have tr := tN_nI (g := r) (by omega)
      have hst := hw.str (p := r + 1) (by omega)
      obtain ⟨n0, hn0, hn1, rfl⟩ := inB_nI h_15 (by omega)
      have tn := tN_nI (g := n0) (by omega)
      have hne := hrs_ne hw n0 (by omega)
      refine x_aload_n dX11_strength_21 rfl ?_
      refine g_X11_68 dX11_strength_22 ?_
      refine x_aload_n dX11_strength_25 rfl ?_
      refine g_X11_58 dX11_strength_26 ?_
      refine x_iload_n dX11_strength_29 rfl ?_
      refine q_X11_228 (c_after Lk49 (by decide) hR hI (by omega) (by omega)) dX11_strength_30 rfl ?_
      rintro _ M1 ⟨rfl, hR1, hF1⟩
      obtain ⟨hC1, hM1⟩ := hC.fr65 hF1
      refine g_X11_195 dX11_strength_33 ?_
      refine x_iload_n dX11_strength_36 rfl ?_
      refine y_iconst (a := 1) dX11_strength_37 rfl ?_
      refine y_iadd dX11_strength_38 ?_
      refine x_ial dX11_strength_39 (ArL (by assumption) (Or.inl ⟨by decide, by decide, rfl⟩)) (by omega) ?_
      rw [hR1.strength (by rw [hne.2.1 0 (by omega) (by omega)]; omega), show 5 + (r + 1) = 6 + r by omega]
      refine x_iret dX11_strength_40 ?_
      first
        | (refine ⟨congrArg (fun z => some (Value.int z)) ?_, hC1, hM1⟩
           simp [R_strength, *]; done)
        | (refine ⟨congrArg (fun z => some (Value.int z)) ?_, hC, FrM.rf⟩
           simp [R_strength, *]; done)
    · refine x_ldc dX11_strength_18 k_X11_81 ?_
      refine x_iret dX11_strength_20 ?_
      first
        | (refine ⟨congrArg (fun z => some (Value.int z)) ?_, hC1, hM1⟩
           simp [R_strength, *]; done)
        | (refine ⟨congrArg (fun z => some (Value.int z)) ?_, hC, FrM.rf⟩
           simp [R_strength, *]; done)
set_option maxRecDepth 100000 in
set_option maxHeartbeats 4000000 in
theorem c_above {Ω : Om} {l : Launch} {M : Mem} {σ : Sg} (hC : IC M σ) (hW : SgW σ) {x : Int32} : Ct Ω l yX11_above cX11_above 2 7 (some .int) [.ref (Ω.2.2 0), .int x] M (fun ro M' => ro = some (.int (R_above σ.v x)) ∧ IC M' σ ∧ FrM M M') := by
  have hL49 : Lk 49 := Lk49
  have hL57 : Lk 57 := Lk57
  have hR := hC.lake
  have hLv : Lv σ.v := hW.2.2.1
  have hw := hLv.wv
  have hn := hw.nums
  have hL65 : Lk 65 := Lk65
  refine ct_of (by decide) (Nat.le_of_ble_eq_true rfl) ?_
  intro p e R s m args below meth c
  refine x_aload_n dX11_above_0 rfl ?_
  refine x_iload_n dX11_above_1 rfl ?_
  refine q_X11_180 (c_isGoer hR hw) dX11_above_2 rfl ?_
  rintro _ _ ⟨rfl, rfl⟩
  refine z_if_eq 23 dX11_above_5 (fun h_5 => ?_) (fun h_5 => ?_)
  · refine x_ldc dX11_above_23 k_X11_81 ?_
    refine x_iret dX11_above_25 ?_
    first
      | (refine ⟨congrArg (fun z => some (Value.int z)) ?_, hC1, hM1⟩
         simp [R_above, *]; done)
      | (refine ⟨congrArg (fun z => some (Value.int z)) ?_, hC, FrM.rf⟩
         simp [R_above, *]; done)
  · obtain ⟨g, hg, rfl⟩ := inR_nI h_5 (by omega)
    obtain ⟨hI, h999⟩ := hLv.goer hg
    have tg := tN_nI (g := g) (by omega)
    have hgo := hw.goer hg
    refine x_aload_n dX11_above_8 rfl ?_
    refine g_X11_68 dX11_above_9 ?_
    refine x_aload_n dX11_above_12 rfl ?_
    refine g_X11_58 dX11_above_13 ?_
    refine x_iload_n dX11_above_16 rfl ?_
    refine q_X11_232 (c_whenAbove Lk49 (by decide) hR hI hg (by omega)) dX11_above_17 rfl ?_
    rintro _ M1 ⟨rfl, hF1⟩
    obtain ⟨hC1, hM1⟩ := hC.fr65 hF1
    refine x_goto 25 dX11_above_20 ?_
    refine x_iret dX11_above_25 ?_
    first
      | (refine ⟨congrArg (fun z => some (Value.int z)) ?_, hC1, hM1⟩
         simp [R_above, *]; done)
      | (refine ⟨congrArg (fun z => some (Value.int z)) ?_, hC, FrM.rf⟩
         simp [R_above, *]; done)
set_option maxRecDepth 100000 in
set_option maxHeartbeats 4000000 in
theorem c_broken {Ω : Om} {l : Launch} {M : Mem} {σ : Sg} (hC : IC M σ) (hW : SgW σ) {x : Int32} : Ct Ω l yX11_broken cX11_broken 2 7 (some .int) [.ref (Ω.2.2 0), .int x] M (fun ro M' => ro = some (.int (R_broken σ.v x)) ∧ IC M' σ ∧ FrM M M') := by
  have hL49 : Lk 49 := Lk49
  have hL57 : Lk 57 := Lk57
  have hR := hC.lake
  have hLv : Lv σ.v := hW.2.2.1
  have hw := hLv.wv
  have hn := hw.nums
  have hL65 : Lk 65 := Lk65
  refine ct_of (by decide) (Nat.le_of_ble_eq_true rfl) ?_
  intro p e R s m args below meth c
  refine x_aload_n dX11_broken_0 rfl ?_
  refine x_iload_n dX11_broken_1 rfl ?_
  refine q_X11_192 (c_isRung hR hw) dX11_broken_2 rfl ?_
  rintro _ _ ⟨rfl, rfl⟩
  refine z_if_eq 25 dX11_broken_5 (fun h_5 => ?_) (fun h_5 => ?_)
  · refine x_ldc dX11_broken_25 k_X11_81 ?_
    refine x_iret dX11_broken_27 ?_
    first
      | (refine ⟨congrArg (fun z => some (Value.int z)) ?_, hC1, hM1⟩
         simp [R_broken, *]; done)
      | (refine ⟨congrArg (fun z => some (Value.int z)) ?_, hC, FrM.rf⟩
         simp [R_broken, *]; done)
  · obtain ⟨r, hr, rfl⟩ := inR_nI h_5 (by omega)
    obtain ⟨hI, h999⟩ := hLv.rung hr
    have tr := tN_nI (g := r) (by omega)
    have hst := hw.str (p := r + 1) (by omega)
    have hbl := bit_lt (g := r) (n := 9) (by omega)
    refine x_aload_n dX11_broken_8 rfl ?_
    refine g_X11_68 dX11_broken_9 ?_
    refine x_aload_n dX11_broken_12 rfl ?_
    refine g_X11_58 dX11_broken_13 ?_
    refine y_iconst (a := 1) dX11_broken_16 rfl ?_
    refine x_iload_n dX11_broken_17 rfl ?_
    refine y_ishl dX11_broken_18 (by omega) ?_
    try rw [Nat.one_mul]
    refine q_X11_236 (c_whenBroken Lk49 (by decide) hR hI (by omega) (by omega)) dX11_broken_19 rfl ?_
    rintro _ M1 ⟨rfl, hRw, hF1⟩
    obtain ⟨hC1, hM1⟩ := hC.fr65 hF1
    refine x_goto 27 dX11_broken_22 ?_
    refine x_iret dX11_broken_27 ?_
    first
      | (refine ⟨congrArg (fun z => some (Value.int z)) ?_, hC1, hM1⟩
         simp [R_broken, *]; done)
      | (refine ⟨congrArg (fun z => some (Value.int z)) ?_, hC, FrM.rf⟩
         simp [R_broken, *]; done)
set_option maxRecDepth 100000 in
set_option maxHeartbeats 4000000 in
theorem c_falls {Ω : Om} {l : Launch} {M : Mem} {σ : Sg} (hC : IC M σ) (hW : SgW σ) {n : Int32} : Ct Ω l yX11_falls cX11_falls 2 7 (some .int) [.ref (Ω.2.2 0), .int n] M (fun ro M' => ro = some (.int (R_falls σ.v n)) ∧ IC M' σ ∧ FrM M M') := by
  have hL49 : Lk 49 := Lk49
  have hL57 : Lk 57 := Lk57
  have hR := hC.lake
  have hLv : Lv σ.v := hW.2.2.1
  have hw := hLv.wv
  have hn := hw.nums
  have hL65 : Lk 65 := Lk65
  refine ct_of (by decide) (Nat.le_of_ble_eq_true rfl) ?_
  intro p e R s m args below meth c
  refine x_aload_n dX11_falls_0 rfl ?_
  refine q_X11_161 (c_hasNoLake hR hw) dX11_falls_1 rfl ?_
  rintro _ _ ⟨rfl, rfl⟩
  refine z_if_eq 10 dX11_falls_4 (fun h_4 => ?_) (fun h_4 => ?_)
  · have h0 : ¬ σ.v 0 = 0 := by simpa using h_4
    obtain ⟨hI, h999⟩ := hLv.rung (r := 0) (by omega)
    refine x_iload_n dX11_falls_10 rfl ?_
    refine y_iconst (a := 0) dX11_falls_11 rfl ?_
    refine x_bipush (v := nI 60) dX11_falls_12 rfl ?_
    refine q_X11_77 (c_within (by omega) (by omega)) dX11_falls_14 rfl ?_
    rintro _ _ ⟨rfl, rfl⟩
    refine z_if_ne 23 dX11_falls_17 (fun h_17 => ?_) (fun h_17 => ?_)
    · obtain ⟨n0, hn0, hn1, rfl⟩ := inB_nI h_17 (by omega)
      have tn := tN_nI (g := n0) (by omega)
      have hne := hrs_ne hw n0 (by omega)
      refine x_aload_n dX11_falls_23 rfl ?_
      refine g_X11_68 dX11_falls_24 ?_
      refine x_aload_n dX11_falls_27 rfl ?_
      refine g_X11_58 dX11_falls_28 ?_
      refine x_iload_n dX11_falls_31 rfl ?_
      refine q_X11_228 (c_after Lk49 (by decide) hR hI (by omega) (by omega)) dX11_falls_32 rfl ?_
      rintro _ M1 ⟨rfl, hR1, hF1⟩
      obtain ⟨hC1, hM1⟩ := hC.fr65 hF1
      refine q_X11_249 (c_allFalls Lk65 hR1 hne.1) dX11_falls_35 rfl ?_
      rintro _ _ ⟨rfl, rfl⟩
      refine x_aload_n dX11_falls_38 rfl ?_
      refine g_X11_58 dX11_falls_39 ?_
      refine q_X11_249 (c_allFalls Lk49 (hR.keep hF1 Lk49 Lk65 (by decide)) hw) dX11_falls_42 rfl ?_
      rintro _ _ ⟨rfl, rfl⟩
      refine x_isub dX11_falls_45 ?_
      refine x_iret dX11_falls_46 ?_
      first
        | (refine ⟨congrArg (fun z => some (Value.int z)) ?_, hC1, hM1⟩
           simp [R_falls, *]; done)
        | (refine ⟨congrArg (fun z => some (Value.int z)) ?_, hC, FrM.rf⟩
           first | (simp [R_falls, *]; done) | (simp at h_4; simp [R_falls, h_4]; done))
    · refine x_ldc dX11_falls_20 k_X11_81 ?_
      refine x_iret dX11_falls_22 ?_
      first
        | (refine ⟨congrArg (fun z => some (Value.int z)) ?_, hC1, hM1⟩
           simp [R_falls, *]; done)
        | (refine ⟨congrArg (fun z => some (Value.int z)) ?_, hC, FrM.rf⟩
           first | (simp [R_falls, *]; done) | (simp at h_4; simp [R_falls, h_4]; done))
  · refine x_ldc dX11_falls_7 k_X11_154 ?_
    refine x_iret dX11_falls_9 ?_
    first
      | (refine ⟨congrArg (fun z => some (Value.int z)) ?_, hC1, hM1⟩
         simp [R_falls, *]; done)
      | (refine ⟨congrArg (fun z => some (Value.int z)) ?_, hC, FrM.rf⟩
         first | (simp [R_falls, *]; done) | (simp at h_4; simp [R_falls, h_4]; done))
