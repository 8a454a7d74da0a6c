/-! THE LAW: its loop, its start (laid by gen_end.py) -/
section
variable {D : va_G} {A : Nat → ClassId}
theorem law_turn {p : Program} {l : Launch} {e : Env} {s : State} {m : MethodId} {below : List Frame} {meth : Method} {c : Code} {sb : Nat} {Q : State → Prop} {pc : Nat} {L : List (Option Value)} {st : List Value} (k : X (lawG p l e s m below meth c sb Q) (mkO D A s.heap.size) RL cL_law 4 12 ret pc L st M0) : XB (lawG p l e s m below meth c sb Q) (mkO D A s.heap.size) s.heap.size RL cL_law 4 12 ret pc L st 289 (FF D A s.heap.size) 289 4317 := by
  intro C H locs ls hl hn hP hS hz
  obtain ⟨hx, hb, hml, hown, hts, hK, hA, hlk2, hrt, hfr, hlo, hce, hsl⟩ := id C
  refine va_forget (fun q hq => hS.2.2 q hq) ?_
  refine k ⟨hx, hb, hml, hown, hts, hK.1, mkO_adj D A _, hlk2, hrt, hfr, hlo, hce, hsl⟩ H [] ls hl hn ?_ ⟨hS.1, fun q h1 h2 => hS.2.1 q h1 (fun z => Nat.not_le.mpr h1 z), fun q hq => by cases hq⟩
  refine hP.by pm (fun c q hc => ?_)
  have hl : c < NC := by
    have := (List.getElem?_eq_some_iff.mp hc).1
    simpa [wsO] using this
  rw [wsO_at _ M0 hl] at hc
  rw [wsN_at (mp_pm hl).2, ← hc]
  unfold FF
  rw [(mp_pm hl).1]
theorem law_fin {p : Program} {l : Launch} {e : Env} {s : State} {m : MethodId} {below : List Frame} {meth : Method} {c : Code} {sb : Nat} (L : List (Option Value)) (M : Mem) : X (lawG p l e s m below meth c sb (lw_Z below #[Value.ref sb] s)) (mkO D A s.heap.size) RL cL_law 4 12 ret 1383 L [] M := by
  refine x_iconst (v := 1) dL_law_1383 rfl ?_
  intro C H locs ls hl hn hP hS
  obtain ⟨hx, hb, hml, hown, hts, hK, hA, hlk2, hrt, hfr, hlo, hce, hsl⟩ := id C
  refine va_forget (fun q hq => ?_) ?_
  · obtain ⟨d, h1, h2⟩ := hS.2.2 q hq
    have h2 : s.heap.size + pm d = q.base := h2
    omega
  refine W.widen (k := 600000) (n := 7302250) (by decide) (by decide) ?_
  exact lw_ret hx hb hrt hlk2 dL_law_1384
end
theorem inc7 (i : Nat) : nI i + Int32.ofInt 7 = nI (i + 7) := by
  rw [show Int32.ofInt 7 = nI 7 from rfl, nI_add]
set_option maxRecDepth 100000 in
set_option maxHeartbeats 8000000 in
theorem law_loop {Γ : Gx} {Ω : Om} {ret : Option FieldType} {sb n : Nat} {xs : Nat → Int32} (hX : Scr Γ Ω sb n xs) (fin : ∀ (L : List (Option Value)) (M : Mem), X Γ Ω RL cL_law 4 12 ret 1383 L [] M) :
    ∀ (f i : Nat) (M : Mem) (σ : Sg), n < i + 7 * f + 7 → i ≤ 3584 → IC M σ → IM M σ → SgI σ → X Γ Ω RL cL_law 4 12 ret 18 [some (.ref sb), some (.ref (Ω.2.2 0)), some (.ref (Ω.2.2 34)), some (.int (nI i))] [] M := by
  have hn := hX.2.2.2
  intro f
  induction f with
  | zero =>
    intro i M σ hf hi0 hC hM hI
    refine x_iload_n dL_law_18 rfl ?_
    refine x_aload_n dL_law_19 rfl ?_
    refine x_slen hX dL_law_20 ?_
    refine x_bipush (v := nI 7) dL_law_21 rfl ?_
    refine x_isub dL_law_23 ?_
    refine x_icmp_gt 1383 dL_law_24 (fun _ => fin _ _) (fun h => ?_)
    rw [sub7 hn, nI_toInt (by omega)] at h
    omega
  | succ f ih =>
    intro i M σ hf hi0 hC hM hI
    refine x_iload_n dL_law_18 rfl ?_
    refine x_aload_n dL_law_19 rfl ?_
    refine x_slen hX dL_law_20 ?_
    refine x_bipush (v := nI 7) dL_law_21 rfl ?_
    refine x_isub dL_law_23 ?_
    refine x_icmp_gt 1383 dL_law_24 (fun _ => fin _ _) (fun h => ?_)
    rw [sub7 hn, nI_toInt (by omega)] at h
    have hi : i + 7 ≤ n := by omega
    refine x_aload_n dL_law_27 rfl ?_
    refine x_iload_n dL_law_28 rfl ?_
    refine x_sld hX dL_law_29 (by omega) ?_
    refine x_bipush (v := nI 63) dL_law_30 rfl ?_
    refine x_iand dL_law_32 ?_
    obtain ⟨t, ht, et⟩ := and63 (xs i)
    rw [et]
    have next : ∀ (M : Mem) (σ : Sg), IC M σ → IM M σ → SgI σ → X Γ Ω RL cL_law 4 12 ret 1377 [some (.ref sb), some (.ref (Ω.2.2 0)), some (.ref (Ω.2.2 34)), some (.int (nI i))] [] M := by
      intro M1 σ1 h1 h2 h3
      refine x_iinc (v := nI (i + 7)) dL_law_1377 rfl (inc7 i) ?_
      refine x_goto 18 dL_law_1380 ?_
      exact ih (i + 7) M1 σ1 (by omega) (by omega) h1 h2 h3
    rcases (show t = 0 ∨ t = 1 ∨ t = 2 ∨ t = 3 ∨ t = 4 ∨ t = 5 ∨ t = 6 ∨ t = 7 ∨ t = 8 ∨ t = 9 ∨ t = 10 ∨ t = 11 ∨ t = 12 ∨ t = 13 ∨ t = 14 ∨ t = 15 ∨ t = 16 ∨ t = 17 ∨ t = 18 ∨ t = 19 ∨ t = 20 ∨ t = 21 ∨ t = 22 ∨ t = 23 ∨ t = 24 ∨ t = 25 ∨ t = 26 ∨ t = 27 ∨ t = 28 ∨ t = 29 ∨ t = 30 ∨ t = 31 ∨ t = 32 ∨ t = 33 ∨ t = 34 ∨ t = 35 ∨ t = 36 ∨ t = 37 ∨ 38 ≤ t by omega) with rfl | rfl | rfl | rfl | rfl | rfl | rfl | rfl | rfl | rfl | rfl | rfl | rfl | rfl | rfl | rfl | rfl | rfl | rfl | rfl | rfl | rfl | rfl | rfl | rfl | rfl | rfl | rfl | rfl | rfl | rfl | rfl | rfl | rfl | rfl | rfl | rfl | rfl | h38
    · refine x_tableIn 200 dL_law_33 (by decide) (by decide) rfl ?_
      exact la_row hX hi next hC hM hI
    · refine x_tableIn 243 dL_law_33 (by decide) (by decide) rfl ?_
      exact la_set hX hi next hC hM hI
    · refine x_tableIn 286 dL_law_33 (by decide) (by decide) rfl ?_
      exact la_copy hX hi next hC hM hI
    · refine x_tableIn 349 dL_law_33 (by decide) (by decide) rfl ?_
      exact la_drop hX hi next hC hM hI
    · refine x_tableIn 372 dL_law_33 (by decide) (by decide) rfl ?_
      exact la_feed hX hi next hC hM hI
    · refine x_tableIn 395 dL_law_33 (by decide) (by decide) rfl ?_
      exact la_lake hX hi next hC hM hI
    · refine x_tableIn 408 dL_law_33 (by decide) (by decide) rfl ?_
      exact la_fault hX hi next hC hM hI
    · refine x_tableIn 421 dL_law_33 (by decide) (by decide) rfl ?_
      exact la_undo hX hi next hC hM hI
    · refine x_tableIn 434 dL_law_33 (by decide) (by decide) rfl ?_
      exact la_hours hX hi next hC hM hI
    · refine x_tableIn 457 dL_law_33 (by decide) (by decide) rfl ?_
      exact la_begin hX hi next hC hM hI
    · refine x_tableIn 490 dL_law_33 (by decide) (by decide) rfl ?_
      exact la_hold hX hi next hC hM hI
    · refine x_tableIn 523 dL_law_33 (by decide) (by decide) rfl ?_
      exact la_mend hX hi next hC hM hI
    · refine x_tableIn 546 dL_law_33 (by decide) (by decide) rfl ?_
      exact la_takeOut hX hi next hC hM hI
    · refine x_tableIn 569 dL_law_33 (by decide) (by decide) rfl ?_
      exact la_goer hX hi next hC hM hI
    · refine x_tableIn 602 dL_law_33 (by decide) (by decide) rfl ?_
      exact la_rung hX hi next hC hM hI
    · refine x_tableIn 635 dL_law_33 (by decide) (by decide) rfl ?_
      exact la_stand hX hi next hC hM hI
    · refine x_tableIn 658 dL_law_33 (by decide) (by decide) rfl ?_
      exact la_ahead hX hi next hC hM hI
    · refine x_tableIn 691 dL_law_33 (by decide) (by decide) rfl ?_
      exact la_strength hX hi next hC hM hI
    · refine x_tableIn 724 dL_law_33 (by decide) (by decide) rfl ?_
      exact la_above hX hi next hC hM hI
    · refine x_tableIn 747 dL_law_33 (by decide) (by decide) rfl ?_
      exact la_broken hX hi next hC hM hI
    · refine x_tableIn 770 dL_law_33 (by decide) (by decide) rfl ?_
      exact la_first hX hi next hC hM hI
    · refine x_tableIn 793 dL_law_33 (by decide) (by decide) rfl ?_
      exact la_falls hX hi next hC hM hI
    · refine x_tableIn 816 dL_law_33 (by decide) (by decide) rfl ?_
      exact la_mends hX hi next hC hM hI
    · refine x_tableIn 859 dL_law_33 (by decide) (by decide) rfl ?_
      exact la_holds hX hi next hC hM hI
    · refine x_tableIn 902 dL_law_33 (by decide) (by decide) rfl ?_
      exact la_line hX hi next hC hM hI
    · refine x_tableIn 935 dL_law_33 (by decide) (by decide) rfl ?_
      exact la_heavy hX hi next hC hM hI
    · refine x_tableIn 958 dL_law_33 (by decide) (by decide) rfl ?_
      exact la_who hX hi next hC hM hI
    · refine x_tableIn 1033 dL_law_33 (by decide) (by decide) rfl ?_
      exact la_rotten hX hi next hC hM hI
    · refine x_tableIn 1086 dL_law_33 (by decide) (by decide) rfl ?_
      exact la_risk hX hi next hC hM hI
    · refine x_tableIn 1140 dL_law_33 (by decide) (by decide) rfl ?_
      exact la_drawn hX hi next hC hM hI
    · refine x_tableIn 1183 dL_law_33 (by decide) (by decide) rfl ?_
      exact la_image hX hi next hC hM hI
    · refine x_tableIn 1206 dL_law_33 (by decide) (by decide) rfl ?_
      exact la_restore hX hi next hC hM hI
    · refine x_tableIn 1229 dL_law_33 (by decide) (by decide) rfl ?_
      exact la_kind hX hi next hC hM hI
    · refine x_tableIn 1252 dL_law_33 (by decide) (by decide) rfl ?_
      exact la_as hX hi next hC hM hI
    · refine x_tableIn 1285 dL_law_33 (by decide) (by decide) rfl ?_
      exact la_ask hX hi next hC hM hI
    · refine x_tableIn 1318 dL_law_33 (by decide) (by decide) rfl ?_
      exact la_trace hX hi next hC hM hI
    · refine x_tableIn 1341 dL_law_33 (by decide) (by decide) rfl ?_
      exact la_count hX hi next hC hM hI
    · refine x_tableIn 1364 dL_law_33 (by decide) (by decide) rfl ?_
      exact la_status hX hi next hC hM hI
    · refine x_tableOut 1377 dL_law_33 (Or.inr (by rw [nI_toInt (by omega)]; omega)) ?_
      exact next M σ hC hM hI
theorem arr_of {s : State} {args : Array Value} {ty : FieldType} (h : (Cond.arrayClass ty).before args s = true) (hv : ∀ cA : ClassId, s.vm.findClass ("[" ++ ty.toString) = some cA → va_RA s cA ty) : ∃ cA : ClassId, ArrOfT s cA ty ∧ va_RA s cA ty := by
  obtain ⟨c, k, comp, h1, h2, h3⟩ := Cond.arrayClass_spec h
  exact ⟨c, fun n z => ⟨fun k h => (by cases h), k, h2, comp, h3⟩, hv c h1⟩
theorem arr_over {s : State} {args : Array Value} {C : String} (h : (Cond.arrayOver (.object C)).before args s = true) : ∃ cA : ClassId, ArrOfT s cA (.object C) ∧ va_RA s cA (.object C) := by
  obtain ⟨comp, c, k, h1, h2, h3, h4, h5⟩ := Cond.arrayOver_spec h
  exact ⟨c, fun n z => ⟨fun k h => (by cases h), k, h3, comp, h4⟩, k, comp, h3, h4, h1, h5⟩
set_option maxRecDepth 100000 in
set_option maxHeartbeats 8000000 in
theorem law_K {s : State} {args : Array Value} (hts : ∀ w ∈ lw_tbl, w.before args s = true) (hgv : (Jvm.Cond.and given_1 narrow_1).before args s = true) : ∃ (D : va_G) (A : Nat → ClassId), ∀ q, Kbd (mkO D A q) s := by
  have htb : ∀ w ∈ tbw, w.before args s = true := fun w hw => hts w (List.mem_filter.mp hw).1
  have hs := flat_of_before _ hgv
  obtain ⟨c0, i0, k0⟩ := u_known (C := RX0) (T := TX0) (N := 5) (n := 5) htb inX0 (hts _ (List.mem_of_getElem? (i := 137) (by decide +kernel)))
  obtain ⟨c1, i1, k1⟩ := u_known (C := RX1) (T := TX1) (N := 0) (n := 0) htb (fun w hw => by simp [u_ws] at hw) (hts _ (List.mem_of_getElem? (i := 166) (by decide +kernel)))
  obtain ⟨c2, i2, k2⟩ := u_known (C := RX2) (T := TX2) (N := 0) (n := 0) htb (fun w hw => by simp [u_ws] at hw) (hts _ (List.mem_of_getElem? (i := 183) (by decide +kernel)))
  obtain ⟨c3, i3, k3⟩ := u_known (C := RX3) (T := TX3) (N := 0) (n := 0) htb (fun w hw => by simp [u_ws] at hw) (hts _ (List.mem_of_getElem? (i := 176) (by decide +kernel)))
  obtain ⟨c4, i4, k4⟩ := u_known (C := RX4) (T := TX4) (N := 0) (n := 0) htb (fun w hw => by simp [u_ws] at hw) (hts _ (List.mem_of_getElem? (i := 190) (by decide +kernel)))
  obtain ⟨c5, i5, k5⟩ := u_known (C := RX5) (T := TX5) (N := 14) (n := 14) htb inX5 (hts _ (List.mem_of_getElem? (i := 276) (by decide +kernel)))
  obtain ⟨c6, i6, k6⟩ := u_known (C := RX6) (T := TX6) (N := 0) (n := 0) htb (fun w hw => by simp [u_ws] at hw) (hts _ (List.mem_of_getElem? (i := 197) (by decide +kernel)))
  obtain ⟨c7, i7, k7⟩ := u_known (C := RX8) (T := TX8) (N := 14) (n := 14) htb inX8 (hts _ (List.mem_of_getElem? (i := 203) (by decide +kernel)))
  obtain ⟨c8, i8, k8⟩ := u_known (C := RX9) (T := TX9) (N := 3) (n := 3) htb inX9 (hts _ (List.mem_of_getElem? (i := 332) (by decide +kernel)))
  obtain ⟨c9, i9, k9⟩ := u_known (C := RX10) (T := TX10) (N := 7) (n := 7) htb inX10 (hts _ (List.mem_of_getElem? (i := 103) (by decide +kernel)))
  obtain ⟨c10, i10, k10⟩ := u_known (C := RX11) (T := TX11) (N := 13) (n := 13) htb inX11 (hts _ (List.mem_of_getElem? (i := 93) (by decide +kernel)))
  obtain ⟨c11, i11, k11⟩ := u_known (C := RX12) (T := TX12) (N := 26) (n := 26) htb inX12 (hts _ (List.mem_of_getElem? (i := 1007) (by decide +kernel)))
  obtain ⟨a0, p0, r0⟩ := arr_of (ty := .int) (hts _ (List.mem_of_getElem? (i := 133) (by decide +kernel))) (fun _ h => h)
  obtain ⟨a1, p1, r1⟩ := arr_of (ty := .boolean) (hts _ (List.mem_of_getElem? (i := 1091) (by decide +kernel))) (fun _ h => h)
  obtain ⟨a2, p2, r2⟩ := arr_over (C := RX7) (hts _ (List.mem_of_getElem? (i := 164) (by decide +kernel)))
  obtain ⟨a3, p3, r3⟩ := arr_over (C := RX8) (hts _ (List.mem_of_getElem? (i := 135) (by decide +kernel)))
  obtain ⟨a4, p4, r4⟩ := arr_over (C := RX9) (hts _ (List.mem_of_getElem? (i := 101) (by decide +kernel)))
  refine ⟨(fun k => if k = 0 then c0 else if k = 1 then c1 else if k = 2 then c2 else if k = 3 then c3 else if k = 4 then c4 else if k = 5 then c5 else if k = 6 then c6 else if k = 7 then c7 else if k = 8 then c8 else if k = 9 then c9 else if k = 10 then c10 else c11, fun k => if k = 0 then i0 else if k = 1 then i1 else if k = 2 then i2 else if k = 3 then i3 else if k = 4 then i4 else if k = 5 then i5 else if k = 6 then i6 else if k = 7 then i7 else if k = 8 then i8 else if k = 9 then i9 else if k = 10 then i10 else i11), fun k => if k = 0 then a0 else if k = 1 then a1 else if k = 2 then a2 else if k = 3 then a3 else a4, fun q => ?_⟩
  refine ⟨⟨⟨fun k q hq => ?_, fun k q hq => ?_⟩, ?_, ?_, ?_, ?_⟩, ?_, ?_, ?_⟩
  · match k, hq with
    | 0, hq => cases hq; exact k0
    | 1, hq => cases hq; exact k1
    | 2, hq => cases hq; exact k2
    | 3, hq => cases hq; exact k3
    | 4, hq => cases hq; exact k4
    | 5, hq => cases hq; exact k5
    | 6, hq => cases hq; exact k6
    | 7, hq => cases hq; exact k7
    | 8, hq => cases hq; exact k8
    | 9, hq => cases hq; exact k9
    | 10, hq => cases hq; exact k10
    | 11, hq => cases hq; exact k11
    | k + 12, hq => simp [vwCl] at hq
  · match k, hq with
    | 0, hq => cases hq; exact ⟨p0, r0⟩
    | 1, hq => cases hq; exact ⟨p1, r1⟩
    | 2, hq => cases hq; exact ⟨p2, r2⟩
    | 3, hq => cases hq; exact ⟨p3, r3⟩
    | 4, hq => cases hq; exact ⟨p4, r4⟩
    | k + 5, hq => simp [tysO] at hq
  · exact (List.forall_mem_cons.mpr ⟨va_Nw.of rfl (hts _ (List.mem_of_getElem? (i := 1482) (by decide +kernel))), (List.forall_mem_cons.mpr ⟨va_Nw.of rfl (hts _ (List.mem_of_getElem? (i := 1483) (by decide +kernel))), (List.forall_mem_cons.mpr ⟨va_Nw.of rfl (hts _ (List.mem_of_getElem? (i := 1484) (by decide +kernel))), (fun _ h => absurd h List.not_mem_nil)⟩)⟩)⟩)
  · exact (List.forall_mem_cons.mpr ⟨va_Nc.of (hs _ (by decide +kernel)), (List.forall_mem_cons.mpr ⟨va_Nc.of (hs _ (by decide +kernel)), (List.forall_mem_cons.mpr ⟨va_Nc.of (hs _ (by decide +kernel)), (List.forall_mem_cons.mpr ⟨va_Nc.of (hs _ (by decide +kernel)), (List.forall_mem_cons.mpr ⟨va_Nc.of (hs _ (by decide +kernel)), (List.forall_mem_cons.mpr ⟨va_Nc.of (hs _ (by decide +kernel)), (List.forall_mem_cons.mpr ⟨va_Nc.of (hs _ (by decide +kernel)), (List.forall_mem_cons.mpr ⟨va_Nc.of (hs _ (by decide +kernel)), (List.forall_mem_cons.mpr ⟨va_Nc.of (hs _ (by decide +kernel)), (List.forall_mem_cons.mpr ⟨va_Nc.of (hs _ (by decide +kernel)), (List.forall_mem_cons.mpr ⟨va_Nc.of (hs _ (by decide +kernel)), (List.forall_mem_cons.mpr ⟨va_Nc.of (hs _ (by decide +kernel)), (List.forall_mem_cons.mpr ⟨va_Nc.of (hs _ (by decide +kernel)), (List.forall_mem_cons.mpr ⟨va_Nc.of (hs _ (by decide +kernel)), (List.forall_mem_cons.mpr ⟨va_Nc.of (hs _ (by decide +kernel)), (List.forall_mem_cons.mpr ⟨va_Nc.of (hs _ (by decide +kernel)), (List.forall_mem_cons.mpr ⟨va_Nc.of (hs _ (by decide +kernel)), (fun _ h => absurd h List.not_mem_nil)⟩)⟩)⟩)⟩)⟩)⟩)⟩)⟩)⟩)⟩)⟩)⟩)⟩)⟩)⟩)⟩)⟩)
  · exact va_Nw.of rfl (hts _ (List.mem_of_getElem? (i := 490) (by decide +kernel)))
  · exact va_Nw.of rfl (hts _ (List.mem_of_getElem? (i := 558) (by decide +kernel)))
  · exact (List.forall_mem_cons.mpr ⟨va_Nw.of rfl (hts _ (List.mem_of_getElem? (i := 104) (by decide +kernel))), (List.forall_mem_cons.mpr ⟨va_Nw.of rfl (hts _ (List.mem_of_getElem? (i := 138) (by decide +kernel))), (List.forall_mem_cons.mpr ⟨va_Nw.of rfl (hts _ (List.mem_of_getElem? (i := 167) (by decide +kernel))), (List.forall_mem_cons.mpr ⟨va_Nw.of rfl (hts _ (List.mem_of_getElem? (i := 170) (by decide +kernel))), (List.forall_mem_cons.mpr ⟨va_Nw.of rfl (hts _ (List.mem_of_getElem? (i := 177) (by decide +kernel))), (List.forall_mem_cons.mpr ⟨va_Nw.of rfl (hts _ (List.mem_of_getElem? (i := 180) (by decide +kernel))), (List.forall_mem_cons.mpr ⟨va_Nw.of rfl (hts _ (List.mem_of_getElem? (i := 184) (by decide +kernel))), (List.forall_mem_cons.mpr ⟨va_Nw.of rfl (hts _ (List.mem_of_getElem? (i := 187) (by decide +kernel))), (List.forall_mem_cons.mpr ⟨va_Nw.of rfl (hts _ (List.mem_of_getElem? (i := 191) (by decide +kernel))), (List.forall_mem_cons.mpr ⟨va_Nw.of rfl (hts _ (List.mem_of_getElem? (i := 194) (by decide +kernel))), (List.forall_mem_cons.mpr ⟨va_Nw.of rfl (hts _ (List.mem_of_getElem? (i := 198) (by decide +kernel))), (List.forall_mem_cons.mpr ⟨va_Nw.of rfl (hts _ (List.mem_of_getElem? (i := 201) (by decide +kernel))), (List.forall_mem_cons.mpr ⟨va_Nw.of rfl (hts _ (List.mem_of_getElem? (i := 333) (by decide +kernel))), (fun _ h => absurd h List.not_mem_nil)⟩)⟩)⟩)⟩)⟩)⟩)⟩)⟩)⟩)⟩)⟩)⟩)⟩)
  · exact (List.forall_mem_cons.mpr ⟨va_Nw.of rfl (hts _ (List.mem_of_getElem? (i := 1485) (by decide +kernel))), (List.forall_mem_cons.mpr ⟨va_Nw.of rfl (hts _ (List.mem_of_getElem? (i := 1486) (by decide +kernel))), (List.forall_mem_cons.mpr ⟨va_Nw.of rfl (hts _ (List.mem_of_getElem? (i := 1487) (by decide +kernel))), (List.forall_mem_cons.mpr ⟨va_Nw.of rfl (hts _ (List.mem_of_getElem? (i := 1488) (by decide +kernel))), (List.forall_mem_cons.mpr ⟨va_Nw.of rfl (hts _ (List.mem_of_getElem? (i := 1489) (by decide +kernel))), (fun _ h => absurd h List.not_mem_nil)⟩)⟩)⟩)⟩)⟩)
  · exact (List.forall_mem_cons.mpr ⟨va_AO.of (hts _ (List.mem_of_getElem? (i := 164) (by decide +kernel))), (List.forall_mem_cons.mpr ⟨va_AO.of (hts _ (List.mem_of_getElem? (i := 135) (by decide +kernel))), (List.forall_mem_cons.mpr ⟨va_AO.of (hts _ (List.mem_of_getElem? (i := 101) (by decide +kernel))), (fun _ h => absurd h List.not_mem_nil)⟩)⟩)⟩)
