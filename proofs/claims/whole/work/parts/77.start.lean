/-! THE START of both sides; the law's own rows (laid by gen_law.py) -/
def S0 : Sg := mkS (fun _ => 0) (fun _ => -1) (fun _ _ => 0) 0 0 (fun _ => 0) 0 (fun _ => 0) 0 (fun _ _ => 0) (fun _ => none) 0 (fun _ => 0)
theorem S0_I : SgI S0 := by
  refine ⟨⟨fun r hr => ⟨Or.inl rfl, Or.inl rfl⟩, ⟨Nat.zero_le _, fun j hj => absurd hj (Nat.not_lt_zero _)⟩, Or.inr (fun j hj => rfl), Nat.zero_le _, fun i hi => absurd hi (Nat.not_lt_zero _), fun i w hi hw => ?_, Nat.zero_le _, fun _ => rfl⟩, fun i hi z => ?_⟩
  · cases hw
  · cases z
theorem M0_lk (b : Nat) (h : 49 ≤ b) : LkR M0 b (fun _ => 0) := by
  have z : ∀ k, M0.1 b k = 0 := M0_0 (by omega) (by omega)
  exact ⟨z 8, z 9, z 10, z 11, z 12, z 13, fun p h1 h2 => absurd (Nat.le_trans h1 h2) (by decide), fun g hg => absurd hg (Nat.not_lt_zero _)⟩
theorem S0_C : IC M0 S0 := by
  have z0 : ∀ k, M0.1 0 k = 0 := M0_0 (by decide) (by decide)
  refine ⟨fun r hr => ⟨?_, ?_, fun j hj => ?_⟩, z0 12, ⟨M0_0 (by decide) (by decide) 1, fun j hj => absurd hj (Nat.not_lt_zero _)⟩, z0 11, M0_lk 49 (by decide), ⟨0, by decide, z0 8, z0 9, fun i hi => absurd hi (Nat.not_lt_zero _)⟩, ⟨0, by decide, z0 10, fun i hi => ⟨by simp [S0, Sg.im, mkS], fun w hw => by cases hw⟩⟩, ⟨M0_0 (by decide) (by decide) 1, fun j hj => absurd hj (Nat.not_lt_zero _)⟩, Or.inl (M0_0 (by decide) (by decide) 2)⟩
  · exact if_neg (by omega)
  · exact if_pos (Or.inl ⟨by omega, by omega, by omega, rfl⟩)
  · exact if_neg (by omega)
theorem S0_M : IM M0 S0 := by
  have z : ∀ c, 34 ≤ c → c ≠ 36 → ∀ k, M0.1 c k = 0 := fun c h h2 => M0_0 (by omega) h2
  refine ⟨fun r hr => ⟨z 35 (by decide) (by decide) r, if_pos (Or.inr ⟨rfl, hr⟩), fun j hj => z 37 (by decide) (by decide) _⟩, z 34 (by decide) (by decide) 3, z 34 (by decide) (by decide) 4, fun k hk => z 38 (by decide) (by decide) k, ⟨z 34 (by decide) (by decide) 8, fun j hj => absurd hj (Nat.not_lt_zero _)⟩, z 34 (by decide) (by decide) 9, ⟨z 34 (by decide) (by decide) 18, fun i hi => absurd hi (Nat.not_lt_zero _)⟩, fun i hi => ⟨z 46 (by decide) (by decide) i, fun w hw => by cases hw⟩, ⟨z 34 (by decide) (by decide) 25, fun j hj => absurd hj (Nat.not_lt_zero _)⟩⟩
theorem sub7 {n : Nat} (h : n ≤ 3584) : (Int32.ofNat n - nI 7).toInt = (n : Int) - 7 := by
  rw [Int32.toInt_sub, show Int32.ofNat n = nI n from rfl, nI_toInt (by omega), nI_toInt (by decide)]
  exact Int.bmod_eq_of_le (by omega) (by omega)
theorem and63 (x : Int32) : ∃ t, t < 64 ∧ x &&& nI 63 = nI t := by
  refine ⟨(x &&& nI 63).toBitVec.toNat, ?_, ?_⟩
  · have h : (x &&& nI 63).toBitVec.toNat = x.toBitVec.toNat &&& 63 := by
      rw [Int32.toBitVec_and, BitVec.toNat_and]; rfl
    rw [h]
    have := Nat.and_le_right (n := x.toBitVec.toNat) (m := 63)
    omega
  · unfold nI
    apply Int32.toBitVec_inj.mp
    rw [Int32.toBitVec_ofNat']
    simp
theorem cmp_self (x : Int64) : lg_cmp x x = 0 := by simp [lg_cmp]
def lawG (p : Program) (l : Launch) (e : Env) (s : State) (m : MethodId) (below : List Frame) (meth : Method) (c : Code) (sb : Nat) (Q : State → Prop) : Gx := (p, l, e, room_1, s, m, #[Value.ref sb], below, meth, c, Q, 289, 4317)
/-- the script, outside of the world -/
def Scr (Γ : Gx) (Ω : Om) (sb n : Nat) (xs : Nat → Int32) : Prop := va_X sb n xs Γ.2.2.2.2.1 Γ.2.2.2.2.1.heap ∧ sb < Γ.2.2.2.2.1.heap.size ∧ ¬ inW Ω sb ∧ n ≤ 3584
section
variable {Γ : Gx} {Ω : Om} {own : String} {cc : ByteArray} {nL lev : Nat} {ret : Option FieldType} {pc : Nat} {L : List (Option Value)} {st : List Value} {M : Mem} {sb n : Nat} {xs : Nat → Int32}
theorem x_sld {k : Nat} (hX : Scr Γ Ω sb n xs) (d : decode cc pc = .ok (.iaload, 1)) (hk : k < n) (kk : X Γ Ω own cc nL lev ret (pc + 1) L (.int (xs k) :: st) M) : X Γ Ω own cc nL lev ret pc L (.int (nI k) :: .ref sb :: st) M := by
  obtain ⟨p, l, e, R, s, m, args, below, meth, c, Q, cells, slots⟩ := Γ
  intro C H locs ls hl hn hP hS
  obtain ⟨h1, h2, h3, h4⟩ := hX
  have k1 := kk C H locs ls hl hn hP hS
  exact va_sld C.1 C.2.1 h1 h2 h3 hS (vp_in_nI hk (by omega)) d (by rw [nI_clamp (by omega)]; exact k1)
theorem x_slen (hX : Scr Γ Ω sb n xs) (d : decode cc pc = .ok (.arraylength, 1)) (kk : X Γ Ω own cc nL lev ret (pc + 1) L (.int (Int32.ofNat n) :: st) M) : X Γ Ω own cc nL lev ret pc L (.ref sb :: st) M := by
  obtain ⟨p, l, e, R, s, m, args, below, meth, c, Q, cells, slots⟩ := Γ
  intro C H locs ls hl hn hP hS
  obtain ⟨h1, h2, h3, h4⟩ := hX
  exact va_slen C.1 C.2.1 h1 h2 h3 hS d (kk C H locs ls hl hn hP hS)
/-- script[i + k] -/
theorem x_arg {i k : Nat} {j : Int} {u w : Option Value} (hX : Scr Γ Ω sb n xs) (hi : i + 7 ≤ n) (d0 : decode cc pc = .ok (.aload_n 0, 1)) (d1 : decode cc (pc + 1) = .ok (.iload_n 3, 1)) (d2 : decode cc (pc + 2) = .ok (.iconst j, 1)) (hj : Int32.ofInt j = nI k) (d3 : decode cc (pc + 3) = .ok (.iadd, 1)) (d4 : decode cc (pc + 4) = .ok (.iaload, 1)) (hk : k ≤ 6)
    (kk : X Γ Ω own cc nL lev ret (pc + 5) [some (.ref sb), u, w, some (.int (nI i))] (.int (xs (i + k)) :: st) M) : X Γ Ω own cc nL lev ret pc [some (.ref sb), u, w, some (.int (nI i))] st M := by
  refine x_aload_n d0 rfl ?_
  refine x_iload_n d1 rfl ?_
  refine y_iconst (a := k) d2 hj ?_
  refine y_iadd d3 ?_
  exact x_sld hX d4 (by omega) kk
theorem x_arg6 {i : Nat} {u w : Option Value} (hX : Scr Γ Ω sb n xs) (hi : i + 7 ≤ n) (d0 : decode cc pc = .ok (.aload_n 0, 1)) (d1 : decode cc (pc + 1) = .ok (.iload_n 3, 1)) (d2 : decode cc (pc + 2) = .ok (.bipush 6, 2)) (d3 : decode cc (pc + 4) = .ok (.iadd, 1)) (d4 : decode cc (pc + 5) = .ok (.iaload, 1))
    (kk : X Γ Ω own cc nL lev ret (pc + 6) [some (.ref sb), u, w, some (.int (nI i))] (.int (xs (i + 6)) :: st) M) : X Γ Ω own cc nL lev ret pc [some (.ref sb), u, w, some (.int (nI i))] st M := by
  refine x_aload_n d0 rfl ?_
  refine x_iload_n d1 rfl ?_
  refine x_bipush (v := nI 6) d2 rfl ?_
  refine y_iadd d3 ?_
  exact x_sld hX d4 (by omega) kk
end

