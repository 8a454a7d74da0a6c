/-! the rows where the ints are naturals (nI), or truth values (bI) -/
def bI (b : Bool) : Int32 := if b then 1 else 0
theorem bI_01 (b : Bool) : bI b = 0 ∨ bI b = 1 := by cases b <;> simp [bI]
theorem nx_and (a b : Nat) : nI a &&& nI b = nI (a &&& b) := by
  apply Int32.toBitVec_inj.1
  show BitVec.ofNat 32 a &&& BitVec.ofNat 32 b = BitVec.ofNat 32 (a &&& b)
  apply BitVec.eq_of_getLsbD_eq
  intro i hi
  simp [hi]
theorem nx_or (a b : Nat) : nI a ||| nI b = nI (a ||| b) := by
  apply Int32.toBitVec_inj.1
  show BitVec.ofNat 32 a ||| BitVec.ofNat 32 b = BitVec.ofNat 32 (a ||| b)
  apply BitVec.eq_of_getLsbD_eq
  intro i hi
  simp [hi]
theorem nx_xor (a b : Nat) : nI a ^^^ nI b = nI (a ^^^ b) := by
  apply Int32.toBitVec_inj.1
  show BitVec.ofNat 32 a ^^^ BitVec.ofNat 32 b = BitVec.ofNat 32 (a ^^^ b)
  apply BitVec.eq_of_getLsbD_eq
  intro i hi
  simp [hi]
theorem nx_sm : ∀ n, n < 32 → ((nI n &&& 31).toBitVec.smod 32).toNat = n := by decide +kernel
theorem nx_shl (a : Nat) {b : Nat} (hb : b < 32) : nI a <<< (nI b &&& 31) = nI (a * 2 ^ b) := by
  apply Int32.toBitVec_inj.mp
  apply BitVec.eq_of_toNat_eq
  rw [pk_shl _ _ b (nx_sm b hb)]
  show (BitVec.ofNat 32 a).toNat * 2 ^ b % 2 ^ 32 = (BitVec.ofNat 32 (a * 2 ^ b)).toNat
  rw [BitVec.toNat_ofNat, BitVec.toNat_ofNat, Nat.mul_mod, Nat.mod_mod, ← Nat.mul_mod]
theorem nx_shr {a b : Nat} (ha : a < 2 ^ 31) (hb : b < 32) : nI a >>> (nI b &&& 31) = nI (a / 2 ^ b) := pk_shrN ha _ b (nx_sm b hb)
theorem nI_inj {a b : Nat} (ha : a < 2 ^ 31) (hb : b < 2 ^ 31) (h : nI a = nI b) : a = b := (nI_eq ha hb).mp h
section
variable {Γ : Gx} {Ω : Om} {own : String} {cc : ByteArray} {nL lev : Nat} {ret : Option FieldType} {pc : Nat} {L : List (Option Value)} {st : List Value} {M : Mem}
theorem x_ldcw {i : Nat} {v : Int32} (d : decode cc pc = .ok (.ldc_w i, 3)) (hw : Cond.constant own i v ∈ tbw) (k : X Γ Ω own cc nL lev ret (pc + 3) L (.int v :: st) M) : X Γ Ω own cc nL lev ret pc L st M := by
  obtain ⟨p, l, e, R, s, m, args, below, meth, c, Q, cells, slots⟩ := Γ
  intro C H locs ls hl hn hP hS
  exact lv_ldcw C.1 C.2.1 C.2.2.2.1 (C.2.2.2.2.1 _ hw) d (k C H locs ls hl hn hP hS)
theorem y_iadd {a b : Nat} (d : decode cc pc = .ok (.iadd, 1)) (k : X Γ Ω own cc nL lev ret (pc + 1) L (.int (nI (a + b)) :: st) M) : X Γ Ω own cc nL lev ret pc L (.int (nI b) :: .int (nI a) :: st) M := x_iadd d (by rw [nI_add]; exact k)
theorem y_isub {a b : Nat} (d : decode cc pc = .ok (.isub, 1)) (h : b ≤ a) (k : X Γ Ω own cc nL lev ret (pc + 1) L (.int (nI (a - b)) :: st) M) : X Γ Ω own cc nL lev ret pc L (.int (nI b) :: .int (nI a) :: st) M := x_isub d (by rw [pk_sub h]; exact k)
theorem y_imul {a b : Nat} (d : decode cc pc = .ok (.imul, 1)) (k : X Γ Ω own cc nL lev ret (pc + 1) L (.int (nI (a * b)) :: st) M) : X Γ Ω own cc nL lev ret pc L (.int (nI b) :: .int (nI a) :: st) M := x_imul d (by rw [pk_mul]; exact k)
theorem y_idiv {a b : Nat} (d : decode cc pc = .ok (.idiv, 1)) (ha : a < 2 ^ 31) (h0 : 0 < b) (hb : b < 2 ^ 31) (k : X Γ Ω own cc nL lev ret (pc + 1) L (.int (nI (a / b)) :: st) M) : X Γ Ω own cc nL lev ret pc L (.int (nI b) :: .int (nI a) :: st) M := x_idiv d (nI_ne0 h0 hb) (by rw [pk_div ha h0 hb]; exact k)
theorem y_irem {a b : Nat} (d : decode cc pc = .ok (.irem, 1)) (ha : a < 2 ^ 31) (h0 : 0 < b) (hb : b < 2 ^ 31) (k : X Γ Ω own cc nL lev ret (pc + 1) L (.int (nI (a % b)) :: st) M) : X Γ Ω own cc nL lev ret pc L (.int (nI b) :: .int (nI a) :: st) M := x_irem d (nI_ne0 h0 hb) (by rw [pk_rem ha h0 hb]; exact k)
theorem y_iand {a b : Nat} (d : decode cc pc = .ok (.iand, 1)) (k : X Γ Ω own cc nL lev ret (pc + 1) L (.int (nI (a &&& b)) :: st) M) : X Γ Ω own cc nL lev ret pc L (.int (nI b) :: .int (nI a) :: st) M := x_iand d (by rw [nx_and]; exact k)
theorem y_ior {a b : Nat} (d : decode cc pc = .ok (.ior, 1)) (k : X Γ Ω own cc nL lev ret (pc + 1) L (.int (nI (a ||| b)) :: st) M) : X Γ Ω own cc nL lev ret pc L (.int (nI b) :: .int (nI a) :: st) M := x_ior d (by rw [nx_or]; exact k)
theorem y_ixor {a b : Nat} (d : decode cc pc = .ok (.ixor, 1)) (k : X Γ Ω own cc nL lev ret (pc + 1) L (.int (nI (a ^^^ b)) :: st) M) : X Γ Ω own cc nL lev ret pc L (.int (nI b) :: .int (nI a) :: st) M := x_ixor d (by rw [nx_xor]; exact k)
theorem y_ishl {a b : Nat} (d : decode cc pc = .ok (.ishl, 1)) (hb : b < 32) (k : X Γ Ω own cc nL lev ret (pc + 1) L (.int (nI (a * 2 ^ b)) :: st) M) : X Γ Ω own cc nL lev ret pc L (.int (nI b) :: .int (nI a) :: st) M := x_ishl d (by rw [nx_shl a hb]; exact k)
theorem y_ishr {a b : Nat} (d : decode cc pc = .ok (.ishr, 1)) (ha : a < 2 ^ 31) (hb : b < 32) (k : X Γ Ω own cc nL lev ret (pc + 1) L (.int (nI (a / 2 ^ b)) :: st) M) : X Γ Ω own cc nL lev ret pc L (.int (nI b) :: .int (nI a) :: st) M := x_ishr d (by rw [nx_shr ha hb]; exact k)
theorem y_icmp_eq {a b : Nat} {off : Int} (tgt : Nat) (d : decode cc pc = .ok (.if_icmp .eq off, 3)) (ha : a < 2 ^ 31) (hb : b < 2 ^ 31) (kt : a = b → X Γ Ω own cc nL lev ret tgt L st M) (kf : ¬ a = b → X Γ Ω own cc nL lev ret (pc + 3) L st M) (ht : (pc : Int) + off = (tgt : Int) := by decide) : X Γ Ω own cc nL lev ret pc L (.int (nI b) :: .int (nI a) :: st) M := x_icmp_eq tgt d (fun h => kt ((nI_eq ha hb).mp h)) (fun h => kf (fun z => h (by rw [z]))) ht
theorem y_icmp_ne {a b : Nat} {off : Int} (tgt : Nat) (d : decode cc pc = .ok (.if_icmp .ne off, 3)) (ha : a < 2 ^ 31) (hb : b < 2 ^ 31) (kt : ¬ a = b → X Γ Ω own cc nL lev ret tgt L st M) (kf : a = b → X Γ Ω own cc nL lev ret (pc + 3) L st M) (ht : (pc : Int) + off = (tgt : Int) := by decide) : X Γ Ω own cc nL lev ret pc L (.int (nI b) :: .int (nI a) :: st) M := x_icmp_ne tgt d (fun h => kt (fun z => h (by rw [z]))) (fun h => kf ((nI_eq ha hb).mp h)) ht
theorem y_icmp_lt {a b : Nat} {off : Int} (tgt : Nat) (d : decode cc pc = .ok (.if_icmp .lt off, 3)) (ha : a < 2 ^ 31) (hb : b < 2 ^ 31) (kt : a < b → X Γ Ω own cc nL lev ret tgt L st M) (kf : b ≤ a → X Γ Ω own cc nL lev ret (pc + 3) L st M) (ht : (pc : Int) + off = (tgt : Int) := by decide) : X Γ Ω own cc nL lev ret pc L (.int (nI b) :: .int (nI a) :: st) M := x_icmp_lt tgt d (fun h => kt (by rw [nI_toInt ha, nI_toInt hb] at h; omega)) (fun h => kf (by rw [nI_toInt ha, nI_toInt hb] at h; omega)) ht
theorem y_icmp_ge {a b : Nat} {off : Int} (tgt : Nat) (d : decode cc pc = .ok (.if_icmp .ge off, 3)) (ha : a < 2 ^ 31) (hb : b < 2 ^ 31) (kt : b ≤ a → X Γ Ω own cc nL lev ret tgt L st M) (kf : a < b → X Γ Ω own cc nL lev ret (pc + 3) L st M) (ht : (pc : Int) + off = (tgt : Int) := by decide) : X Γ Ω own cc nL lev ret pc L (.int (nI b) :: .int (nI a) :: st) M := x_icmp_ge tgt d (fun h => kt (by rw [nI_toInt ha, nI_toInt hb] at h; omega)) (fun h => kf (by rw [nI_toInt ha, nI_toInt hb] at h; omega)) ht
theorem y_icmp_gt {a b : Nat} {off : Int} (tgt : Nat) (d : decode cc pc = .ok (.if_icmp .gt off, 3)) (ha : a < 2 ^ 31) (hb : b < 2 ^ 31) (kt : b < a → X Γ Ω own cc nL lev ret tgt L st M) (kf : a ≤ b → X Γ Ω own cc nL lev ret (pc + 3) L st M) (ht : (pc : Int) + off = (tgt : Int) := by decide) : X Γ Ω own cc nL lev ret pc L (.int (nI b) :: .int (nI a) :: st) M := x_icmp_gt tgt d (fun h => kt (by rw [nI_toInt ha, nI_toInt hb] at h; omega)) (fun h => kf (by rw [nI_toInt ha, nI_toInt hb] at h; omega)) ht
theorem y_icmp_le {a b : Nat} {off : Int} (tgt : Nat) (d : decode cc pc = .ok (.if_icmp .le off, 3)) (ha : a < 2 ^ 31) (hb : b < 2 ^ 31) (kt : a ≤ b → X Γ Ω own cc nL lev ret tgt L st M) (kf : b < a → X Γ Ω own cc nL lev ret (pc + 3) L st M) (ht : (pc : Int) + off = (tgt : Int) := by decide) : X Γ Ω own cc nL lev ret pc L (.int (nI b) :: .int (nI a) :: st) M := x_icmp_le tgt d (fun h => kt (by rw [nI_toInt ha, nI_toInt hb] at h; omega)) (fun h => kf (by rw [nI_toInt ha, nI_toInt hb] at h; omega)) ht
theorem y_if_eq {a : Nat} {off : Int} (tgt : Nat) (d : decode cc pc = .ok (.ifCond .eq off, 3)) (ha : a < 2 ^ 31) (kt : a = 0 → X Γ Ω own cc nL lev ret tgt L st M) (kf : ¬ a = 0 → X Γ Ω own cc nL lev ret (pc + 3) L st M) (ht : (pc : Int) + off = (tgt : Int) := by decide) : X Γ Ω own cc nL lev ret pc L (.int (nI a) :: st) M := x_if_eq tgt d (fun h => kt ((nI_eq ha (by decide)).mp h)) (fun h => kf (fun z => h (by rw [z]; rfl))) ht
theorem y_if_ne {a : Nat} {off : Int} (tgt : Nat) (d : decode cc pc = .ok (.ifCond .ne off, 3)) (ha : a < 2 ^ 31) (kt : ¬ a = 0 → X Γ Ω own cc nL lev ret tgt L st M) (kf : a = 0 → X Γ Ω own cc nL lev ret (pc + 3) L st M) (ht : (pc : Int) + off = (tgt : Int) := by decide) : X Γ Ω own cc nL lev ret pc L (.int (nI a) :: st) M := x_if_ne tgt d (fun h => kt (fun z => h (by rw [z]; rfl))) (fun h => kf ((nI_eq ha (by decide)).mp h)) ht
theorem y_if_gt {a : Nat} {off : Int} (tgt : Nat) (d : decode cc pc = .ok (.ifCond .gt off, 3)) (ha : a < 2 ^ 31) (kt : 0 < a → X Γ Ω own cc nL lev ret tgt L st M) (kf : a = 0 → X Γ Ω own cc nL lev ret (pc + 3) L st M) (ht : (pc : Int) + off = (tgt : Int) := by decide) : X Γ Ω own cc nL lev ret pc L (.int (nI a) :: st) M := x_if_gt tgt d (fun h => kt (by rw [nI_toInt ha] at h; omega)) (fun h => kf (by rw [nI_toInt ha] at h; omega)) ht
theorem y_if_le {a : Nat} {off : Int} (tgt : Nat) (d : decode cc pc = .ok (.ifCond .le off, 3)) (ha : a < 2 ^ 31) (kt : a = 0 → X Γ Ω own cc nL lev ret tgt L st M) (kf : 0 < a → X Γ Ω own cc nL lev ret (pc + 3) L st M) (ht : (pc : Int) + off = (tgt : Int) := by decide) : X Γ Ω own cc nL lev ret pc L (.int (nI a) :: st) M := x_if_le tgt d (fun h => kt (by rw [nI_toInt ha] at h; omega)) (fun h => kf (by rw [nI_toInt ha] at h; omega)) ht
theorem y_if_ge {a : Nat} {off : Int} (tgt : Nat) (d : decode cc pc = .ok (.ifCond .ge off, 3)) (ha : a < 2 ^ 31) (kt : X Γ Ω own cc nL lev ret tgt L st M) (ht : (pc : Int) + off = (tgt : Int) := by decide) : X Γ Ω own cc nL lev ret pc L (.int (nI a) :: st) M := x_if_ge tgt d (fun _ => kt) (fun h => absurd h (by rw [nI_toInt ha]; omega)) ht
theorem y_if_lt {a : Nat} {off : Int} (tgt : Nat) (d : decode cc pc = .ok (.ifCond .lt off, 3)) (ha : a < 2 ^ 31) (kf : X Γ Ω own cc nL lev ret (pc + 3) L st M) (ht : (pc : Int) + off = (tgt : Int) := by decide) : X Γ Ω own cc nL lev ret pc L (.int (nI a) :: st) M := x_if_lt tgt d (fun h => absurd h (by rw [nI_toInt ha]; omega)) (fun _ => kf) ht
theorem z_if_eq {b : Bool} {off : Int} (tgt : Nat) (d : decode cc pc = .ok (.ifCond .eq off, 3)) (kt : b = false → X Γ Ω own cc nL lev ret tgt L st M) (kf : b = true → X Γ Ω own cc nL lev ret (pc + 3) L st M) (ht : (pc : Int) + off = (tgt : Int) := by decide) : X Γ Ω own cc nL lev ret pc L (.int (bI b) :: st) M := x_if_eq tgt d (fun h => kt (by cases b; rfl; cases h)) (fun h => kf (by cases b; exact absurd rfl h; rfl)) ht
theorem z_if_ne {b : Bool} {off : Int} (tgt : Nat) (d : decode cc pc = .ok (.ifCond .ne off, 3)) (kt : b = true → X Γ Ω own cc nL lev ret tgt L st M) (kf : b = false → X Γ Ω own cc nL lev ret (pc + 3) L st M) (ht : (pc : Int) + off = (tgt : Int) := by decide) : X Γ Ω own cc nL lev ret pc L (.int (bI b) :: st) M := x_if_ne tgt d (fun h => kt (by cases b; exact absurd rfl h; rfl)) (fun h => kf (by cases b; rfl; cases h)) ht
theorem y_iinc {j a : Nat} (d : decode cc pc = .ok (.iinc j 1, 3)) (h : L[j]? = some (some (.int (nI a)))) (k : X Γ Ω own cc nL lev ret (pc + 3) (lst1 L j (.int (nI (a + 1)))) st M) (hj : j < nL := by decide) : X Γ Ω own cc nL lev ret pc L st M := x_iinc d h (v := nI (a + 1)) (by rw [nI_succ]; rfl) k hj
theorem y_idec {j a : Nat} (d : decode cc pc = .ok (.iinc j (-1), 3)) (h : L[j]? = some (some (.int (nI (a + 1))))) (k : X Γ Ω own cc nL lev ret (pc + 3) (lst1 L j (.int (nI a))) st M) (hj : j < nL := by decide) : X Γ Ω own cc nL lev ret pc L st M := x_iinc d h (v := nI a) (pk_m1 a) k hj
theorem y_iconst {n : Int} {a : Nat} (d : decode cc pc = .ok (.iconst n, 1)) (hv : Int32.ofInt n = nI a) (k : X Γ Ω own cc nL lev ret (pc + 1) L (.int (nI a) :: st) M) : X Γ Ω own cc nL lev ret pc L st M := x_iconst d hv k
theorem z_iret {p : Program} {l : Launch} {e : Env} {R : Room} {s : State} {m : MethodId} {args : Array Value} {below : List Frame} {meth : Method} {c : Code} {post : Option Value → Mem → Prop} {b : Bool} (d : decode cc pc = .ok (.ireturn, 1)) (h : post (some (.int (bI b))) M) : X (mkG p l e R s m args below meth c Ω post) Ω own cc nL lev (some .boolean) pc L [.int (bI b)] M := x_zret d (bI_01 b) h
theorem z_iret0 {p : Program} {l : Launch} {e : Env} {R : Room} {s : State} {m : MethodId} {args : Array Value} {below : List Frame} {meth : Method} {c : Code} {post : Option Value → Mem → Prop} (d : decode cc pc = .ok (.ireturn, 1)) (h : post (some (.int (bI false))) M) : X (mkG p l e R s m args below meth c Ω post) Ω own cc nL lev (some .boolean) pc L [.int (nI 0)] M := x_zret d (Or.inl rfl) h
theorem z_iret1 {p : Program} {l : Launch} {e : Env} {R : Room} {s : State} {m : MethodId} {args : Array Value} {below : List Frame} {meth : Method} {c : Code} {post : Option Value → Mem → Prop} (d : decode cc pc = .ok (.ireturn, 1)) (h : post (some (.int (bI true))) M) : X (mkG p l e R s m args below meth c Ω post) Ω own cc nL lev (some .boolean) pc L [.int (nI 1)] M := x_zret d (Or.inr rfl) h
end
