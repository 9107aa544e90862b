section RULES
variable {E : Ev} {R : Room} {mi : MI} {fin : Fin9} {K N : Nat} {M : Mem} {pc : Nat} {L : List (Option Value)} {st : List Value}
/-- a truth as a number -/
def pI (P : Prop) [Decidable P] : Int := if P then 1 else 0
theorem pI_t {P : Prop} [Decidable P] (h : P) : pI P = 1 := if_pos h
theorem pI_f {P : Prop} [Decidable P] (h : ¬ P) : pI P = 0 := if_neg h
theorem ret_t {P : Prop} [Decidable P] {Post : Option Value → Mem → Prop} {M : Mem} (h : P) (hp : Post (some (iv (pI P))) M) : Post (some (iv 1)) M := by rw [pI_t h] at hp; exact hp
theorem ret_f {P : Prop} [Decidable P] {Post : Option Value → Mem → Prop} {M : Mem} (h : ¬ P) (hp : Post (some (iv (pI P))) M) : Post (some (iv 0)) M := by rw [pI_f h] at hp; exact hp
/-- another number for the one on the stack -/
theorem v_top {x y : Int} (h : x = y) (k : V E R mi fin K N M pc L (iv y :: st)) : V E R mi fin K N M pc L (iv x :: st) := h ▸ k
theorem v_loc {L2 : List (Option Value)} (h : L = L2) (k : V E R mi fin K N M pc L2 st) : V E R mi fin K N M pc L st := h ▸ k
theorem v_mem {M2 : Mem} (h : M = M2) (k : V E R mi fin K N M2 pc L st) : V E R mi fin K N M pc L st := h ▸ k

theorem v_iconst {n : Int} (d : decode mi.cc pc = .ok (.iconst n, 1)) (k : V E R mi fin K N M (pc + 1) L (iv n :: st)) : V E R mi fin K N M pc L (st) := by
  intro p e s m args below meth c H locs ls d0 C hd hP hS hl
  have k := k p e s m args below meth c H locs ls d0 C hd hP hS hl
  refine lv_iconst C.1 C.2.1 d rfl ?_
  exact k
theorem v_bipush {n : Int} (d : decode mi.cc pc = .ok (.bipush n, 2)) (h : (Int8.ofInt n).toInt32 = Int32.ofInt n) (k : V E R mi fin K N M (pc + 2) L (iv n :: st)) : V E R mi fin K N M pc L (st) := by
  intro p e s m args below meth c H locs ls d0 C hd hP hS hl
  have k := k p e s m args below meth c H locs ls d0 C hd hP hS hl
  refine lv_bipush C.1 C.2.1 d h ?_
  exact k
theorem v_sipush {n : Int} (d : decode mi.cc pc = .ok (.sipush n, 3)) (h : (Int16.ofInt n).toInt32 = Int32.ofInt n) (k : V E R mi fin K N M (pc + 3) L (iv n :: st)) : V E R mi fin K N M pc L (st) := by
  intro p e s m args below meth c H locs ls d0 C hd hP hS hl
  have k := k p e s m args below meth c H locs ls d0 C hd hP hS hl
  refine lv_sipush C.1 C.2.1 d h ?_
  exact k
theorem v_lconst {n : Fin 2} (d : decode mi.cc pc = .ok (.lconst n, 1)) (k : V E R mi fin K N M (pc + 1) L (jv (n : Nat) :: st)) : V E R mi fin K N M pc L (st) := by
  intro p e s m args below meth c H locs ls d0 C hd hP hS hl
  have k := k p e s m args below meth c H locs ls d0 C hd hP hS hl
  refine lv_lconst C.1 C.2.1 d (v := Int64.ofInt (n : Nat)) (Int64.ofInt_eq_ofNat.symm) ?_
  exact k
theorem v_iadd {x y : Int} (d : decode mi.cc pc = .ok (.iadd, 1)) (k : V E R mi fin K N M (pc + 1) L (iv (x + y) :: st)) : V E R mi fin K N M pc L (iv y :: iv x :: st) := by
  intro p e s m args below meth c H locs ls d0 C hd hP hS hl
  have k := k p e s m args below meth c H locs ls d0 C hd hP hS hl
  refine lv_iadd C.1 C.2.1 d ?_
  rw [← Int32.ofInt_add]
  exact k
theorem v_isub {x y : Int} (d : decode mi.cc pc = .ok (.isub, 1)) (k : V E R mi fin K N M (pc + 1) L (iv (x - y) :: st)) : V E R mi fin K N M pc L (iv y :: iv x :: st) := by
  intro p e s m args below meth c H locs ls d0 C hd hP hS hl
  have k := k p e s m args below meth c H locs ls d0 C hd hP hS hl
  refine lv_isub C.1 C.2.1 d ?_
  rw [← Int32.ofInt_sub]
  exact k
theorem v_imul {x y : Int} (d : decode mi.cc pc = .ok (.imul, 1)) (k : V E R mi fin K N M (pc + 1) L (iv (x * y) :: st)) : V E R mi fin K N M pc L (iv y :: iv x :: st) := by
  intro p e s m args below meth c H locs ls d0 C hd hP hS hl
  have k := k p e s m args below meth c H locs ls d0 C hd hP hS hl
  refine lv_imul C.1 C.2.1 d ?_
  rw [← Int32.ofInt_mul]
  exact k
theorem v_ladd {x y : Int} (d : decode mi.cc pc = .ok (.ladd, 1)) (k : V E R mi fin K N M (pc + 1) L (jv (x + y) :: st)) : V E R mi fin K N M pc L (jv y :: jv x :: st) := by
  intro p e s m args below meth c H locs ls d0 C hd hP hS hl
  have k := k p e s m args below meth c H locs ls d0 C hd hP hS hl
  refine lv_ladd C.1 C.2.1 d ?_
  rw [← Int64.ofInt_add]
  exact k
theorem v_lsub {x y : Int} (d : decode mi.cc pc = .ok (.lsub, 1)) (k : V E R mi fin K N M (pc + 1) L (jv (x - y) :: st)) : V E R mi fin K N M pc L (jv y :: jv x :: st) := by
  intro p e s m args below meth c H locs ls d0 C hd hP hS hl
  have k := k p e s m args below meth c H locs ls d0 C hd hP hS hl
  refine lv_lsub C.1 C.2.1 d ?_
  rw [← Int64.ofInt_sub]
  exact k
theorem v_lmul {x y : Int} (d : decode mi.cc pc = .ok (.lmul, 1)) (k : V E R mi fin K N M (pc + 1) L (jv (x * y) :: st)) : V E R mi fin K N M pc L (jv y :: jv x :: st) := by
  intro p e s m args below meth c H locs ls d0 C hd hP hS hl
  have k := k p e s m args below meth c H locs ls d0 C hd hP hS hl
  refine lv_lmul C.1 C.2.1 d ?_
  rw [← Int64.ofInt_mul]
  exact k
theorem v_idiv {x y : Int} (d : decode mi.cc pc = .ok (.idiv, 1)) (h1 : 0 ≤ x) (h2 : x < 2147483648) (h3 : 0 < y) (h4 : y < 2147483648) (k : V E R mi fin K N M (pc + 1) L (iv (x / y) :: st)) : V E R mi fin K N M pc L (iv y :: iv x :: st) := by
  intro p e s m args below meth c H locs ls d0 C hd hP hS hl
  have k := k p e s m args below meth c H locs ls d0 C hd hP hS hl
  refine lv_idiv C.1 C.2.1 d (fun q => by rw [i_zero, i_eq ⟨by omega, by omega⟩ ⟨by omega, by omega⟩] at q; omega) ?_
  rw [i_div h1 h2 h3 h4]
  exact k
theorem v_iand {x y z : Int} (d : decode mi.cc pc = .ok (.iand, 1)) (h : Int32.ofInt x &&& Int32.ofInt y = Int32.ofInt z) (k : V E R mi fin K N M (pc + 1) L (iv z :: st)) : V E R mi fin K N M pc L (iv y :: iv x :: st) := by
  intro p e s m args below meth c H locs ls d0 C hd hP hS hl
  have k := k p e s m args below meth c H locs ls d0 C hd hP hS hl
  refine lv_iand C.1 C.2.1 d ?_
  rw [h]
  exact k
theorem v_ior {x y z : Int} (d : decode mi.cc pc = .ok (.ior, 1)) (h : Int32.ofInt x ||| Int32.ofInt y = Int32.ofInt z) (k : V E R mi fin K N M (pc + 1) L (iv z :: st)) : V E R mi fin K N M pc L (iv y :: iv x :: st) := by
  intro p e s m args below meth c H locs ls d0 C hd hP hS hl
  have k := k p e s m args below meth c H locs ls d0 C hd hP hS hl
  refine lv_ior C.1 C.2.1 d ?_
  rw [h]
  exact k
theorem v_ishl {x y z : Int} (d : decode mi.cc pc = .ok (.ishl, 1)) (h : Int32.ofInt x <<< (Int32.ofInt y &&& 31) = Int32.ofInt z) (k : V E R mi fin K N M (pc + 1) L (iv z :: st)) : V E R mi fin K N M pc L (iv y :: iv x :: st) := by
  intro p e s m args below meth c H locs ls d0 C hd hP hS hl
  have k := k p e s m args below meth c H locs ls d0 C hd hP hS hl
  refine lv_ishl C.1 C.2.1 d ?_
  rw [h]
  exact k
theorem v_ishr {x y z : Int} (d : decode mi.cc pc = .ok (.ishr, 1)) (h : Int32.ofInt x >>> (Int32.ofInt y &&& 31) = Int32.ofInt z) (k : V E R mi fin K N M (pc + 1) L (iv z :: st)) : V E R mi fin K N M pc L (iv y :: iv x :: st) := by
  intro p e s m args below meth c H locs ls d0 C hd hP hS hl
  have k := k p e s m args below meth c H locs ls d0 C hd hP hS hl
  refine lv_ishr C.1 C.2.1 d ?_
  rw [h]
  exact k
theorem v_iushr {x y z : Int} (d : decode mi.cc pc = .ok (.iushr, 1)) (h : ((Int32.ofInt x).toUInt32 >>> ((Int32.ofInt y).toUInt32 &&& Int32.toUInt32 31)).toInt32 = Int32.ofInt z) (k : V E R mi fin K N M (pc + 1) L (iv z :: st)) : V E R mi fin K N M pc L (iv y :: iv x :: st) := by
  intro p e s m args below meth c H locs ls d0 C hd hP hS hl
  have k := k p e s m args below meth c H locs ls d0 C hd hP hS hl
  refine lv_iushr C.1 C.2.1 d h ?_
  exact k
theorem v_i2b {x z : Int} (d : decode mi.cc pc = .ok (.i2b, 1)) (h : (Int32.ofInt x).toInt8.toInt32 = Int32.ofInt z) (k : V E R mi fin K N M (pc + 1) L (iv z :: st)) : V E R mi fin K N M pc L (iv x :: st) := by
  intro p e s m args below meth c H locs ls d0 C hd hP hS hl
  have k := k p e s m args below meth c H locs ls d0 C hd hP hS hl
  refine lv_i2b C.1 C.2.1 d h ?_
  exact k
theorem v_i2c {x z : Int} (d : decode mi.cc pc = .ok (.i2c, 1)) (h : ((Int32.ofInt x).toUInt32 % 65536).toInt32 = Int32.ofInt z) (k : V E R mi fin K N M (pc + 1) L (iv z :: st)) : V E R mi fin K N M pc L (iv x :: st) := by
  intro p e s m args below meth c H locs ls d0 C hd hP hS hl
  have k := k p e s m args below meth c H locs ls d0 C hd hP hS hl
  refine lv_i2c C.1 C.2.1 d h ?_
  exact k
theorem v_i2l {x : Int} (d : decode mi.cc pc = .ok (.i2l, 1)) (h : I32 x) (k : V E R mi fin K N M (pc + 1) L (jv x :: st)) : V E R mi fin K N M pc L (iv x :: st) := by
  intro p e s m args below meth c H locs ls d0 C hd hP hS hl
  have k := k p e s m args below meth c H locs ls d0 C hd hP hS hl
  refine lv_i2l C.1 C.2.1 d (i_long h) ?_
  exact k
theorem v_dupi {x : Int} (d : decode mi.cc pc = .ok (.dup, 1)) (k : V E R mi fin K N M (pc + 1) L (iv x :: iv x :: st)) : V E R mi fin K N M pc L (iv x :: st) := by
  intro p e s m args below meth c H locs ls d0 C hd hP hS hl
  have k := k p e s m args below meth c H locs ls d0 C hd hP hS hl
  refine lv_dup C.1 C.2.1 d rfl ?_
  exact k
theorem v_dupr {r : Option Nat} (d : decode mi.cc pc = .ok (.dup, 1)) (k : V E R mi fin K N M (pc + 1) L (ro E r :: ro E r :: st)) : V E R mi fin K N M pc L (ro E r :: st) := by
  intro p e s m args below meth c H locs ls d0 C hd hP hS hl
  have k := k p e s m args below meth c H locs ls d0 C hd hP hS hl
  refine lv_dup C.1 C.2.1 d (by cases r <;> rfl) ?_
  exact k
theorem v_popi {x : Int} (d : decode mi.cc pc = .ok (.pop, 1)) (k : V E R mi fin K N M (pc + 1) L (st)) : V E R mi fin K N M pc L (iv x :: st) := by
  intro p e s m args below meth c H locs ls d0 C hd hP hS hl
  have k := k p e s m args below meth c H locs ls d0 C hd hP hS hl
  refine lv_pop C.1 C.2.1 d rfl ?_
  exact k
theorem v_popr {r : Option Nat} (d : decode mi.cc pc = .ok (.pop, 1)) (k : V E R mi fin K N M (pc + 1) L (st)) : V E R mi fin K N M pc L (ro E r :: st) := by
  intro p e s m args below meth c H locs ls d0 C hd hP hS hl
  have k := k p e s m args below meth c H locs ls d0 C hd hP hS hl
  refine lv_pop C.1 C.2.1 d (by cases r <;> rfl) ?_
  exact k
theorem v_dup2ir {x : Int} {r : Option Nat} (d : decode mi.cc pc = .ok (.dup2, 1)) (k : V E R mi fin K N M (pc + 1) L (iv x :: ro E r :: iv x :: ro E r :: st)) : V E R mi fin K N M pc L (iv x :: ro E r :: st) := by
  intro p e s m args below meth c H locs ls d0 C hd hP hS hl
  have k := k p e s m args below meth c H locs ls d0 C hd hP hS hl
  refine lv_dup2_11 C.1 C.2.1 d rfl (by cases r <;> rfl) ?_
  exact k
theorem v_null (d : decode mi.cc pc = .ok (.aconst_null, 1)) (k : V E R mi fin K N M (pc + 1) L (ro E none :: st)) : V E R mi fin K N M pc L (st) := by
  intro p e s m args below meth c H locs ls d0 C hd hP hS hl
  have k := k p e s m args below meth c H locs ls d0 C hd hP hS hl
  refine lv_null C.1 C.2.1 d ?_
  exact k
theorem v_fconst0 (d : decode mi.cc pc = .ok (.fconst 0, 1)) (k : V E R mi fin K N M (pc + 1) L (fv FP.fconst0 :: st)) : V E R mi fin K N M pc L (st) := by
  intro p e s m args below meth c H locs ls d0 C hd hP hS hl
  have k := k p e s m args below meth c H locs ls d0 C hd hP hS hl
  refine lv_fconst0 C.1 C.2.1 d ?_
  exact k
theorem v_i2f {x : Int} (d : decode mi.cc pc = .ok (.i2f, 1)) (k : V E R mi fin K N M (pc + 1) L (fv (FP.i2f (Int32.ofInt x)) :: st)) : V E R mi fin K N M pc L (iv x :: st) := by
  intro p e s m args below meth c H locs ls d0 C hd hP hS hl
  have k := k p e s m args below meth c H locs ls d0 C hd hP hS hl
  refine lv_i2f C.1 C.2.1 d ?_
  exact k
theorem v_f2i {x : UInt32} (d : decode mi.cc pc = .ok (.f2i, 1)) (k : V E R mi fin K N M (pc + 1) L (iv (FP.f2i x).toInt :: st)) : V E R mi fin K N M pc L (fv x :: st) := by
  intro p e s m args below meth c H locs ls d0 C hd hP hS hl
  have k := k p e s m args below meth c H locs ls d0 C hd hP hS hl
  refine lv_f2i C.1 C.2.1 d ?_
  rw [← Int32.ofInt_toInt (FP.f2i x)]
  exact k
theorem v_ldcf {i : Nat} {v : UInt32} (d : decode mi.cc pc = .ok (.ldc i, 2)) (hw : Cond.constantFloat mi.y.cls i v ∈ lw_tbl) (k : V E R mi fin K N M (pc + 2) L (fv v :: st)) : V E R mi fin K N M pc L (st) := by
  intro p e s m args below meth c H locs ls d0 C hd hP hS hl
  have k := k p e s m args below meth c H locs ls d0 C hd hP hS hl
  refine lv_ldcf C.1 C.2.1 (C.own d0) (C.word d0 hw rfl) d ?_
  exact k
theorem v_ldc2 {i : Nat} {v : Int64} (d : decode mi.cc pc = .ok (.ldc2_w i, 3)) (hw : Cond.constantLong mi.y.cls i v ∈ lw_tbl) (k : V E R mi fin K N M (pc + 3) L (jv v.toInt :: st)) : V E R mi fin K N M pc L (st) := by
  intro p e s m args below meth c H locs ls d0 C hd hP hS hl
  have k := k p e s m args below meth c H locs ls d0 C hd hP hS hl
  refine lv_ldc2 C.1 C.2.1 (C.own d0) (C.word d0 hw rfl) d ?_
  rw [← Int64.ofInt_toInt v]
  exact k
theorem v_ldcw {i : Nat} {v : Int32} (d : decode mi.cc pc = .ok (.ldc_w i, 3)) (hw : Cond.constant mi.y.cls i v ∈ lw_tbl) (k : V E R mi fin K N M (pc + 3) L (iv v.toInt :: st)) : V E R mi fin K N M pc L (st) := by
  intro p e s m args below meth c H locs ls d0 C hd hP hS hl
  have k := k p e s m args below meth c H locs ls d0 C hd hP hS hl
  refine lv_ldcw C.1 C.2.1 (C.own d0) (C.word d0 hw rfl) d ?_
  rw [← Int32.ofInt_toInt v]
  exact k
theorem v_ldc {i : Nat} {v : Int32} (d : decode mi.cc pc = .ok (.ldc i, 2)) (hw : Cond.constant mi.y.cls i v ∈ lw_tbl) (k : V E R mi fin K N M (pc + 2) L (iv v.toInt :: st)) : V E R mi fin K N M pc L (st) := by
  intro p e s m args below meth c H locs ls d0 C hd hP hS hl
  have k := k p e s m args below meth c H locs ls d0 C hd hP hS hl
  refine lv_ldc C.1 C.2.1 (C.own d0) (C.word d0 hw rfl) d ?_
  rw [← Int32.ofInt_toInt v]
  exact k
theorem v_fadd {x y : UInt32} (d : decode mi.cc pc = .ok (.fadd, 1)) (k : ∀ r : UInt32, alike32 r (FP.fadd x y) = true → V E R mi fin K N M (pc + 1) L (fv r :: st)) : V E R mi fin K N M pc L (fv y :: fv x :: st) := by
  intro p e s m args below meth c H locs ls d0 C hd hP hS hl
  refine lv_fadd_any hd lw_bits C.1 C.2.1 d (fun r d1 hal hd1 => ?_)
  exact k r hal p e s m args below meth c H locs ls d1 C hd1 hP hS hl
theorem v_fsub {x y : UInt32} (d : decode mi.cc pc = .ok (.fsub, 1)) (k : ∀ r : UInt32, alike32 r (FP.fsub x y) = true → V E R mi fin K N M (pc + 1) L (fv r :: st)) : V E R mi fin K N M pc L (fv y :: fv x :: st) := by
  intro p e s m args below meth c H locs ls d0 C hd hP hS hl
  refine lv_fsub_any hd lw_bits C.1 C.2.1 d (fun r d1 hal hd1 => ?_)
  exact k r hal p e s m args below meth c H locs ls d1 C hd1 hP hS hl
theorem v_fmul {x y : UInt32} (d : decode mi.cc pc = .ok (.fmul, 1)) (k : ∀ r : UInt32, alike32 r (FP.fmul x y) = true → V E R mi fin K N M (pc + 1) L (fv r :: st)) : V E R mi fin K N M pc L (fv y :: fv x :: st) := by
  intro p e s m args below meth c H locs ls d0 C hd hP hS hl
  refine lv_fmul_any hd lw_bits C.1 C.2.1 d (fun r d1 hal hd1 => ?_)
  exact k r hal p e s m args below meth c H locs ls d1 C hd1 hP hS hl
theorem v_fdiv {x y : UInt32} (d : decode mi.cc pc = .ok (.fdiv, 1)) (k : ∀ r : UInt32, alike32 r (FP.fdiv x y) = true → V E R mi fin K N M (pc + 1) L (fv r :: st)) : V E R mi fin K N M pc L (fv y :: fv x :: st) := by
  intro p e s m args below meth c H locs ls d0 C hd hP hS hl
  refine lv_fdiv_any hd lw_bits C.1 C.2.1 d (fun r d1 hal hd1 => ?_)
  exact k r hal p e s m args below meth c H locs ls d1 C hd1 hP hS hl
theorem v_icmp_eq {x y off : Int} {tgt : Nat} (d : decode mi.cc pc = .ok (.if_icmp .eq off, 3)) (ht : (pc : Int) + off = (tgt : Int)) (hx : I32 x) (hy : I32 y) (kt : x = y → V E R mi fin K N M tgt L st) (kf : ¬ (x = y) → V E R mi fin K N M (pc + 3) L st) : V E R mi fin K N M pc L (iv y :: iv x :: st) := by
  intro p e s m args below meth c H locs ls d0 C hd hP hS hl
  refine lv_icmp_eq C.1 C.2.1 d ht (fun q => kt ?_ p e s m args below meth c H locs ls d0 C hd hP hS hl) (fun q => kf ?_ p e s m args below meth c H locs ls d0 C hd hP hS hl)
  · rw [i_eq hx hy] at q; exact q
  · rw [i_eq hx hy] at q; exact q
theorem v_if_eq {x off : Int} {tgt : Nat} (d : decode mi.cc pc = .ok (.ifCond .eq off, 3)) (ht : (pc : Int) + off = (tgt : Int)) (hx : I32 x) (kt : x = 0 → V E R mi fin K N M tgt L st) (kf : ¬ (x = 0) → V E R mi fin K N M (pc + 3) L st) : V E R mi fin K N M pc L (iv x :: st) := by
  intro p e s m args below meth c H locs ls d0 C hd hP hS hl
  have hy : I32 0 := ⟨by omega, by omega⟩
  refine lv_if_eq C.1 C.2.1 d ht (fun q => kt ((i_eq hx hy).mp q) p e s m args below meth c H locs ls d0 C hd hP hS hl) (fun q => kf (fun z => q ((i_eq hx hy).mpr z)) p e s m args below meth c H locs ls d0 C hd hP hS hl)
theorem v_icmp_ne {x y off : Int} {tgt : Nat} (d : decode mi.cc pc = .ok (.if_icmp .ne off, 3)) (ht : (pc : Int) + off = (tgt : Int)) (hx : I32 x) (hy : I32 y) (kt : ¬ x = y → V E R mi fin K N M tgt L st) (kf : x = y → V E R mi fin K N M (pc + 3) L st) : V E R mi fin K N M pc L (iv y :: iv x :: st) := by
  intro p e s m args below meth c H locs ls d0 C hd hP hS hl
  exact lv_icmp_ne C.1 C.2.1 d ht (fun q => kt (fun z => q ((i_eq hx hy).mpr z)) p e s m args below meth c H locs ls d0 C hd hP hS hl) (fun q => kf ((i_eq hx hy).mp q) p e s m args below meth c H locs ls d0 C hd hP hS hl)
theorem v_if_ne {x off : Int} {tgt : Nat} (d : decode mi.cc pc = .ok (.ifCond .ne off, 3)) (ht : (pc : Int) + off = (tgt : Int)) (hx : I32 x) (kt : ¬ x = 0 → V E R mi fin K N M tgt L st) (kf : x = 0 → V E R mi fin K N M (pc + 3) L st) : V E R mi fin K N M pc L (iv x :: st) := by
  intro p e s m args below meth c H locs ls d0 C hd hP hS hl
  have hy : I32 0 := ⟨by omega, by omega⟩
  exact lv_if_ne C.1 C.2.1 d ht (fun q => kt (fun z => q ((i_eq hx hy).mpr z)) p e s m args below meth c H locs ls d0 C hd hP hS hl) (fun q => kf ((i_eq hx hy).mp q) p e s m args below meth c H locs ls d0 C hd hP hS hl)
theorem v_icmp_lt {x y off : Int} {tgt : Nat} (d : decode mi.cc pc = .ok (.if_icmp .lt off, 3)) (ht : (pc : Int) + off = (tgt : Int)) (hx : I32 x) (hy : I32 y) (kt : x < y → V E R mi fin K N M tgt L st) (kf : ¬ (x < y) → V E R mi fin K N M (pc + 3) L st) : V E R mi fin K N M pc L (iv y :: iv x :: st) := by
  intro p e s m args below meth c H locs ls d0 C hd hP hS hl
  refine lv_icmp_lt C.1 C.2.1 d ht (fun q => kt ?_ p e s m args below meth c H locs ls d0 C hd hP hS hl) (fun q => kf ?_ p e s m args below meth c H locs ls d0 C hd hP hS hl)
  · rw [i_lt hx hy] at q; exact q
  · rw [i_lt hx hy] at q; exact q
theorem v_if_lt {x off : Int} {tgt : Nat} (d : decode mi.cc pc = .ok (.ifCond .lt off, 3)) (ht : (pc : Int) + off = (tgt : Int)) (hx : I32 x) (kt : x < 0 → V E R mi fin K N M tgt L st) (kf : ¬ (x < 0) → V E R mi fin K N M (pc + 3) L st) : V E R mi fin K N M pc L (iv x :: st) := by
  intro p e s m args below meth c H locs ls d0 C hd hP hS hl
  have hy : I32 0 := ⟨by omega, by omega⟩
  refine lv_if_lt C.1 C.2.1 d ht (fun q => kt ((i_lt hx hy).mp q) p e s m args below meth c H locs ls d0 C hd hP hS hl) (fun q => kf (fun z => q ((i_lt hx hy).mpr z)) p e s m args below meth c H locs ls d0 C hd hP hS hl)
theorem v_icmp_ge {x y off : Int} {tgt : Nat} (d : decode mi.cc pc = .ok (.if_icmp .ge off, 3)) (ht : (pc : Int) + off = (tgt : Int)) (hx : I32 x) (hy : I32 y) (kt : y ≤ x → V E R mi fin K N M tgt L st) (kf : ¬ (y ≤ x) → V E R mi fin K N M (pc + 3) L st) : V E R mi fin K N M pc L (iv y :: iv x :: st) := by
  intro p e s m args below meth c H locs ls d0 C hd hP hS hl
  refine lv_icmp_ge C.1 C.2.1 d ht (fun q => kt ?_ p e s m args below meth c H locs ls d0 C hd hP hS hl) (fun q => kf ?_ p e s m args below meth c H locs ls d0 C hd hP hS hl)
  · first | exact (i_le hy hx).mp q | (have q : _ := q; rw [ge_iff_le, i_le hy hx] at q; exact q) | (rw [gt_iff_lt, i_le hy hx] at q; exact q)
  · first | (exact fun z => q ((i_le hy hx).mpr z)) | (rw [ge_iff_le, i_le hy hx] at q; exact q)
theorem v_if_ge {x off : Int} {tgt : Nat} (d : decode mi.cc pc = .ok (.ifCond .ge off, 3)) (ht : (pc : Int) + off = (tgt : Int)) (hx : I32 x) (kt : 0 ≤ x → V E R mi fin K N M tgt L st) (kf : ¬ (0 ≤ x) → V E R mi fin K N M (pc + 3) L st) : V E R mi fin K N M pc L (iv x :: st) := by
  intro p e s m args below meth c H locs ls d0 C hd hP hS hl
  have hy : I32 0 := ⟨by omega, by omega⟩
  refine lv_if_ge C.1 C.2.1 d ht (fun q => kt ((i_le hy hx).mp q) p e s m args below meth c H locs ls d0 C hd hP hS hl) (fun q => kf (fun z => q ((i_le hy hx).mpr z)) p e s m args below meth c H locs ls d0 C hd hP hS hl)
theorem v_icmp_gt {x y off : Int} {tgt : Nat} (d : decode mi.cc pc = .ok (.if_icmp .gt off, 3)) (ht : (pc : Int) + off = (tgt : Int)) (hx : I32 x) (hy : I32 y) (kt : y < x → V E R mi fin K N M tgt L st) (kf : ¬ (y < x) → V E R mi fin K N M (pc + 3) L st) : V E R mi fin K N M pc L (iv y :: iv x :: st) := by
  intro p e s m args below meth c H locs ls d0 C hd hP hS hl
  refine lv_icmp_gt C.1 C.2.1 d ht (fun q => kt ?_ p e s m args below meth c H locs ls d0 C hd hP hS hl) (fun q => kf ?_ p e s m args below meth c H locs ls d0 C hd hP hS hl)
  · first | exact (i_lt hy hx).mp q | (have q : _ := q; rw [ge_iff_le, i_lt hy hx] at q; exact q) | (rw [gt_iff_lt, i_lt hy hx] at q; exact q)
  · first | (exact fun z => q ((i_lt hy hx).mpr z)) | (rw [ge_iff_le, i_lt hy hx] at q; exact q)
theorem v_if_gt {x off : Int} {tgt : Nat} (d : decode mi.cc pc = .ok (.ifCond .gt off, 3)) (ht : (pc : Int) + off = (tgt : Int)) (hx : I32 x) (kt : 0 < x → V E R mi fin K N M tgt L st) (kf : ¬ (0 < x) → V E R mi fin K N M (pc + 3) L st) : V E R mi fin K N M pc L (iv x :: st) := by
  intro p e s m args below meth c H locs ls d0 C hd hP hS hl
  have hy : I32 0 := ⟨by omega, by omega⟩
  refine lv_if_gt C.1 C.2.1 d ht (fun q => kt ((i_lt hy hx).mp q) p e s m args below meth c H locs ls d0 C hd hP hS hl) (fun q => kf (fun z => q ((i_lt hy hx).mpr z)) p e s m args below meth c H locs ls d0 C hd hP hS hl)
theorem v_icmp_le {x y off : Int} {tgt : Nat} (d : decode mi.cc pc = .ok (.if_icmp .le off, 3)) (ht : (pc : Int) + off = (tgt : Int)) (hx : I32 x) (hy : I32 y) (kt : x ≤ y → V E R mi fin K N M tgt L st) (kf : ¬ (x ≤ y) → V E R mi fin K N M (pc + 3) L st) : V E R mi fin K N M pc L (iv y :: iv x :: st) := by
  intro p e s m args below meth c H locs ls d0 C hd hP hS hl
  refine lv_icmp_le C.1 C.2.1 d ht (fun q => kt ?_ p e s m args below meth c H locs ls d0 C hd hP hS hl) (fun q => kf ?_ p e s m args below meth c H locs ls d0 C hd hP hS hl)
  · rw [i_le hx hy] at q; exact q
  · rw [i_le hx hy] at q; exact q
theorem v_if_le {x off : Int} {tgt : Nat} (d : decode mi.cc pc = .ok (.ifCond .le off, 3)) (ht : (pc : Int) + off = (tgt : Int)) (hx : I32 x) (kt : x ≤ 0 → V E R mi fin K N M tgt L st) (kf : ¬ (x ≤ 0) → V E R mi fin K N M (pc + 3) L st) : V E R mi fin K N M pc L (iv x :: st) := by
  intro p e s m args below meth c H locs ls d0 C hd hP hS hl
  have hy : I32 0 := ⟨by omega, by omega⟩
  refine lv_if_le C.1 C.2.1 d ht (fun q => kt ((i_le hx hy).mp q) p e s m args below meth c H locs ls d0 C hd hP hS hl) (fun q => kf (fun z => q ((i_le hx hy).mpr z)) p e s m args below meth c H locs ls d0 C hd hP hS hl)
theorem v_ifeq_b {P : Prop} [Decidable P] {off : Int} {tgt : Nat} (d : decode mi.cc pc = .ok (.ifCond .eq off, 3)) (ht : (pc : Int) + off = (tgt : Int)) (kt : ¬ P → V E R mi fin K N M tgt L st) (kf : P → V E R mi fin K N M (pc + 3) L st) : V E R mi fin K N M pc L (iv (pI P) :: st) := by
  by_cases h : P
  · rw [pI_t h]
    exact v_if_eq d ht ⟨by omega, by omega⟩ (fun q => absurd q (by decide)) (fun q => kf h)
  · rw [pI_f h]
    exact v_if_eq d ht ⟨by omega, by omega⟩ (fun q => kt h) (fun q => absurd rfl q)
theorem v_ifne_b {P : Prop} [Decidable P] {off : Int} {tgt : Nat} (d : decode mi.cc pc = .ok (.ifCond .ne off, 3)) (ht : (pc : Int) + off = (tgt : Int)) (kt : P → V E R mi fin K N M tgt L st) (kf : ¬ P → V E R mi fin K N M (pc + 3) L st) : V E R mi fin K N M pc L (iv (pI P) :: st) := by
  by_cases h : P
  · rw [pI_t h]
    exact v_if_ne d ht ⟨by omega, by omega⟩ (fun q => kt h) (fun q => absurd q (by decide))
  · rw [pI_f h]
    exact v_if_ne d ht ⟨by omega, by omega⟩ (fun q => absurd rfl q) (fun q => kf h)
theorem v_goto {off : Int} {tgt : Nat} (d : decode mi.cc pc = .ok (.goto off, 3)) (ht : (pc : Int) + off = (tgt : Int)) (k : V E R mi fin K N M tgt L st) : V E R mi fin K N M pc L st := by
  intro p e s m args below meth c H locs ls d0 C hd hP hS hl
  exact lv_goto C.1 C.2.1 d ht (k p e s m args below meth c H locs ls d0 C hd hP hS hl)
theorem v_ifnull_s {a : Nat} {off : Int} (d : decode mi.cc pc = .ok (.ifnull off, 3)) (k : V E R mi fin K N M (pc + 3) L st) : V E R mi fin K N M pc L (rr E a :: st) := by
  intro p e s m args below meth c H locs ls d0 C hd hP hS hl
  exact lv_ifnull C.1 C.2.1 d (k p e s m args below meth c H locs ls d0 C hd hP hS hl)
theorem v_ifnull_n {off : Int} {tgt : Nat} (d : decode mi.cc pc = .ok (.ifnull off, 3)) (ht : (pc : Int) + off = (tgt : Int)) (k : V E R mi fin K N M tgt L st) : V E R mi fin K N M pc L (ro E none :: st) := by
  intro p e s m args below meth c H locs ls d0 C hd hP hS hl
  exact lv_ifnullN C.1 C.2.1 d ht (k p e s m args below meth c H locs ls d0 C hd hP hS hl)
theorem v_ifnonnull_s {a : Nat} {off : Int} {tgt : Nat} (d : decode mi.cc pc = .ok (.ifnonnull off, 3)) (ht : (pc : Int) + off = (tgt : Int)) (k : V E R mi fin K N M tgt L st) : V E R mi fin K N M pc L (rr E a :: st) := by
  intro p e s m args below meth c H locs ls d0 C hd hP hS hl
  exact lv_ifnonnull C.1 C.2.1 d ht (k p e s m args below meth c H locs ls d0 C hd hP hS hl)
theorem v_ifnonnull_n {off : Int} (d : decode mi.cc pc = .ok (.ifnonnull off, 3)) (k : V E R mi fin K N M (pc + 3) L st) : V E R mi fin K N M pc L (ro E none :: st) := by
  intro p e s m args below meth c H locs ls d0 C hd hP hS hl
  exact lv_ifnonnullN C.1 C.2.1 d (k p e s m args below meth c H locs ls d0 C hd hP hS hl)
theorem v_lcmp {x y : Int} (d : decode mi.cc pc = .ok (.lcmp, 1)) (hx : -9223372036854775808 ≤ x ∧ x < 9223372036854775808) (hy : -9223372036854775808 ≤ y ∧ y < 9223372036854775808) (k : V E R mi fin K N M (pc + 1) L (iv (if y < x then 1 else if x = y then 0 else -1) :: st)) : V E R mi fin K N M pc L (jv y :: jv x :: st) := by
  intro p e s m args below meth c H locs ls d0 C hd hP hS hl
  have k := k p e s m args below meth c H locs ls d0 C hd hP hS hl
  refine W.lcmp C.1 C.2.1 d ?_
  have ex : (Int64.ofInt x).toInt = x := Int64.toInt_ofInt_of_le (by omega) (by omega)
  have ey : (Int64.ofInt y).toInt = y := Int64.toInt_ofInt_of_le (by omega) (by omega)
  have e : lg_cmp (Int64.ofInt x) (Int64.ofInt y) = Int32.ofInt (if y < x then 1 else if x = y then 0 else -1) := by
    unfold lg_cmp
    simp only [gt_iff_lt, Int64.lt_iff_toInt_lt, ← Int64.toInt_inj, ex, ey]
    by_cases h1 : y < x
    · simp only [h1, if_true]; rfl
    · by_cases h2 : x = y
      · simp only [h1, h2, if_true, if_false]; split <;> first | omega | rfl
      · simp only [h1, h2, if_false]; rfl
  rw [e]
  exact k
theorem v_swout {x dflt lo hi : Int} {offs : Array Int} {len tgt : Nat} (d : decode mi.cc pc = .ok (.tableswitch dflt lo hi offs, len)) (hx : I32 x) (h : x < lo ∨ hi < x) (ht : (pc : Int) + dflt = (tgt : Int)) (k : V E R mi fin K N M tgt L st) : V E R mi fin K N M pc L (iv x :: st) := by
  intro p e s m args below meth c H locs ls d0 C hd hP hS hl
  exact lv_tableOut C.1 C.2.1 d (by rw [i_toInt hx]; exact h) ht (k p e s m args below meth c H locs ls d0 C hd hP hS hl)
theorem v_swin {x dflt lo hi off : Int} {offs : Array Int} {len tgt : Nat} (d : decode mi.cc pc = .ok (.tableswitch dflt lo hi offs, len)) (hx : I32 x) (h1 : lo ≤ x) (h2 : x ≤ hi) (ho : offs[(x - lo).toNat]? = some off) (ht : (pc : Int) + off = (tgt : Int)) (k : V E R mi fin K N M tgt L st) : V E R mi fin K N M pc L (iv x :: st) := by
  intro p e s m args below meth c H locs ls d0 C hd hP hS hl
  exact lv_tableIn C.1 C.2.1 d (by rw [i_toInt hx]; omega) (by rw [i_toInt hx]; omega) (by rw [i_toInt hx]; exact ho) ht (k p e s m args below meth c H locs ls d0 C hd hP hS hl)
theorem v_iloadn {x : Int} {q : Fin 4} {i : Nat} (d : decode mi.cc pc = .ok (.iload_n q, 1)) (hi : (q : Nat) = i) (h : L[i]? = some (some (iv x))) (k : V E R mi fin K N M (pc + 1) L (iv x :: st)) : V E R mi fin K N M pc L st := by
  intro p e s m args below meth c H locs ls d0 C hd hP hS hl
  exact lv_iload_n C.1 C.2.1 d hi (asc_at hl h) (k p e s m args below meth c H locs ls d0 C hd hP hS hl)
theorem v_iload {x : Int} {i : Nat} (d : decode mi.cc pc = .ok (.iload i, 2)) (h : L[i]? = some (some (iv x))) (k : V E R mi fin K N M (pc + 2) L (iv x :: st)) : V E R mi fin K N M pc L st := by
  intro p e s m args below meth c H locs ls d0 C hd hP hS hl
  exact lv_iload C.1 C.2.1 d (asc_at hl h) (k p e s m args below meth c H locs ls d0 C hd hP hS hl)
theorem v_floadn {x : UInt32} {q : Fin 4} {i : Nat} (d : decode mi.cc pc = .ok (.fload_n q, 1)) (hi : (q : Nat) = i) (h : L[i]? = some (some (fv x))) (k : V E R mi fin K N M (pc + 1) L (fv x :: st)) : V E R mi fin K N M pc L st := by
  intro p e s m args below meth c H locs ls d0 C hd hP hS hl
  exact lv_fload_n C.1 C.2.1 d hi (asc_at hl h) (k p e s m args below meth c H locs ls d0 C hd hP hS hl)
theorem v_fload {x : UInt32} {i : Nat} (d : decode mi.cc pc = .ok (.fload i, 2)) (h : L[i]? = some (some (fv x))) (k : V E R mi fin K N M (pc + 2) L (fv x :: st)) : V E R mi fin K N M pc L st := by
  intro p e s m args below meth c H locs ls d0 C hd hP hS hl
  exact lv_fload C.1 C.2.1 d (asc_at hl h) (k p e s m args below meth c H locs ls d0 C hd hP hS hl)
theorem v_lloadn {x : Int} {q : Fin 4} {i : Nat} (d : decode mi.cc pc = .ok (.lload_n q, 1)) (hi : (q : Nat) = i) (h : L[i]? = some (some (jv x))) (k : V E R mi fin K N M (pc + 1) L (jv x :: st)) : V E R mi fin K N M pc L st := by
  intro p e s m args below meth c H locs ls d0 C hd hP hS hl
  exact lv_lload_n C.1 C.2.1 d hi (asc_at hl h) (k p e s m args below meth c H locs ls d0 C hd hP hS hl)
theorem v_lload {x : Int} {i : Nat} (d : decode mi.cc pc = .ok (.lload i, 2)) (h : L[i]? = some (some (jv x))) (k : V E R mi fin K N M (pc + 2) L (jv x :: st)) : V E R mi fin K N M pc L st := by
  intro p e s m args below meth c H locs ls d0 C hd hP hS hl
  exact lv_lload C.1 C.2.1 d (asc_at hl h) (k p e s m args below meth c H locs ls d0 C hd hP hS hl)
theorem v_aloadn {r : Option Nat} {q : Fin 4} {i : Nat} (d : decode mi.cc pc = .ok (.aload_n q, 1)) (hi : (q : Nat) = i) (h : L[i]? = some (some (ro E r))) (k : V E R mi fin K N M (pc + 1) L (ro E r :: st)) : V E R mi fin K N M pc L st := by
  intro p e s m args below meth c H locs ls d0 C hd hP hS hl
  cases r with
  | none => exact lv_aload_nN C.1 C.2.1 d hi (asc_at hl h) (k p e s m args below meth c H locs ls d0 C hd hP hS hl)
  | some a => exact lv_aload_n C.1 C.2.1 d hi (asc_at hl h) (k p e s m args below meth c H locs ls d0 C hd hP hS hl)
theorem v_aload {r : Option Nat} {i : Nat} (d : decode mi.cc pc = .ok (.aload i, 2)) (h : L[i]? = some (some (ro E r))) (k : V E R mi fin K N M (pc + 2) L (ro E r :: st)) : V E R mi fin K N M pc L st := by
  intro p e s m args below meth c H locs ls d0 C hd hP hS hl
  cases r with
  | none => exact lv_aloadN C.1 C.2.1 d (asc_at hl h) (k p e s m args below meth c H locs ls d0 C hd hP hS hl)
  | some a => exact lv_aload C.1 C.2.1 d (asc_at hl h) (k p e s m args below meth c H locs ls d0 C hd hP hS hl)
theorem v_aloadxn {a : Nat} {q : Fin 4} {i : Nat} (d : decode mi.cc pc = .ok (.aload_n q, 1)) (hi : (q : Nat) = i) (h : L[i]? = some (some (xr a))) (k : V E R mi fin K N M (pc + 1) L (xr a :: st)) : V E R mi fin K N M pc L st := by
  intro p e s m args below meth c H locs ls d0 C hd hP hS hl
  exact lv_aload_n C.1 C.2.1 d hi (asc_at hl h) (k p e s m args below meth c H locs ls d0 C hd hP hS hl)
theorem v_istoren {x : Int} {q : Fin 4} {i : Nat} (d : decode mi.cc pc = .ok (.istore_n q, 1)) (hi : (q : Nat) = i) (hn : i < mi.nL) (hc : c1 L = true) (k : V E R mi fin K N M (pc + 1) (L.set i (some (iv x))) st) : V E R mi fin K N M pc L (iv x :: st) := by
  intro p e s m args below meth c H locs ls d0 C hd hP hS hl
  exact lv_istore_n C.1 C.2.1 d hi hl hn rfl (fun ls2 hl2 => k p e s m args below meth c H locs ls2 d0 C hd hP hS (asc_store hc hl2))
theorem v_istore {x : Int} {i : Nat} (d : decode mi.cc pc = .ok (.istore i, 2)) (hn : i < mi.nL) (hc : c1 L = true) (k : V E R mi fin K N M (pc + 2) (L.set i (some (iv x))) st) : V E R mi fin K N M pc L (iv x :: st) := by
  intro p e s m args below meth c H locs ls d0 C hd hP hS hl
  exact lv_istore C.1 C.2.1 d hl hn rfl (fun ls2 hl2 => k p e s m args below meth c H locs ls2 d0 C hd hP hS (asc_store hc hl2))
theorem v_fstoren {x : UInt32} {q : Fin 4} {i : Nat} (d : decode mi.cc pc = .ok (.fstore_n q, 1)) (hi : (q : Nat) = i) (hn : i < mi.nL) (hc : c1 L = true) (k : V E R mi fin K N M (pc + 1) (L.set i (some (fv x))) st) : V E R mi fin K N M pc L (fv x :: st) := by
  intro p e s m args below meth c H locs ls d0 C hd hP hS hl
  exact lv_fstore_n C.1 C.2.1 d hi hl hn rfl (fun ls2 hl2 => k p e s m args below meth c H locs ls2 d0 C hd hP hS (asc_store hc hl2))
theorem v_fstore {x : UInt32} {i : Nat} (d : decode mi.cc pc = .ok (.fstore i, 2)) (hn : i < mi.nL) (hc : c1 L = true) (k : V E R mi fin K N M (pc + 2) (L.set i (some (fv x))) st) : V E R mi fin K N M pc L (fv x :: st) := by
  intro p e s m args below meth c H locs ls d0 C hd hP hS hl
  exact lv_fstore C.1 C.2.1 d hl hn rfl (fun ls2 hl2 => k p e s m args below meth c H locs ls2 d0 C hd hP hS (asc_store hc hl2))
theorem v_astoren {r : Option Nat} {q : Fin 4} {i : Nat} (d : decode mi.cc pc = .ok (.astore_n q, 1)) (hi : (q : Nat) = i) (hn : i < mi.nL) (hc : c1 L = true) (k : V E R mi fin K N M (pc + 1) (L.set i (some (ro E r))) st) : V E R mi fin K N M pc L (ro E r :: st) := by
  intro p e s m args below meth c H locs ls d0 C hd hP hS hl
  cases r with
  | none => exact lv_astore_nN C.1 C.2.1 d hi hl hn rfl (fun ls2 hl2 => k p e s m args below meth c H locs ls2 d0 C hd hP hS (asc_store hc hl2))
  | some a => exact lv_astore_n C.1 C.2.1 d hi hl hn rfl (fun ls2 hl2 => k p e s m args below meth c H locs ls2 d0 C hd hP hS (asc_store hc hl2))
theorem v_astore {r : Option Nat} {i : Nat} (d : decode mi.cc pc = .ok (.astore i, 2)) (hn : i < mi.nL) (hc : c1 L = true) (k : V E R mi fin K N M (pc + 2) (L.set i (some (ro E r))) st) : V E R mi fin K N M pc L (ro E r :: st) := by
  intro p e s m args below meth c H locs ls d0 C hd hP hS hl
  cases r with
  | none => exact lv_astoreN C.1 C.2.1 d hl hn rfl (fun ls2 hl2 => k p e s m args below meth c H locs ls2 d0 C hd hP hS (asc_store hc hl2))
  | some a => exact lv_astore C.1 C.2.1 d hl hn rfl (fun ls2 hl2 => k p e s m args below meth c H locs ls2 d0 C hd hP hS (asc_store hc hl2))
theorem v_iinc {x n : Int} {i : Nat} (d : decode mi.cc pc = .ok (.iinc i n, 3)) (h : L[i]? = some (some (iv x))) (hn : i < mi.nL) (hc : c1 L = true) (k : V E R mi fin K N M (pc + 3) (L.set i (some (iv (x + n)))) st) : V E R mi fin K N M pc L st := by
  intro p e s m args below meth c H locs ls d0 C hd hP hS hl
  obtain ⟨j, hj⟩ := List.getElem?_of_mem (asc_mem.mpr ⟨i, h, by simp⟩ : ((i, iv x) : Nat × Value) ∈ asc 0 L)
  exact lv_iinc (k := j) (v := Int32.ofInt (x + n)) C.1 C.2.1 d hl hj (by rw [Int32.ofInt_add]) hn rfl (fun ls2 hl2 => k p e s m args below meth c H locs ls2 d0 C hd hP hS (asc_store hc hl2))
theorem v_iload_0 {x : Int} {r9 : List (Option Value)} (d : decode mi.cc pc = .ok (.iload_n 0, 1)) (k : V E R mi fin K N M (pc + 1) (some (iv x) :: r9) (iv x :: st)) : V E R mi fin K N M pc (some (iv x) :: r9) st := v_iloadn (i := 0) d rfl rfl k
theorem v_fload_0 {x : UInt32} {r9 : List (Option Value)} (d : decode mi.cc pc = .ok (.fload_n 0, 1)) (k : V E R mi fin K N M (pc + 1) (some (fv x) :: r9) (fv x :: st)) : V E R mi fin K N M pc (some (fv x) :: r9) st := v_floadn (i := 0) d rfl rfl k
theorem v_aload_0 {r : Option Nat} {r9 : List (Option Value)} (d : decode mi.cc pc = .ok (.aload_n 0, 1)) (k : V E R mi fin K N M (pc + 1) (some (ro E r) :: r9) (ro E r :: st)) : V E R mi fin K N M pc (some (ro E r) :: r9) st := v_aloadn (i := 0) d rfl rfl k
theorem v_axload_0 {a : Nat} {r9 : List (Option Value)} (d : decode mi.cc pc = .ok (.aload_n 0, 1)) (k : V E R mi fin K N M (pc + 1) (some (xr a) :: r9) (xr a :: st)) : V E R mi fin K N M pc (some (xr a) :: r9) st := v_aloadxn (i := 0) d rfl rfl k
theorem v_istore_0 {x : Int} {w9 : Option Value} {r9 : List (Option Value)} (d : decode mi.cc pc = .ok (.istore_n 0, 1)) (hn : 0 < mi.nL) (hc : c1 (w9 :: r9) = true) (k : V E R mi fin K N M (pc + 1) (some (iv x) :: r9) st) : V E R mi fin K N M pc (w9 :: r9) (iv x :: st) := v_istoren (i := 0) d rfl hn hc k
theorem v_fstore_0 {x : UInt32} {w9 : Option Value} {r9 : List (Option Value)} (d : decode mi.cc pc = .ok (.fstore_n 0, 1)) (hn : 0 < mi.nL) (hc : c1 (w9 :: r9) = true) (k : V E R mi fin K N M (pc + 1) (some (fv x) :: r9) st) : V E R mi fin K N M pc (w9 :: r9) (fv x :: st) := v_fstoren (i := 0) d rfl hn hc k
theorem v_astore_0 {r : Option Nat} {w9 : Option Value} {r9 : List (Option Value)} (d : decode mi.cc pc = .ok (.astore_n 0, 1)) (hn : 0 < mi.nL) (hc : c1 (w9 :: r9) = true) (k : V E R mi fin K N M (pc + 1) (some (ro E r) :: r9) st) : V E R mi fin K N M pc (w9 :: r9) (ro E r :: st) := v_astoren (i := 0) d rfl hn hc k
theorem v_iinc_0 {x n : Int} {r9 : List (Option Value)} (d : decode mi.cc pc = .ok (.iinc 0 n, 3)) (hn : 0 < mi.nL) (hc : c1 (some (iv x) :: r9) = true) (k : V E R mi fin K N M (pc + 3) (some (iv (x + n)) :: r9) st) : V E R mi fin K N M pc (some (iv x) :: r9) st := v_iinc (i := 0) d rfl hn hc k
theorem v_iload_1 {x : Int} {a0 : Option Value} {r9 : List (Option Value)} (d : decode mi.cc pc = .ok (.iload_n 1, 1)) (k : V E R mi fin K N M (pc + 1) (a0 :: some (iv x) :: r9) (iv x :: st)) : V E R mi fin K N M pc (a0 :: some (iv x) :: r9) st := v_iloadn (i := 1) d rfl rfl k
theorem v_fload_1 {x : UInt32} {a0 : Option Value} {r9 : List (Option Value)} (d : decode mi.cc pc = .ok (.fload_n 1, 1)) (k : V E R mi fin K N M (pc + 1) (a0 :: some (fv x) :: r9) (fv x :: st)) : V E R mi fin K N M pc (a0 :: some (fv x) :: r9) st := v_floadn (i := 1) d rfl rfl k
theorem v_aload_1 {r : Option Nat} {a0 : Option Value} {r9 : List (Option Value)} (d : decode mi.cc pc = .ok (.aload_n 1, 1)) (k : V E R mi fin K N M (pc + 1) (a0 :: some (ro E r) :: r9) (ro E r :: st)) : V E R mi fin K N M pc (a0 :: some (ro E r) :: r9) st := v_aloadn (i := 1) d rfl rfl k
theorem v_lload_1 {x : Int} {a0 : Option Value} {r9 : List (Option Value)} (d : decode mi.cc pc = .ok (.lload_n 1, 1)) (k : V E R mi fin K N M (pc + 1) (a0 :: some (jv x) :: r9) (jv x :: st)) : V E R mi fin K N M pc (a0 :: some (jv x) :: r9) st := v_lloadn (i := 1) d rfl rfl k
theorem v_axload_1 {a : Nat} {a0 : Option Value} {r9 : List (Option Value)} (d : decode mi.cc pc = .ok (.aload_n 1, 1)) (k : V E R mi fin K N M (pc + 1) (a0 :: some (xr a) :: r9) (xr a :: st)) : V E R mi fin K N M pc (a0 :: some (xr a) :: r9) st := v_aloadxn (i := 1) d rfl rfl k
theorem v_istore_1 {x : Int} {w9 : Option Value} {a0 : Option Value} {r9 : List (Option Value)} (d : decode mi.cc pc = .ok (.istore_n 1, 1)) (hn : 1 < mi.nL) (hc : c1 (a0 :: w9 :: r9) = true) (k : V E R mi fin K N M (pc + 1) (a0 :: some (iv x) :: r9) st) : V E R mi fin K N M pc (a0 :: w9 :: r9) (iv x :: st) := v_istoren (i := 1) d rfl hn hc k
theorem v_fstore_1 {x : UInt32} {w9 : Option Value} {a0 : Option Value} {r9 : List (Option Value)} (d : decode mi.cc pc = .ok (.fstore_n 1, 1)) (hn : 1 < mi.nL) (hc : c1 (a0 :: w9 :: r9) = true) (k : V E R mi fin K N M (pc + 1) (a0 :: some (fv x) :: r9) st) : V E R mi fin K N M pc (a0 :: w9 :: r9) (fv x :: st) := v_fstoren (i := 1) d rfl hn hc k
theorem v_astore_1 {r : Option Nat} {w9 : Option Value} {a0 : Option Value} {r9 : List (Option Value)} (d : decode mi.cc pc = .ok (.astore_n 1, 1)) (hn : 1 < mi.nL) (hc : c1 (a0 :: w9 :: r9) = true) (k : V E R mi fin K N M (pc + 1) (a0 :: some (ro E r) :: r9) st) : V E R mi fin K N M pc (a0 :: w9 :: r9) (ro E r :: st) := v_astoren (i := 1) d rfl hn hc k
theorem v_iinc_1 {x n : Int} {a0 : Option Value} {r9 : List (Option Value)} (d : decode mi.cc pc = .ok (.iinc 1 n, 3)) (hn : 1 < mi.nL) (hc : c1 (a0 :: some (iv x) :: r9) = true) (k : V E R mi fin K N M (pc + 3) (a0 :: some (iv (x + n)) :: r9) st) : V E R mi fin K N M pc (a0 :: some (iv x) :: r9) st := v_iinc (i := 1) d rfl hn hc k
theorem v_iload_2 {x : Int} {a0 a1 : Option Value} {r9 : List (Option Value)} (d : decode mi.cc pc = .ok (.iload_n 2, 1)) (k : V E R mi fin K N M (pc + 1) (a0 :: a1 :: some (iv x) :: r9) (iv x :: st)) : V E R mi fin K N M pc (a0 :: a1 :: some (iv x) :: r9) st := v_iloadn (i := 2) d rfl rfl k
theorem v_fload_2 {x : UInt32} {a0 a1 : Option Value} {r9 : List (Option Value)} (d : decode mi.cc pc = .ok (.fload_n 2, 1)) (k : V E R mi fin K N M (pc + 1) (a0 :: a1 :: some (fv x) :: r9) (fv x :: st)) : V E R mi fin K N M pc (a0 :: a1 :: some (fv x) :: r9) st := v_floadn (i := 2) d rfl rfl k
theorem v_aload_2 {r : Option Nat} {a0 a1 : Option Value} {r9 : List (Option Value)} (d : decode mi.cc pc = .ok (.aload_n 2, 1)) (k : V E R mi fin K N M (pc + 1) (a0 :: a1 :: some (ro E r) :: r9) (ro E r :: st)) : V E R mi fin K N M pc (a0 :: a1 :: some (ro E r) :: r9) st := v_aloadn (i := 2) d rfl rfl k
theorem v_axload_2 {a : Nat} {a0 a1 : Option Value} {r9 : List (Option Value)} (d : decode mi.cc pc = .ok (.aload_n 2, 1)) (k : V E R mi fin K N M (pc + 1) (a0 :: a1 :: some (xr a) :: r9) (xr a :: st)) : V E R mi fin K N M pc (a0 :: a1 :: some (xr a) :: r9) st := v_aloadxn (i := 2) d rfl rfl k
theorem v_istore_2 {x : Int} {w9 : Option Value} {a0 a1 : Option Value} {r9 : List (Option Value)} (d : decode mi.cc pc = .ok (.istore_n 2, 1)) (hn : 2 < mi.nL) (hc : c1 (a0 :: a1 :: w9 :: r9) = true) (k : V E R mi fin K N M (pc + 1) (a0 :: a1 :: some (iv x) :: r9) st) : V E R mi fin K N M pc (a0 :: a1 :: w9 :: r9) (iv x :: st) := v_istoren (i := 2) d rfl hn hc k
theorem v_fstore_2 {x : UInt32} {w9 : Option Value} {a0 a1 : Option Value} {r9 : List (Option Value)} (d : decode mi.cc pc = .ok (.fstore_n 2, 1)) (hn : 2 < mi.nL) (hc : c1 (a0 :: a1 :: w9 :: r9) = true) (k : V E R mi fin K N M (pc + 1) (a0 :: a1 :: some (fv x) :: r9) st) : V E R mi fin K N M pc (a0 :: a1 :: w9 :: r9) (fv x :: st) := v_fstoren (i := 2) d rfl hn hc k
theorem v_astore_2 {r : Option Nat} {w9 : Option Value} {a0 a1 : Option Value} {r9 : List (Option Value)} (d : decode mi.cc pc = .ok (.astore_n 2, 1)) (hn : 2 < mi.nL) (hc : c1 (a0 :: a1 :: w9 :: r9) = true) (k : V E R mi fin K N M (pc + 1) (a0 :: a1 :: some (ro E r) :: r9) st) : V E R mi fin K N M pc (a0 :: a1 :: w9 :: r9) (ro E r :: st) := v_astoren (i := 2) d rfl hn hc k
theorem v_iinc_2 {x n : Int} {a0 a1 : Option Value} {r9 : List (Option Value)} (d : decode mi.cc pc = .ok (.iinc 2 n, 3)) (hn : 2 < mi.nL) (hc : c1 (a0 :: a1 :: some (iv x) :: r9) = true) (k : V E R mi fin K N M (pc + 3) (a0 :: a1 :: some (iv (x + n)) :: r9) st) : V E R mi fin K N M pc (a0 :: a1 :: some (iv x) :: r9) st := v_iinc (i := 2) d rfl hn hc k
theorem v_iload_3 {x : Int} {a0 a1 a2 : Option Value} {r9 : List (Option Value)} (d : decode mi.cc pc = .ok (.iload_n 3, 1)) (k : V E R mi fin K N M (pc + 1) (a0 :: a1 :: a2 :: some (iv x) :: r9) (iv x :: st)) : V E R mi fin K N M pc (a0 :: a1 :: a2 :: some (iv x) :: r9) st := v_iloadn (i := 3) d rfl rfl k
theorem v_fload_3 {x : UInt32} {a0 a1 a2 : Option Value} {r9 : List (Option Value)} (d : decode mi.cc pc = .ok (.fload_n 3, 1)) (k : V E R mi fin K N M (pc + 1) (a0 :: a1 :: a2 :: some (fv x) :: r9) (fv x :: st)) : V E R mi fin K N M pc (a0 :: a1 :: a2 :: some (fv x) :: r9) st := v_floadn (i := 3) d rfl rfl k
theorem v_aload_3 {r : Option Nat} {a0 a1 a2 : Option Value} {r9 : List (Option Value)} (d : decode mi.cc pc = .ok (.aload_n 3, 1)) (k : V E R mi fin K N M (pc + 1) (a0 :: a1 :: a2 :: some (ro E r) :: r9) (ro E r :: st)) : V E R mi fin K N M pc (a0 :: a1 :: a2 :: some (ro E r) :: r9) st := v_aloadn (i := 3) d rfl rfl k
theorem v_istore_3 {x : Int} {w9 : Option Value} {a0 a1 a2 : Option Value} {r9 : List (Option Value)} (d : decode mi.cc pc = .ok (.istore_n 3, 1)) (hn : 3 < mi.nL) (hc : c1 (a0 :: a1 :: a2 :: w9 :: r9) = true) (k : V E R mi fin K N M (pc + 1) (a0 :: a1 :: a2 :: some (iv x) :: r9) st) : V E R mi fin K N M pc (a0 :: a1 :: a2 :: w9 :: r9) (iv x :: st) := v_istoren (i := 3) d rfl hn hc k
theorem v_fstore_3 {x : UInt32} {w9 : Option Value} {a0 a1 a2 : Option Value} {r9 : List (Option Value)} (d : decode mi.cc pc = .ok (.fstore_n 3, 1)) (hn : 3 < mi.nL) (hc : c1 (a0 :: a1 :: a2 :: w9 :: r9) = true) (k : V E R mi fin K N M (pc + 1) (a0 :: a1 :: a2 :: some (fv x) :: r9) st) : V E R mi fin K N M pc (a0 :: a1 :: a2 :: w9 :: r9) (fv x :: st) := v_fstoren (i := 3) d rfl hn hc k
theorem v_astore_3 {r : Option Nat} {w9 : Option Value} {a0 a1 a2 : Option Value} {r9 : List (Option Value)} (d : decode mi.cc pc = .ok (.astore_n 3, 1)) (hn : 3 < mi.nL) (hc : c1 (a0 :: a1 :: a2 :: w9 :: r9) = true) (k : V E R mi fin K N M (pc + 1) (a0 :: a1 :: a2 :: some (ro E r) :: r9) st) : V E R mi fin K N M pc (a0 :: a1 :: a2 :: w9 :: r9) (ro E r :: st) := v_astoren (i := 3) d rfl hn hc k
theorem v_iinc_3 {x n : Int} {a0 a1 a2 : Option Value} {r9 : List (Option Value)} (d : decode mi.cc pc = .ok (.iinc 3 n, 3)) (hn : 3 < mi.nL) (hc : c1 (a0 :: a1 :: a2 :: some (iv x) :: r9) = true) (k : V E R mi fin K N M (pc + 3) (a0 :: a1 :: a2 :: some (iv (x + n)) :: r9) st) : V E R mi fin K N M pc (a0 :: a1 :: a2 :: some (iv x) :: r9) st := v_iinc (i := 3) d rfl hn hc k
theorem v_iload_4 {x : Int} {a0 a1 a2 a3 : Option Value} {r9 : List (Option Value)} (d : decode mi.cc pc = .ok (.iload 4, 2)) (k : V E R mi fin K N M (pc + 2) (a0 :: a1 :: a2 :: a3 :: some (iv x) :: r9) (iv x :: st)) : V E R mi fin K N M pc (a0 :: a1 :: a2 :: a3 :: some (iv x) :: r9) st := v_iload (i := 4) d rfl k
theorem v_fload_4 {x : UInt32} {a0 a1 a2 a3 : Option Value} {r9 : List (Option Value)} (d : decode mi.cc pc = .ok (.fload 4, 2)) (k : V E R mi fin K N M (pc + 2) (a0 :: a1 :: a2 :: a3 :: some (fv x) :: r9) (fv x :: st)) : V E R mi fin K N M pc (a0 :: a1 :: a2 :: a3 :: some (fv x) :: r9) st := v_fload (i := 4) d rfl k
theorem v_aload_4 {r : Option Nat} {a0 a1 a2 a3 : Option Value} {r9 : List (Option Value)} (d : decode mi.cc pc = .ok (.aload 4, 2)) (k : V E R mi fin K N M (pc + 2) (a0 :: a1 :: a2 :: a3 :: some (ro E r) :: r9) (ro E r :: st)) : V E R mi fin K N M pc (a0 :: a1 :: a2 :: a3 :: some (ro E r) :: r9) st := v_aload (i := 4) d rfl k
theorem v_istore_4 {x : Int} {w9 : Option Value} {a0 a1 a2 a3 : Option Value} {r9 : List (Option Value)} (d : decode mi.cc pc = .ok (.istore 4, 2)) (hn : 4 < mi.nL) (hc : c1 (a0 :: a1 :: a2 :: a3 :: w9 :: r9) = true) (k : V E R mi fin K N M (pc + 2) (a0 :: a1 :: a2 :: a3 :: some (iv x) :: r9) st) : V E R mi fin K N M pc (a0 :: a1 :: a2 :: a3 :: w9 :: r9) (iv x :: st) := v_istore (i := 4) d hn hc k
theorem v_fstore_4 {x : UInt32} {w9 : Option Value} {a0 a1 a2 a3 : Option Value} {r9 : List (Option Value)} (d : decode mi.cc pc = .ok (.fstore 4, 2)) (hn : 4 < mi.nL) (hc : c1 (a0 :: a1 :: a2 :: a3 :: w9 :: r9) = true) (k : V E R mi fin K N M (pc + 2) (a0 :: a1 :: a2 :: a3 :: some (fv x) :: r9) st) : V E R mi fin K N M pc (a0 :: a1 :: a2 :: a3 :: w9 :: r9) (fv x :: st) := v_fstore (i := 4) d hn hc k
theorem v_astore_4 {r : Option Nat} {w9 : Option Value} {a0 a1 a2 a3 : Option Value} {r9 : List (Option Value)} (d : decode mi.cc pc = .ok (.astore 4, 2)) (hn : 4 < mi.nL) (hc : c1 (a0 :: a1 :: a2 :: a3 :: w9 :: r9) = true) (k : V E R mi fin K N M (pc + 2) (a0 :: a1 :: a2 :: a3 :: some (ro E r) :: r9) st) : V E R mi fin K N M pc (a0 :: a1 :: a2 :: a3 :: w9 :: r9) (ro E r :: st) := v_astore (i := 4) d hn hc k
theorem v_iinc_4 {x n : Int} {a0 a1 a2 a3 : Option Value} {r9 : List (Option Value)} (d : decode mi.cc pc = .ok (.iinc 4 n, 3)) (hn : 4 < mi.nL) (hc : c1 (a0 :: a1 :: a2 :: a3 :: some (iv x) :: r9) = true) (k : V E R mi fin K N M (pc + 3) (a0 :: a1 :: a2 :: a3 :: some (iv (x + n)) :: r9) st) : V E R mi fin K N M pc (a0 :: a1 :: a2 :: a3 :: some (iv x) :: r9) st := v_iinc (i := 4) d rfl hn hc k
theorem v_iload_5 {x : Int} {a0 a1 a2 a3 a4 : Option Value} {r9 : List (Option Value)} (d : decode mi.cc pc = .ok (.iload 5, 2)) (k : V E R mi fin K N M (pc + 2) (a0 :: a1 :: a2 :: a3 :: a4 :: some (iv x) :: r9) (iv x :: st)) : V E R mi fin K N M pc (a0 :: a1 :: a2 :: a3 :: a4 :: some (iv x) :: r9) st := v_iload (i := 5) d rfl k
theorem v_fload_5 {x : UInt32} {a0 a1 a2 a3 a4 : Option Value} {r9 : List (Option Value)} (d : decode mi.cc pc = .ok (.fload 5, 2)) (k : V E R mi fin K N M (pc + 2) (a0 :: a1 :: a2 :: a3 :: a4 :: some (fv x) :: r9) (fv x :: st)) : V E R mi fin K N M pc (a0 :: a1 :: a2 :: a3 :: a4 :: some (fv x) :: r9) st := v_fload (i := 5) d rfl k
theorem v_aload_5 {r : Option Nat} {a0 a1 a2 a3 a4 : Option Value} {r9 : List (Option Value)} (d : decode mi.cc pc = .ok (.aload 5, 2)) (k : V E R mi fin K N M (pc + 2) (a0 :: a1 :: a2 :: a3 :: a4 :: some (ro E r) :: r9) (ro E r :: st)) : V E R mi fin K N M pc (a0 :: a1 :: a2 :: a3 :: a4 :: some (ro E r) :: r9) st := v_aload (i := 5) d rfl k
theorem v_istore_5 {x : Int} {w9 : Option Value} {a0 a1 a2 a3 a4 : Option Value} {r9 : List (Option Value)} (d : decode mi.cc pc = .ok (.istore 5, 2)) (hn : 5 < mi.nL) (hc : c1 (a0 :: a1 :: a2 :: a3 :: a4 :: w9 :: r9) = true) (k : V E R mi fin K N M (pc + 2) (a0 :: a1 :: a2 :: a3 :: a4 :: some (iv x) :: r9) st) : V E R mi fin K N M pc (a0 :: a1 :: a2 :: a3 :: a4 :: w9 :: r9) (iv x :: st) := v_istore (i := 5) d hn hc k
theorem v_fstore_5 {x : UInt32} {w9 : Option Value} {a0 a1 a2 a3 a4 : Option Value} {r9 : List (Option Value)} (d : decode mi.cc pc = .ok (.fstore 5, 2)) (hn : 5 < mi.nL) (hc : c1 (a0 :: a1 :: a2 :: a3 :: a4 :: w9 :: r9) = true) (k : V E R mi fin K N M (pc + 2) (a0 :: a1 :: a2 :: a3 :: a4 :: some (fv x) :: r9) st) : V E R mi fin K N M pc (a0 :: a1 :: a2 :: a3 :: a4 :: w9 :: r9) (fv x :: st) := v_fstore (i := 5) d hn hc k
theorem v_astore_5 {r : Option Nat} {w9 : Option Value} {a0 a1 a2 a3 a4 : Option Value} {r9 : List (Option Value)} (d : decode mi.cc pc = .ok (.astore 5, 2)) (hn : 5 < mi.nL) (hc : c1 (a0 :: a1 :: a2 :: a3 :: a4 :: w9 :: r9) = true) (k : V E R mi fin K N M (pc + 2) (a0 :: a1 :: a2 :: a3 :: a4 :: some (ro E r) :: r9) st) : V E R mi fin K N M pc (a0 :: a1 :: a2 :: a3 :: a4 :: w9 :: r9) (ro E r :: st) := v_astore (i := 5) d hn hc k
theorem v_iinc_5 {x n : Int} {a0 a1 a2 a3 a4 : Option Value} {r9 : List (Option Value)} (d : decode mi.cc pc = .ok (.iinc 5 n, 3)) (hn : 5 < mi.nL) (hc : c1 (a0 :: a1 :: a2 :: a3 :: a4 :: some (iv x) :: r9) = true) (k : V E R mi fin K N M (pc + 3) (a0 :: a1 :: a2 :: a3 :: a4 :: some (iv (x + n)) :: r9) st) : V E R mi fin K N M pc (a0 :: a1 :: a2 :: a3 :: a4 :: some (iv x) :: r9) st := v_iinc (i := 5) d rfl hn hc k
theorem v_iload_6 {x : Int} {a0 a1 a2 a3 a4 a5 : Option Value} {r9 : List (Option Value)} (d : decode mi.cc pc = .ok (.iload 6, 2)) (k : V E R mi fin K N M (pc + 2) (a0 :: a1 :: a2 :: a3 :: a4 :: a5 :: some (iv x) :: r9) (iv x :: st)) : V E R mi fin K N M pc (a0 :: a1 :: a2 :: a3 :: a4 :: a5 :: some (iv x) :: r9) st := v_iload (i := 6) d rfl k
theorem v_fload_6 {x : UInt32} {a0 a1 a2 a3 a4 a5 : Option Value} {r9 : List (Option Value)} (d : decode mi.cc pc = .ok (.fload 6, 2)) (k : V E R mi fin K N M (pc + 2) (a0 :: a1 :: a2 :: a3 :: a4 :: a5 :: some (fv x) :: r9) (fv x :: st)) : V E R mi fin K N M pc (a0 :: a1 :: a2 :: a3 :: a4 :: a5 :: some (fv x) :: r9) st := v_fload (i := 6) d rfl k
theorem v_aload_6 {r : Option Nat} {a0 a1 a2 a3 a4 a5 : Option Value} {r9 : List (Option Value)} (d : decode mi.cc pc = .ok (.aload 6, 2)) (k : V E R mi fin K N M (pc + 2) (a0 :: a1 :: a2 :: a3 :: a4 :: a5 :: some (ro E r) :: r9) (ro E r :: st)) : V E R mi fin K N M pc (a0 :: a1 :: a2 :: a3 :: a4 :: a5 :: some (ro E r) :: r9) st := v_aload (i := 6) d rfl k
theorem v_istore_6 {x : Int} {w9 : Option Value} {a0 a1 a2 a3 a4 a5 : Option Value} {r9 : List (Option Value)} (d : decode mi.cc pc = .ok (.istore 6, 2)) (hn : 6 < mi.nL) (hc : c1 (a0 :: a1 :: a2 :: a3 :: a4 :: a5 :: w9 :: r9) = true) (k : V E R mi fin K N M (pc + 2) (a0 :: a1 :: a2 :: a3 :: a4 :: a5 :: some (iv x) :: r9) st) : V E R mi fin K N M pc (a0 :: a1 :: a2 :: a3 :: a4 :: a5 :: w9 :: r9) (iv x :: st) := v_istore (i := 6) d hn hc k
theorem v_fstore_6 {x : UInt32} {w9 : Option Value} {a0 a1 a2 a3 a4 a5 : Option Value} {r9 : List (Option Value)} (d : decode mi.cc pc = .ok (.fstore 6, 2)) (hn : 6 < mi.nL) (hc : c1 (a0 :: a1 :: a2 :: a3 :: a4 :: a5 :: w9 :: r9) = true) (k : V E R mi fin K N M (pc + 2) (a0 :: a1 :: a2 :: a3 :: a4 :: a5 :: some (fv x) :: r9) st) : V E R mi fin K N M pc (a0 :: a1 :: a2 :: a3 :: a4 :: a5 :: w9 :: r9) (fv x :: st) := v_fstore (i := 6) d hn hc k
theorem v_astore_6 {r : Option Nat} {w9 : Option Value} {a0 a1 a2 a3 a4 a5 : Option Value} {r9 : List (Option Value)} (d : decode mi.cc pc = .ok (.astore 6, 2)) (hn : 6 < mi.nL) (hc : c1 (a0 :: a1 :: a2 :: a3 :: a4 :: a5 :: w9 :: r9) = true) (k : V E R mi fin K N M (pc + 2) (a0 :: a1 :: a2 :: a3 :: a4 :: a5 :: some (ro E r) :: r9) st) : V E R mi fin K N M pc (a0 :: a1 :: a2 :: a3 :: a4 :: a5 :: w9 :: r9) (ro E r :: st) := v_astore (i := 6) d hn hc k
theorem v_iinc_6 {x n : Int} {a0 a1 a2 a3 a4 a5 : Option Value} {r9 : List (Option Value)} (d : decode mi.cc pc = .ok (.iinc 6 n, 3)) (hn : 6 < mi.nL) (hc : c1 (a0 :: a1 :: a2 :: a3 :: a4 :: a5 :: some (iv x) :: r9) = true) (k : V E R mi fin K N M (pc + 3) (a0 :: a1 :: a2 :: a3 :: a4 :: a5 :: some (iv (x + n)) :: r9) st) : V E R mi fin K N M pc (a0 :: a1 :: a2 :: a3 :: a4 :: a5 :: some (iv x) :: r9) st := v_iinc (i := 6) d rfl hn hc k
theorem v_iload_7 {x : Int} {a0 a1 a2 a3 a4 a5 a6 : Option Value} {r9 : List (Option Value)} (d : decode mi.cc pc = .ok (.iload 7, 2)) (k : V E R mi fin K N M (pc + 2) (a0 :: a1 :: a2 :: a3 :: a4 :: a5 :: a6 :: some (iv x) :: r9) (iv x :: st)) : V E R mi fin K N M pc (a0 :: a1 :: a2 :: a3 :: a4 :: a5 :: a6 :: some (iv x) :: r9) st := v_iload (i := 7) d rfl k
theorem v_fload_7 {x : UInt32} {a0 a1 a2 a3 a4 a5 a6 : Option Value} {r9 : List (Option Value)} (d : decode mi.cc pc = .ok (.fload 7, 2)) (k : V E R mi fin K N M (pc + 2) (a0 :: a1 :: a2 :: a3 :: a4 :: a5 :: a6 :: some (fv x) :: r9) (fv x :: st)) : V E R mi fin K N M pc (a0 :: a1 :: a2 :: a3 :: a4 :: a5 :: a6 :: some (fv x) :: r9) st := v_fload (i := 7) d rfl k
theorem v_aload_7 {r : Option Nat} {a0 a1 a2 a3 a4 a5 a6 : Option Value} {r9 : List (Option Value)} (d : decode mi.cc pc = .ok (.aload 7, 2)) (k : V E R mi fin K N M (pc + 2) (a0 :: a1 :: a2 :: a3 :: a4 :: a5 :: a6 :: some (ro E r) :: r9) (ro E r :: st)) : V E R mi fin K N M pc (a0 :: a1 :: a2 :: a3 :: a4 :: a5 :: a6 :: some (ro E r) :: r9) st := v_aload (i := 7) d rfl k
theorem v_istore_7 {x : Int} {w9 : Option Value} {a0 a1 a2 a3 a4 a5 a6 : Option Value} {r9 : List (Option Value)} (d : decode mi.cc pc = .ok (.istore 7, 2)) (hn : 7 < mi.nL) (hc : c1 (a0 :: a1 :: a2 :: a3 :: a4 :: a5 :: a6 :: w9 :: r9) = true) (k : V E R mi fin K N M (pc + 2) (a0 :: a1 :: a2 :: a3 :: a4 :: a5 :: a6 :: some (iv x) :: r9) st) : V E R mi fin K N M pc (a0 :: a1 :: a2 :: a3 :: a4 :: a5 :: a6 :: w9 :: r9) (iv x :: st) := v_istore (i := 7) d hn hc k
theorem v_fstore_7 {x : UInt32} {w9 : Option Value} {a0 a1 a2 a3 a4 a5 a6 : Option Value} {r9 : List (Option Value)} (d : decode mi.cc pc = .ok (.fstore 7, 2)) (hn : 7 < mi.nL) (hc : c1 (a0 :: a1 :: a2 :: a3 :: a4 :: a5 :: a6 :: w9 :: r9) = true) (k : V E R mi fin K N M (pc + 2) (a0 :: a1 :: a2 :: a3 :: a4 :: a5 :: a6 :: some (fv x) :: r9) st) : V E R mi fin K N M pc (a0 :: a1 :: a2 :: a3 :: a4 :: a5 :: a6 :: w9 :: r9) (fv x :: st) := v_fstore (i := 7) d hn hc k
theorem v_astore_7 {r : Option Nat} {w9 : Option Value} {a0 a1 a2 a3 a4 a5 a6 : Option Value} {r9 : List (Option Value)} (d : decode mi.cc pc = .ok (.astore 7, 2)) (hn : 7 < mi.nL) (hc : c1 (a0 :: a1 :: a2 :: a3 :: a4 :: a5 :: a6 :: w9 :: r9) = true) (k : V E R mi fin K N M (pc + 2) (a0 :: a1 :: a2 :: a3 :: a4 :: a5 :: a6 :: some (ro E r) :: r9) st) : V E R mi fin K N M pc (a0 :: a1 :: a2 :: a3 :: a4 :: a5 :: a6 :: w9 :: r9) (ro E r :: st) := v_astore (i := 7) d hn hc k
theorem v_iinc_7 {x n : Int} {a0 a1 a2 a3 a4 a5 a6 : Option Value} {r9 : List (Option Value)} (d : decode mi.cc pc = .ok (.iinc 7 n, 3)) (hn : 7 < mi.nL) (hc : c1 (a0 :: a1 :: a2 :: a3 :: a4 :: a5 :: a6 :: some (iv x) :: r9) = true) (k : V E R mi fin K N M (pc + 3) (a0 :: a1 :: a2 :: a3 :: a4 :: a5 :: a6 :: some (iv (x + n)) :: r9) st) : V E R mi fin K N M pc (a0 :: a1 :: a2 :: a3 :: a4 :: a5 :: a6 :: some (iv x) :: r9) st := v_iinc (i := 7) d rfl hn hc k
theorem v_iload_8 {x : Int} {a0 a1 a2 a3 a4 a5 a6 a7 : Option Value} {r9 : List (Option Value)} (d : decode mi.cc pc = .ok (.iload 8, 2)) (k : V E R mi fin K N M (pc + 2) (a0 :: a1 :: a2 :: a3 :: a4 :: a5 :: a6 :: a7 :: some (iv x) :: r9) (iv x :: st)) : V E R mi fin K N M pc (a0 :: a1 :: a2 :: a3 :: a4 :: a5 :: a6 :: a7 :: some (iv x) :: r9) st := v_iload (i := 8) d rfl k
theorem v_fload_8 {x : UInt32} {a0 a1 a2 a3 a4 a5 a6 a7 : Option Value} {r9 : List (Option Value)} (d : decode mi.cc pc = .ok (.fload 8, 2)) (k : V E R mi fin K N M (pc + 2) (a0 :: a1 :: a2 :: a3 :: a4 :: a5 :: a6 :: a7 :: some (fv x) :: r9) (fv x :: st)) : V E R mi fin K N M pc (a0 :: a1 :: a2 :: a3 :: a4 :: a5 :: a6 :: a7 :: some (fv x) :: r9) st := v_fload (i := 8) d rfl k
theorem v_aload_8 {r : Option Nat} {a0 a1 a2 a3 a4 a5 a6 a7 : Option Value} {r9 : List (Option Value)} (d : decode mi.cc pc = .ok (.aload 8, 2)) (k : V E R mi fin K N M (pc + 2) (a0 :: a1 :: a2 :: a3 :: a4 :: a5 :: a6 :: a7 :: some (ro E r) :: r9) (ro E r :: st)) : V E R mi fin K N M pc (a0 :: a1 :: a2 :: a3 :: a4 :: a5 :: a6 :: a7 :: some (ro E r) :: r9) st := v_aload (i := 8) d rfl k
theorem v_istore_8 {x : Int} {w9 : Option Value} {a0 a1 a2 a3 a4 a5 a6 a7 : Option Value} {r9 : List (Option Value)} (d : decode mi.cc pc = .ok (.istore 8, 2)) (hn : 8 < mi.nL) (hc : c1 (a0 :: a1 :: a2 :: a3 :: a4 :: a5 :: a6 :: a7 :: w9 :: r9) = true) (k : V E R mi fin K N M (pc + 2) (a0 :: a1 :: a2 :: a3 :: a4 :: a5 :: a6 :: a7 :: some (iv x) :: r9) st) : V E R mi fin K N M pc (a0 :: a1 :: a2 :: a3 :: a4 :: a5 :: a6 :: a7 :: w9 :: r9) (iv x :: st) := v_istore (i := 8) d hn hc k
theorem v_fstore_8 {x : UInt32} {w9 : Option Value} {a0 a1 a2 a3 a4 a5 a6 a7 : Option Value} {r9 : List (Option Value)} (d : decode mi.cc pc = .ok (.fstore 8, 2)) (hn : 8 < mi.nL) (hc : c1 (a0 :: a1 :: a2 :: a3 :: a4 :: a5 :: a6 :: a7 :: w9 :: r9) = true) (k : V E R mi fin K N M (pc + 2) (a0 :: a1 :: a2 :: a3 :: a4 :: a5 :: a6 :: a7 :: some (fv x) :: r9) st) : V E R mi fin K N M pc (a0 :: a1 :: a2 :: a3 :: a4 :: a5 :: a6 :: a7 :: w9 :: r9) (fv x :: st) := v_fstore (i := 8) d hn hc k
theorem v_astore_8 {r : Option Nat} {w9 : Option Value} {a0 a1 a2 a3 a4 a5 a6 a7 : Option Value} {r9 : List (Option Value)} (d : decode mi.cc pc = .ok (.astore 8, 2)) (hn : 8 < mi.nL) (hc : c1 (a0 :: a1 :: a2 :: a3 :: a4 :: a5 :: a6 :: a7 :: w9 :: r9) = true) (k : V E R mi fin K N M (pc + 2) (a0 :: a1 :: a2 :: a3 :: a4 :: a5 :: a6 :: a7 :: some (ro E r) :: r9) st) : V E R mi fin K N M pc (a0 :: a1 :: a2 :: a3 :: a4 :: a5 :: a6 :: a7 :: w9 :: r9) (ro E r :: st) := v_astore (i := 8) d hn hc k
theorem v_iinc_8 {x n : Int} {a0 a1 a2 a3 a4 a5 a6 a7 : Option Value} {r9 : List (Option Value)} (d : decode mi.cc pc = .ok (.iinc 8 n, 3)) (hn : 8 < mi.nL) (hc : c1 (a0 :: a1 :: a2 :: a3 :: a4 :: a5 :: a6 :: a7 :: some (iv x) :: r9) = true) (k : V E R mi fin K N M (pc + 3) (a0 :: a1 :: a2 :: a3 :: a4 :: a5 :: a6 :: a7 :: some (iv (x + n)) :: r9) st) : V E R mi fin K N M pc (a0 :: a1 :: a2 :: a3 :: a4 :: a5 :: a6 :: a7 :: some (iv x) :: r9) st := v_iinc (i := 8) d rfl hn hc k
theorem v_iload_9 {x : Int} {a0 a1 a2 a3 a4 a5 a6 a7 a8 : Option Value} {r9 : List (Option Value)} (d : decode mi.cc pc = .ok (.iload 9, 2)) (k : V E R mi fin K N M (pc + 2) (a0 :: a1 :: a2 :: a3 :: a4 :: a5 :: a6 :: a7 :: a8 :: some (iv x) :: r9) (iv x :: st)) : V E R mi fin K N M pc (a0 :: a1 :: a2 :: a3 :: a4 :: a5 :: a6 :: a7 :: a8 :: some (iv x) :: r9) st := v_iload (i := 9) d rfl k
theorem v_fload_9 {x : UInt32} {a0 a1 a2 a3 a4 a5 a6 a7 a8 : Option Value} {r9 : List (Option Value)} (d : decode mi.cc pc = .ok (.fload 9, 2)) (k : V E R mi fin K N M (pc + 2) (a0 :: a1 :: a2 :: a3 :: a4 :: a5 :: a6 :: a7 :: a8 :: some (fv x) :: r9) (fv x :: st)) : V E R mi fin K N M pc (a0 :: a1 :: a2 :: a3 :: a4 :: a5 :: a6 :: a7 :: a8 :: some (fv x) :: r9) st := v_fload (i := 9) d rfl k
theorem v_aload_9 {r : Option Nat} {a0 a1 a2 a3 a4 a5 a6 a7 a8 : Option Value} {r9 : List (Option Value)} (d : decode mi.cc pc = .ok (.aload 9, 2)) (k : V E R mi fin K N M (pc + 2) (a0 :: a1 :: a2 :: a3 :: a4 :: a5 :: a6 :: a7 :: a8 :: some (ro E r) :: r9) (ro E r :: st)) : V E R mi fin K N M pc (a0 :: a1 :: a2 :: a3 :: a4 :: a5 :: a6 :: a7 :: a8 :: some (ro E r) :: r9) st := v_aload (i := 9) d rfl k
theorem v_istore_9 {x : Int} {w9 : Option Value} {a0 a1 a2 a3 a4 a5 a6 a7 a8 : Option Value} {r9 : List (Option Value)} (d : decode mi.cc pc = .ok (.istore 9, 2)) (hn : 9 < mi.nL) (hc : c1 (a0 :: a1 :: a2 :: a3 :: a4 :: a5 :: a6 :: a7 :: a8 :: w9 :: r9) = true) (k : V E R mi fin K N M (pc + 2) (a0 :: a1 :: a2 :: a3 :: a4 :: a5 :: a6 :: a7 :: a8 :: some (iv x) :: r9) st) : V E R mi fin K N M pc (a0 :: a1 :: a2 :: a3 :: a4 :: a5 :: a6 :: a7 :: a8 :: w9 :: r9) (iv x :: st) := v_istore (i := 9) d hn hc k
theorem v_fstore_9 {x : UInt32} {w9 : Option Value} {a0 a1 a2 a3 a4 a5 a6 a7 a8 : Option Value} {r9 : List (Option Value)} (d : decode mi.cc pc = .ok (.fstore 9, 2)) (hn : 9 < mi.nL) (hc : c1 (a0 :: a1 :: a2 :: a3 :: a4 :: a5 :: a6 :: a7 :: a8 :: w9 :: r9) = true) (k : V E R mi fin K N M (pc + 2) (a0 :: a1 :: a2 :: a3 :: a4 :: a5 :: a6 :: a7 :: a8 :: some (fv x) :: r9) st) : V E R mi fin K N M pc (a0 :: a1 :: a2 :: a3 :: a4 :: a5 :: a6 :: a7 :: a8 :: w9 :: r9) (fv x :: st) := v_fstore (i := 9) d hn hc k
theorem v_astore_9 {r : Option Nat} {w9 : Option Value} {a0 a1 a2 a3 a4 a5 a6 a7 a8 : Option Value} {r9 : List (Option Value)} (d : decode mi.cc pc = .ok (.astore 9, 2)) (hn : 9 < mi.nL) (hc : c1 (a0 :: a1 :: a2 :: a3 :: a4 :: a5 :: a6 :: a7 :: a8 :: w9 :: r9) = true) (k : V E R mi fin K N M (pc + 2) (a0 :: a1 :: a2 :: a3 :: a4 :: a5 :: a6 :: a7 :: a8 :: some (ro E r) :: r9) st) : V E R mi fin K N M pc (a0 :: a1 :: a2 :: a3 :: a4 :: a5 :: a6 :: a7 :: a8 :: w9 :: r9) (ro E r :: st) := v_astore (i := 9) d hn hc k
theorem v_iinc_9 {x n : Int} {a0 a1 a2 a3 a4 a5 a6 a7 a8 : Option Value} {r9 : List (Option Value)} (d : decode mi.cc pc = .ok (.iinc 9 n, 3)) (hn : 9 < mi.nL) (hc : c1 (a0 :: a1 :: a2 :: a3 :: a4 :: a5 :: a6 :: a7 :: a8 :: some (iv x) :: r9) = true) (k : V E R mi fin K N M (pc + 3) (a0 :: a1 :: a2 :: a3 :: a4 :: a5 :: a6 :: a7 :: a8 :: some (iv (x + n)) :: r9) st) : V E R mi fin K N M pc (a0 :: a1 :: a2 :: a3 :: a4 :: a5 :: a6 :: a7 :: a8 :: some (iv x) :: r9) st := v_iinc (i := 9) d rfl hn hc k
theorem v_iload_10 {x : Int} {a0 a1 a2 a3 a4 a5 a6 a7 a8 a9 : Option Value} {r9 : List (Option Value)} (d : decode mi.cc pc = .ok (.iload 10, 2)) (k : V E R mi fin K N M (pc + 2) (a0 :: a1 :: a2 :: a3 :: a4 :: a5 :: a6 :: a7 :: a8 :: a9 :: some (iv x) :: r9) (iv x :: st)) : V E R mi fin K N M pc (a0 :: a1 :: a2 :: a3 :: a4 :: a5 :: a6 :: a7 :: a8 :: a9 :: some (iv x) :: r9) st := v_iload (i := 10) d rfl k
theorem v_fload_10 {x : UInt32} {a0 a1 a2 a3 a4 a5 a6 a7 a8 a9 : Option Value} {r9 : List (Option Value)} (d : decode mi.cc pc = .ok (.fload 10, 2)) (k : V E R mi fin K N M (pc + 2) (a0 :: a1 :: a2 :: a3 :: a4 :: a5 :: a6 :: a7 :: a8 :: a9 :: some (fv x) :: r9) (fv x :: st)) : V E R mi fin K N M pc (a0 :: a1 :: a2 :: a3 :: a4 :: a5 :: a6 :: a7 :: a8 :: a9 :: some (fv x) :: r9) st := v_fload (i := 10) d rfl k
theorem v_aload_10 {r : Option Nat} {a0 a1 a2 a3 a4 a5 a6 a7 a8 a9 : Option Value} {r9 : List (Option Value)} (d : decode mi.cc pc = .ok (.aload 10, 2)) (k : V E R mi fin K N M (pc + 2) (a0 :: a1 :: a2 :: a3 :: a4 :: a5 :: a6 :: a7 :: a8 :: a9 :: some (ro E r) :: r9) (ro E r :: st)) : V E R mi fin K N M pc (a0 :: a1 :: a2 :: a3 :: a4 :: a5 :: a6 :: a7 :: a8 :: a9 :: some (ro E r) :: r9) st := v_aload (i := 10) d rfl k
theorem v_istore_10 {x : Int} {w9 : Option Value} {a0 a1 a2 a3 a4 a5 a6 a7 a8 a9 : Option Value} {r9 : List (Option Value)} (d : decode mi.cc pc = .ok (.istore 10, 2)) (hn : 10 < mi.nL) (hc : c1 (a0 :: a1 :: a2 :: a3 :: a4 :: a5 :: a6 :: a7 :: a8 :: a9 :: w9 :: r9) = true) (k : V E R mi fin K N M (pc + 2) (a0 :: a1 :: a2 :: a3 :: a4 :: a5 :: a6 :: a7 :: a8 :: a9 :: some (iv x) :: r9) st) : V E R mi fin K N M pc (a0 :: a1 :: a2 :: a3 :: a4 :: a5 :: a6 :: a7 :: a8 :: a9 :: w9 :: r9) (iv x :: st) := v_istore (i := 10) d hn hc k
theorem v_fstore_10 {x : UInt32} {w9 : Option Value} {a0 a1 a2 a3 a4 a5 a6 a7 a8 a9 : Option Value} {r9 : List (Option Value)} (d : decode mi.cc pc = .ok (.fstore 10, 2)) (hn : 10 < mi.nL) (hc : c1 (a0 :: a1 :: a2 :: a3 :: a4 :: a5 :: a6 :: a7 :: a8 :: a9 :: w9 :: r9) = true) (k : V E R mi fin K N M (pc + 2) (a0 :: a1 :: a2 :: a3 :: a4 :: a5 :: a6 :: a7 :: a8 :: a9 :: some (fv x) :: r9) st) : V E R mi fin K N M pc (a0 :: a1 :: a2 :: a3 :: a4 :: a5 :: a6 :: a7 :: a8 :: a9 :: w9 :: r9) (fv x :: st) := v_fstore (i := 10) d hn hc k
theorem v_astore_10 {r : Option Nat} {w9 : Option Value} {a0 a1 a2 a3 a4 a5 a6 a7 a8 a9 : Option Value} {r9 : List (Option Value)} (d : decode mi.cc pc = .ok (.astore 10, 2)) (hn : 10 < mi.nL) (hc : c1 (a0 :: a1 :: a2 :: a3 :: a4 :: a5 :: a6 :: a7 :: a8 :: a9 :: w9 :: r9) = true) (k : V E R mi fin K N M (pc + 2) (a0 :: a1 :: a2 :: a3 :: a4 :: a5 :: a6 :: a7 :: a8 :: a9 :: some (ro E r) :: r9) st) : V E R mi fin K N M pc (a0 :: a1 :: a2 :: a3 :: a4 :: a5 :: a6 :: a7 :: a8 :: a9 :: w9 :: r9) (ro E r :: st) := v_astore (i := 10) d hn hc k
theorem v_iinc_10 {x n : Int} {a0 a1 a2 a3 a4 a5 a6 a7 a8 a9 : Option Value} {r9 : List (Option Value)} (d : decode mi.cc pc = .ok (.iinc 10 n, 3)) (hn : 10 < mi.nL) (hc : c1 (a0 :: a1 :: a2 :: a3 :: a4 :: a5 :: a6 :: a7 :: a8 :: a9 :: some (iv x) :: r9) = true) (k : V E R mi fin K N M (pc + 3) (a0 :: a1 :: a2 :: a3 :: a4 :: a5 :: a6 :: a7 :: a8 :: a9 :: some (iv (x + n)) :: r9) st) : V E R mi fin K N M pc (a0 :: a1 :: a2 :: a3 :: a4 :: a5 :: a6 :: a7 :: a8 :: a9 :: some (iv x) :: r9) st := v_iinc (i := 10) d rfl hn hc k
end RULES
