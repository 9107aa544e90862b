set_option maxRecDepth 100000 in
theorem c_X4_hasRoom {E : Ev} {M : Mem} {Post : Option Value → Mem → Prop} {a : Nat} {b : Value} {n x : Int} (hT : M[a]? = some (ob 4 [b, iv n])) (hn : 0 ≤ n) (hn2 : n ≤ 640) (hx : 0 ≤ x) (hx2 : x ≤ 1000) (hp : Post (some (iv (pI (n + x ≤ 640)))) M) : Cn E rX4_hasRoom mX4_hasRoom [rr E a, iv x] M Post := by
  refine Cn.of (L := [some (rr E a), some (iv x)]) (by decide) (Nat.le_of_ble_eq_true rfl) rfl ?_
  refine v_aload_0 dX4_hasRoom_0 ?_
  refine g_X4_15 rfl dX4_hasRoom_1 hT ?_
  refine v_iload_1 dX4_hasRoom_4 ?_
  refine v_iadd dX4_hasRoom_5 ?_
  refine v_sipush dX4_hasRoom_6 (by decide) ?_
  refine v_icmp_gt (tgt := 16) dX4_hasRoom_9 rfl ⟨by omega, by omega⟩ ⟨by omega, by omega⟩ (fun c9 => ?_) (fun c9 => ?_)
  · refine v_iconst dX4_hasRoom_16 ?_
    exact v_zret dX4_hasRoom_17 rfl (Nat.le_refl _) (Nat.le_refl _) (by first | exact Or.inl rfl | exact Or.inr rfl) (by first | exact ret_t (by omega) hp | exact ret_f (by omega) hp)
  · refine v_iconst dX4_hasRoom_12 ?_
    refine v_goto (tgt := 17) dX4_hasRoom_13 rfl ?_
    exact v_zret dX4_hasRoom_17 rfl (Nat.le_refl _) (Nat.le_refl _) (by first | exact Or.inl rfl | exact Or.inr rfl) (by first | exact ret_t (by omega) hp | exact ret_f (by omega) hp)

set_option maxRecDepth 100000 in
theorem c_X4_cutTo {E : Ev} {M : Mem} {Post : Option Value → Mem → Prop} {a : Nat} {b : Value} {n x : Int} (hT : M[a]? = some (ob 4 [b, iv n])) (hn : 0 ≤ n) (hn2 : n ≤ 640) (hx : I32 x) (hp : 0 ≤ x → x ≤ n → Post (some (iv 1)) (M.set a (ob 4 [b, iv x]))) (hq : ¬ (0 ≤ x ∧ x ≤ n) → Post (some (iv 0)) M) : Cn E rX4_cutTo mX4_cutTo [rr E a, iv x] M Post := by
  refine Cn.of (L := [some (rr E a), some (iv x)]) (by decide) (Nat.le_of_ble_eq_true rfl) rfl ?_
  refine v_iload_1 dX4_cutTo_0 ?_
  refine v_if_lt (tgt := 12) dX4_cutTo_1 rfl hx (fun c1 => ?_) (fun c1 => ?_)
  · refine v_iconst dX4_cutTo_12 ?_
    exact v_zret dX4_cutTo_13 rfl (Nat.le_refl _) (Nat.le_refl _) (by first | exact Or.inl rfl | exact Or.inr rfl) (hq (by omega))
  · refine v_iload_1 dX4_cutTo_4 ?_
    refine v_aload_0 dX4_cutTo_5 ?_
    refine g_X4_15 rfl dX4_cutTo_6 hT ?_
    refine v_icmp_le (tgt := 14) dX4_cutTo_9 rfl hx ⟨by omega, by omega⟩ (fun c9 => ?_) (fun c9 => ?_)
    · refine v_aload_0 dX4_cutTo_14 ?_
      refine v_iload_1 dX4_cutTo_15 ?_
      refine p_X4_15 rfl dX4_cutTo_16 hT ?_
      refine v_iconst dX4_cutTo_19 ?_
      exact v_zret dX4_cutTo_20 rfl (Nat.le_refl _) (Nat.le_refl _) (by first | exact Or.inl rfl | exact Or.inr rfl) (hp (by omega) (by omega))
    · refine v_iconst dX4_cutTo_12 ?_
      exact v_zret dX4_cutTo_13 rfl (Nat.le_refl _) (Nat.le_refl _) (by first | exact Or.inl rfl | exact Or.inr rfl) (hq (by omega))
